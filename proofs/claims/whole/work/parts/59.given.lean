/-! what the statement gives of the start -/
theorem st_AF {args : Array Value} {s : State} {tm : Term} (harr : (Cond.arrayOf tm .int).before args s = true) (hlen : (Term.length tm).eval args s none [] s = some (.int (Int32.ofNat 6))) (hel : ∀ j : Nat, j < 6 → (Term.elem tm (.int (Int32.ofNat j))).eval args s none [] s = some (.int (aF j))) : ∃ t : Nat, tm.eval args s none [] s = some (.ref t) ∧ va_X t 6 aF s s.heap ∧ t < s.heap.size := by
  obtain ⟨t, ht, cell, h1, h2, h3, h4, h5, h6, -⟩ := va_Tof (f := fun j => .int (aF j)) (A := fun _ => False) (by decide) harr hlen hel (fun _ _ h => h)
  obtain ⟨b, cell2, e1, e2, -⟩ := Term.length_spec hlen
  cases e1.symm.trans ht
  obtain ⟨hc2, -⟩ := State.arrayAt?_spec e2
  cases hc2.symm.trans h1
  have hsz : cell.slots.size < 2 ^ 31 := by
    simp only [Term.eval, ht, e2, Option.bind_eq_bind, Option.bind_some] at hlen
    by_cases hlt : cell.slots.size < 2147483648
    · exact hlt
    · simp [hlt] at hlen
  have h7 : nI cell.slots.size = nI 6 := h5
  have h8 : cell.slots.size = 6 := (nJ_inj (by omega) (by decide)).mp h7
  exact ⟨t, ht, ⟨cell, h1, h2, h3, h8, h6⟩, (Array.getElem?_eq_some_iff.mp h1).1⟩
set_option maxHeartbeats 4000000 in
theorem start_St {s : State} {b : Nat} (hts : ∀ w ∈ lw_tbl, w.before #[Value.ref b] s = true) (hgv : (Jvm.Cond.and given_1 narrow_1).before #[Value.ref b] s = true) : ∃ ad : Nat → Nat, St ad (fun q : Nat => s.heap.size ≤ q) s := by
  have hs := flat_of_before _ hgv
  have hA : ∀ a : Nat, a < s.heap.size → ¬ (fun q : Nat => s.heap.size ≤ q) a := fun a h => Nat.not_le.mpr h
  have el_AT_FIRST : ∀ j : Nat, j < 6 → (Term.elem (Term.static "NorthWheel$Script" "AT_FIRST" "[I") (.int (Int32.ofNat j))).eval #[Value.ref b] s none [] s = some (.int (aF j)) := by
    intro j hj
    rcases (show j = 0 ∨ j = 1 ∨ j = 2 ∨ j = 3 ∨ j = 4 ∨ j = 5 by omega) with rfl | rfl | rfl | rfl | rfl | rfl
    · exact va_eqt (z := 0) (hs (Cond.eq (Term.elem (Term.static "NorthWheel$Script" "AT_FIRST" "[I") (Term.int 0)) (Term.int 0)) (by decide +kernel))
    · exact va_eqt (z := 100) (hs (Cond.eq (Term.elem (Term.static "NorthWheel$Script" "AT_FIRST" "[I") (Term.int 1)) (Term.int 100)) (by decide +kernel))
    · exact va_eqt (z := 0) (hs (Cond.eq (Term.elem (Term.static "NorthWheel$Script" "AT_FIRST" "[I") (Term.int 2)) (Term.int 0)) (by decide +kernel))
    · exact va_eqt (z := 35) (hs (Cond.eq (Term.elem (Term.static "NorthWheel$Script" "AT_FIRST" "[I") (Term.int 3)) (Term.int 35)) (by decide +kernel))
    · exact va_eqt (z := 1) (hs (Cond.eq (Term.elem (Term.static "NorthWheel$Script" "AT_FIRST" "[I") (Term.int 4)) (Term.int 1)) (by decide +kernel))
    · exact va_eqt (z := 0) (hs (Cond.eq (Term.elem (Term.static "NorthWheel$Script" "AT_FIRST" "[I") (Term.int 5)) (Term.int 0)) (by decide +kernel))
  have el_LEAST : ∀ j : Nat, j < 6 → (Term.elem (Term.static "NorthWheel$Script" "LEAST" "[I") (.int (Int32.ofNat j))).eval #[Value.ref b] s none [] s = some (.int (aL j)) := by
    intro j hj
    rcases (show j = 0 ∨ j = 1 ∨ j = 2 ∨ j = 3 ∨ j = 4 ∨ j = 5 by omega) with rfl | rfl | rfl | rfl | rfl | rfl
    · exact va_eqt (z := 0) (hs (Cond.eq (Term.elem (Term.static "NorthWheel$Script" "LEAST" "[I") (Term.int 0)) (Term.int 0)) (by decide +kernel))
    · exact va_eqt (z := 0) (hs (Cond.eq (Term.elem (Term.static "NorthWheel$Script" "LEAST" "[I") (Term.int 1)) (Term.int 0)) (by decide +kernel))
    · exact va_eqt (z := 0) (hs (Cond.eq (Term.elem (Term.static "NorthWheel$Script" "LEAST" "[I") (Term.int 2)) (Term.int 0)) (by decide +kernel))
    · exact va_eqt (z := 0) (hs (Cond.eq (Term.elem (Term.static "NorthWheel$Script" "LEAST" "[I") (Term.int 3)) (Term.int 0)) (by decide +kernel))
    · exact va_eqt (z := 1) (hs (Cond.eq (Term.elem (Term.static "NorthWheel$Script" "LEAST" "[I") (Term.int 4)) (Term.int 1)) (by decide +kernel))
    · exact va_eqt (z := 0) (hs (Cond.eq (Term.elem (Term.static "NorthWheel$Script" "LEAST" "[I") (Term.int 5)) (Term.int 0)) (by decide +kernel))
  have el_GREATEST : ∀ j : Nat, j < 6 → (Term.elem (Term.static "NorthWheel$Script" "GREATEST" "[I") (.int (Int32.ofNat j))).eval #[Value.ref b] s none [] s = some (.int (aG j)) := by
    intro j hj
    rcases (show j = 0 ∨ j = 1 ∨ j = 2 ∨ j = 3 ∨ j = 4 ∨ j = 5 by omega) with rfl | rfl | rfl | rfl | rfl | rfl
    · exact va_eqt (z := 999) (hs (Cond.eq (Term.elem (Term.static "NorthWheel$Script" "GREATEST" "[I") (Term.int 0)) (Term.int 999)) (by decide +kernel))
    · exact va_eqt (z := 999) (hs (Cond.eq (Term.elem (Term.static "NorthWheel$Script" "GREATEST" "[I") (Term.int 1)) (Term.int 999)) (by decide +kernel))
    · exact va_eqt (z := 999) (hs (Cond.eq (Term.elem (Term.static "NorthWheel$Script" "GREATEST" "[I") (Term.int 2)) (Term.int 999)) (by decide +kernel))
    · exact va_eqt (z := 35) (hs (Cond.eq (Term.elem (Term.static "NorthWheel$Script" "GREATEST" "[I") (Term.int 3)) (Term.int 35)) (by decide +kernel))
    · exact va_eqt (z := 99) (hs (Cond.eq (Term.elem (Term.static "NorthWheel$Script" "GREATEST" "[I") (Term.int 4)) (Term.int 99)) (by decide +kernel))
    · exact va_eqt (z := 2) (hs (Cond.eq (Term.elem (Term.static "NorthWheel$Script" "GREATEST" "[I") (Term.int 5)) (Term.int 2)) (by decide +kernel))
  obtain ⟨t1, e1, x1, l1⟩ := st_AF (hs (Cond.arrayOf (Term.static "NorthWheel$Script" "AT_FIRST" "[I") .int) (by decide +kernel)) (va_eqt (hs (Cond.eq (Term.length (Term.static "NorthWheel$Script" "AT_FIRST" "[I")) (Term.int 6)) (by decide +kernel))) el_AT_FIRST
  obtain ⟨t2, e2, x2⟩ := va_Tof (N := 6) (by decide) (hs (Cond.arrayOf (Term.static "NorthWheel$Script" "LEAST" "[I") .int) (by decide +kernel)) (va_eqt (hs (Cond.eq (Term.length (Term.static "NorthWheel$Script" "LEAST" "[I")) (Term.int 6)) (by decide +kernel))) el_LEAST hA
  obtain ⟨t3, e3, x3⟩ := va_Tof (N := 6) (by decide) (hs (Cond.arrayOf (Term.static "NorthWheel$Script" "GREATEST" "[I") .int) (by decide +kernel)) (va_eqt (hs (Cond.eq (Term.length (Term.static "NorthWheel$Script" "GREATEST" "[I")) (Term.int 6)) (by decide +kernel))) el_GREATEST hA
  have str6 : ∀ i : Nat, i < 6 → i = 0 ∨ i = 1 ∨ i = 2 ∨ i = 3 ∨ i = 4 ∨ i = 5 := by intro i hi; omega
  obtain ⟨aK, aV, hV, hE⟩ := vk_Sof (args := #[Value.ref b]) (s := s) (N := 6) (tm := fun i => (Term.string "NorthWheel$Script" (83 + 2 * i))) (len := lenS) (byt := bytS) (A := fun q : Nat => s.heap.size ≤ q) (by decide)
    (by
      intro i hi
      rcases str6 i hi with rfl | rfl | rfl | rfl | rfl | rfl
      · exact hs (Cond.exactly (Term.string "NorthWheel$Script" 83) "java/lang/String") (by decide +kernel)
      · exact hs (Cond.exactly (Term.string "NorthWheel$Script" 85) "java/lang/String") (by decide +kernel)
      · exact hs (Cond.exactly (Term.string "NorthWheel$Script" 87) "java/lang/String") (by decide +kernel)
      · exact hs (Cond.exactly (Term.string "NorthWheel$Script" 89) "java/lang/String") (by decide +kernel)
      · exact hs (Cond.exactly (Term.string "NorthWheel$Script" 91) "java/lang/String") (by decide +kernel)
      · exact hs (Cond.exactly (Term.string "NorthWheel$Script" 93) "java/lang/String") (by decide +kernel)
    )
    (by
      intro i hi
      rcases str6 i hi with rfl | rfl | rfl | rfl | rfl | rfl
      · exact hs (Cond.eq (Term.field (Term.string "NorthWheel$Script" 83) "java/lang/String" "coder" "B") (Term.int 0)) (by decide +kernel)
      · exact hs (Cond.eq (Term.field (Term.string "NorthWheel$Script" 85) "java/lang/String" "coder" "B") (Term.int 0)) (by decide +kernel)
      · exact hs (Cond.eq (Term.field (Term.string "NorthWheel$Script" 87) "java/lang/String" "coder" "B") (Term.int 0)) (by decide +kernel)
      · exact hs (Cond.eq (Term.field (Term.string "NorthWheel$Script" 89) "java/lang/String" "coder" "B") (Term.int 0)) (by decide +kernel)
      · exact hs (Cond.eq (Term.field (Term.string "NorthWheel$Script" 91) "java/lang/String" "coder" "B") (Term.int 0)) (by decide +kernel)
      · exact hs (Cond.eq (Term.field (Term.string "NorthWheel$Script" 93) "java/lang/String" "coder" "B") (Term.int 0)) (by decide +kernel)
    )
    (by
      intro i hi
      rcases str6 i hi with rfl | rfl | rfl | rfl | rfl | rfl
      · exact hs (Cond.arrayOf (Term.field (Term.string "NorthWheel$Script" 83) "java/lang/String" "value" "[B") .byte) (by decide +kernel)
      · exact hs (Cond.arrayOf (Term.field (Term.string "NorthWheel$Script" 85) "java/lang/String" "value" "[B") .byte) (by decide +kernel)
      · exact hs (Cond.arrayOf (Term.field (Term.string "NorthWheel$Script" 87) "java/lang/String" "value" "[B") .byte) (by decide +kernel)
      · exact hs (Cond.arrayOf (Term.field (Term.string "NorthWheel$Script" 89) "java/lang/String" "value" "[B") .byte) (by decide +kernel)
      · exact hs (Cond.arrayOf (Term.field (Term.string "NorthWheel$Script" 91) "java/lang/String" "value" "[B") .byte) (by decide +kernel)
      · exact hs (Cond.arrayOf (Term.field (Term.string "NorthWheel$Script" 93) "java/lang/String" "value" "[B") .byte) (by decide +kernel)
    )
    (by
      intro i hi
      rcases str6 i hi with rfl | rfl | rfl | rfl | rfl | rfl
      · exact hs (Cond.eq (Term.length (Term.field (Term.string "NorthWheel$Script" 83) "java/lang/String" "value" "[B")) (Term.int 4)) (by decide +kernel)
      · exact hs (Cond.eq (Term.length (Term.field (Term.string "NorthWheel$Script" 85) "java/lang/String" "value" "[B")) (Term.int 4)) (by decide +kernel)
      · exact hs (Cond.eq (Term.length (Term.field (Term.string "NorthWheel$Script" 87) "java/lang/String" "value" "[B")) (Term.int 4)) (by decide +kernel)
      · exact hs (Cond.eq (Term.length (Term.field (Term.string "NorthWheel$Script" 89) "java/lang/String" "value" "[B")) (Term.int 4)) (by decide +kernel)
      · exact hs (Cond.eq (Term.length (Term.field (Term.string "NorthWheel$Script" 91) "java/lang/String" "value" "[B")) (Term.int 5)) (by decide +kernel)
      · exact hs (Cond.eq (Term.length (Term.field (Term.string "NorthWheel$Script" 93) "java/lang/String" "value" "[B")) (Term.int 2)) (by decide +kernel)
    )
    (by
      intro i hi j hj
      rcases str6 i hi with rfl | rfl | rfl | rfl | rfl | rfl
      · have hj2 : j < 4 := hj
        rcases (show j = 0 ∨ j = 1 ∨ j = 2 ∨ j = 3 by omega) with rfl | rfl | rfl | rfl
        · exact hs (Cond.eq (Term.elem (Term.field (Term.string "NorthWheel$Script" 83) "java/lang/String" "value" "[B") (Term.int 0)) (Term.int 100)) (by decide +kernel)
        · exact hs (Cond.eq (Term.elem (Term.field (Term.string "NorthWheel$Script" 83) "java/lang/String" "value" "[B") (Term.int 1)) (Term.int 101)) (by decide +kernel)
        · exact hs (Cond.eq (Term.elem (Term.field (Term.string "NorthWheel$Script" 83) "java/lang/String" "value" "[B") (Term.int 2)) (Term.int 97)) (by decide +kernel)
        · exact hs (Cond.eq (Term.elem (Term.field (Term.string "NorthWheel$Script" 83) "java/lang/String" "value" "[B") (Term.int 3)) (Term.int 100)) (by decide +kernel)
      · have hj2 : j < 4 := hj
        rcases (show j = 0 ∨ j = 1 ∨ j = 2 ∨ j = 3 by omega) with rfl | rfl | rfl | rfl
        · exact hs (Cond.eq (Term.elem (Term.field (Term.string "NorthWheel$Script" 85) "java/lang/String" "value" "[B") (Term.int 0)) (Term.int 103)) (by decide +kernel)
        · exact hs (Cond.eq (Term.elem (Term.field (Term.string "NorthWheel$Script" 85) "java/lang/String" "value" "[B") (Term.int 1)) (Term.int 97)) (by decide +kernel)
        · exact hs (Cond.eq (Term.elem (Term.field (Term.string "NorthWheel$Script" 85) "java/lang/String" "value" "[B") (Term.int 2)) (Term.int 105)) (by decide +kernel)
        · exact hs (Cond.eq (Term.elem (Term.field (Term.string "NorthWheel$Script" 85) "java/lang/String" "value" "[B") (Term.int 3)) (Term.int 110)) (by decide +kernel)
      · have hj2 : j < 4 := hj
        rcases (show j = 0 ∨ j = 1 ∨ j = 2 ∨ j = 3 by omega) with rfl | rfl | rfl | rfl
        · exact hs (Cond.eq (Term.elem (Term.field (Term.string "NorthWheel$Script" 87) "java/lang/String" "value" "[B") (Term.int 0)) (Term.int 109)) (by decide +kernel)
        · exact hs (Cond.eq (Term.elem (Term.field (Term.string "NorthWheel$Script" 87) "java/lang/String" "value" "[B") (Term.int 1)) (Term.int 101)) (by decide +kernel)
        · exact hs (Cond.eq (Term.elem (Term.field (Term.string "NorthWheel$Script" 87) "java/lang/String" "value" "[B") (Term.int 2)) (Term.int 101)) (by decide +kernel)
        · exact hs (Cond.eq (Term.elem (Term.field (Term.string "NorthWheel$Script" 87) "java/lang/String" "value" "[B") (Term.int 3)) (Term.int 116)) (by decide +kernel)
      · have hj2 : j < 4 := hj
        rcases (show j = 0 ∨ j = 1 ∨ j = 2 ∨ j = 3 by omega) with rfl | rfl | rfl | rfl
        · exact hs (Cond.eq (Term.elem (Term.field (Term.string "NorthWheel$Script" 89) "java/lang/String" "value" "[B") (Term.int 0)) (Term.int 109)) (by decide +kernel)
        · exact hs (Cond.eq (Term.elem (Term.field (Term.string "NorthWheel$Script" 89) "java/lang/String" "value" "[B") (Term.int 1)) (Term.int 111)) (by decide +kernel)
        · exact hs (Cond.eq (Term.elem (Term.field (Term.string "NorthWheel$Script" 89) "java/lang/String" "value" "[B") (Term.int 2)) (Term.int 115)) (by decide +kernel)
        · exact hs (Cond.eq (Term.elem (Term.field (Term.string "NorthWheel$Script" 89) "java/lang/String" "value" "[B") (Term.int 3)) (Term.int 116)) (by decide +kernel)
      · have hj2 : j < 5 := hj
        rcases (show j = 0 ∨ j = 1 ∨ j = 2 ∨ j = 3 ∨ j = 4 by omega) with rfl | rfl | rfl | rfl | rfl
        · exact hs (Cond.eq (Term.elem (Term.field (Term.string "NorthWheel$Script" 91) "java/lang/String" "value" "[B") (Term.int 0)) (Term.int 101)) (by decide +kernel)
        · exact hs (Cond.eq (Term.elem (Term.field (Term.string "NorthWheel$Script" 91) "java/lang/String" "value" "[B") (Term.int 1)) (Term.int 118)) (by decide +kernel)
        · exact hs (Cond.eq (Term.elem (Term.field (Term.string "NorthWheel$Script" 91) "java/lang/String" "value" "[B") (Term.int 2)) (Term.int 101)) (by decide +kernel)
        · exact hs (Cond.eq (Term.elem (Term.field (Term.string "NorthWheel$Script" 91) "java/lang/String" "value" "[B") (Term.int 3)) (Term.int 114)) (by decide +kernel)
        · exact hs (Cond.eq (Term.elem (Term.field (Term.string "NorthWheel$Script" 91) "java/lang/String" "value" "[B") (Term.int 4)) (Term.int 121)) (by decide +kernel)
      · have hj2 : j < 2 := hj
        rcases (show j = 0 ∨ j = 1 by omega) with rfl | rfl
        · exact hs (Cond.eq (Term.elem (Term.field (Term.string "NorthWheel$Script" 93) "java/lang/String" "value" "[B") (Term.int 0)) (Term.int 98)) (by decide +kernel)
        · exact hs (Cond.eq (Term.elem (Term.field (Term.string "NorthWheel$Script" 93) "java/lang/String" "value" "[B") (Term.int 1)) (Term.int 121)) (by decide +kernel)
    )
    (by
      intro i j hi hj hij
      rcases str6 i hi with rfl | rfl | rfl | rfl | rfl | rfl <;> rcases str6 j hj with rfl | rfl | rfl | rfl | rfl | rfl
      · exact absurd rfl hij
      · exact Or.inl (hs (Cond.not (Cond.eq (Term.string "NorthWheel$Script" 83) (Term.string "NorthWheel$Script" 85))) (by decide +kernel))
      · exact Or.inl (hs (Cond.not (Cond.eq (Term.string "NorthWheel$Script" 83) (Term.string "NorthWheel$Script" 87))) (by decide +kernel))
      · exact Or.inl (hs (Cond.not (Cond.eq (Term.string "NorthWheel$Script" 83) (Term.string "NorthWheel$Script" 89))) (by decide +kernel))
      · exact Or.inl (hs (Cond.not (Cond.eq (Term.string "NorthWheel$Script" 83) (Term.string "NorthWheel$Script" 91))) (by decide +kernel))
      · exact Or.inl (hs (Cond.not (Cond.eq (Term.string "NorthWheel$Script" 83) (Term.string "NorthWheel$Script" 93))) (by decide +kernel))
      · exact Or.inr (hs (Cond.not (Cond.eq (Term.string "NorthWheel$Script" 83) (Term.string "NorthWheel$Script" 85))) (by decide +kernel))
      · exact absurd rfl hij
      · exact Or.inl (hs (Cond.not (Cond.eq (Term.string "NorthWheel$Script" 85) (Term.string "NorthWheel$Script" 87))) (by decide +kernel))
      · exact Or.inl (hs (Cond.not (Cond.eq (Term.string "NorthWheel$Script" 85) (Term.string "NorthWheel$Script" 89))) (by decide +kernel))
      · exact Or.inl (hs (Cond.not (Cond.eq (Term.string "NorthWheel$Script" 85) (Term.string "NorthWheel$Script" 91))) (by decide +kernel))
      · exact Or.inl (hs (Cond.not (Cond.eq (Term.string "NorthWheel$Script" 85) (Term.string "NorthWheel$Script" 93))) (by decide +kernel))
      · exact Or.inr (hs (Cond.not (Cond.eq (Term.string "NorthWheel$Script" 83) (Term.string "NorthWheel$Script" 87))) (by decide +kernel))
      · exact Or.inr (hs (Cond.not (Cond.eq (Term.string "NorthWheel$Script" 85) (Term.string "NorthWheel$Script" 87))) (by decide +kernel))
      · exact absurd rfl hij
      · exact Or.inl (hs (Cond.not (Cond.eq (Term.string "NorthWheel$Script" 87) (Term.string "NorthWheel$Script" 89))) (by decide +kernel))
      · exact Or.inl (hs (Cond.not (Cond.eq (Term.string "NorthWheel$Script" 87) (Term.string "NorthWheel$Script" 91))) (by decide +kernel))
      · exact Or.inl (hs (Cond.not (Cond.eq (Term.string "NorthWheel$Script" 87) (Term.string "NorthWheel$Script" 93))) (by decide +kernel))
      · exact Or.inr (hs (Cond.not (Cond.eq (Term.string "NorthWheel$Script" 83) (Term.string "NorthWheel$Script" 89))) (by decide +kernel))
      · exact Or.inr (hs (Cond.not (Cond.eq (Term.string "NorthWheel$Script" 85) (Term.string "NorthWheel$Script" 89))) (by decide +kernel))
      · exact Or.inr (hs (Cond.not (Cond.eq (Term.string "NorthWheel$Script" 87) (Term.string "NorthWheel$Script" 89))) (by decide +kernel))
      · exact absurd rfl hij
      · exact Or.inl (hs (Cond.not (Cond.eq (Term.string "NorthWheel$Script" 89) (Term.string "NorthWheel$Script" 91))) (by decide +kernel))
      · exact Or.inl (hs (Cond.not (Cond.eq (Term.string "NorthWheel$Script" 89) (Term.string "NorthWheel$Script" 93))) (by decide +kernel))
      · exact Or.inr (hs (Cond.not (Cond.eq (Term.string "NorthWheel$Script" 83) (Term.string "NorthWheel$Script" 91))) (by decide +kernel))
      · exact Or.inr (hs (Cond.not (Cond.eq (Term.string "NorthWheel$Script" 85) (Term.string "NorthWheel$Script" 91))) (by decide +kernel))
      · exact Or.inr (hs (Cond.not (Cond.eq (Term.string "NorthWheel$Script" 87) (Term.string "NorthWheel$Script" 91))) (by decide +kernel))
      · exact Or.inr (hs (Cond.not (Cond.eq (Term.string "NorthWheel$Script" 89) (Term.string "NorthWheel$Script" 91))) (by decide +kernel))
      · exact absurd rfl hij
      · exact Or.inl (hs (Cond.not (Cond.eq (Term.string "NorthWheel$Script" 91) (Term.string "NorthWheel$Script" 93))) (by decide +kernel))
      · exact Or.inr (hs (Cond.not (Cond.eq (Term.string "NorthWheel$Script" 83) (Term.string "NorthWheel$Script" 93))) (by decide +kernel))
      · exact Or.inr (hs (Cond.not (Cond.eq (Term.string "NorthWheel$Script" 85) (Term.string "NorthWheel$Script" 93))) (by decide +kernel))
      · exact Or.inr (hs (Cond.not (Cond.eq (Term.string "NorthWheel$Script" 87) (Term.string "NorthWheel$Script" 93))) (by decide +kernel))
      · exact Or.inr (hs (Cond.not (Cond.eq (Term.string "NorthWheel$Script" 89) (Term.string "NorthWheel$Script" 93))) (by decide +kernel))
      · exact Or.inr (hs (Cond.not (Cond.eq (Term.string "NorthWheel$Script" 91) (Term.string "NorthWheel$Script" 93))) (by decide +kernel))
      · exact absurd rfl hij
    ) hA
  refine ⟨fun k => if k = 64 then t1 else if k = 65 then t2 else if k = 66 then t3 else if k < 80 then aK (k - 70) else aV (k - 80), ?_⟩
  refine ⟨?_, ⟨x1, l1, hA _ l1⟩, ?_, x2, ?_, x3, ?_, ?_, ?_, ?_, ?_, ?_, ?_, ?_, ?_⟩
  · exact va_Zref (hts _ (List.mem_append_right _ (tb_1 (List.mem_of_getElem? (i := 154) rfl)))) (hts _ (List.mem_append_right _ (tb_1 (List.mem_of_getElem? (i := 7) rfl)))) e1 hA
  · exact va_Zref (hts _ (List.mem_append_right _ (tb_3 (List.mem_of_getElem? (i := 144) rfl)))) (hts _ (List.mem_append_right _ (tb_1 (List.mem_of_getElem? (i := 7) rfl)))) e2 hA
  · exact va_Zref (hts _ (List.mem_append_right _ (tb_3 (List.mem_of_getElem? (i := 146) rfl)))) (hts _ (List.mem_append_right _ (tb_1 (List.mem_of_getElem? (i := 7) rfl)))) e3 hA
  · exact va_Zof (hts _ (List.mem_append_right _ (tb_3 (List.mem_of_getElem? (i := 100) rfl)))) (hts _ (List.mem_append_right _ (tb_1 (List.mem_of_getElem? (i := 16) rfl)))) (va_eqt (hs (Cond.eq (Term.static "java/lang/String" "COMPACT_STRINGS" "Z") (Term.int 1)) (by decide +kernel))) hA
  · refine vk_Sc hV (fun i hi => ?_) (fun i hi => ?_)
    · rcases str6 i hi with rfl | rfl | rfl | rfl | rfl | rfl <;> rfl
    · rcases str6 i hi with rfl | rfl | rfl | rfl | rfl | rfl <;> rfl
  · exact vk_R.of (hts _ (List.mem_append_right _ (tb_3 (List.mem_of_getElem? (i := 81) rfl)))) (hE 0 (by decide))
  · exact vk_R.of (hts _ (List.mem_append_right _ (tb_3 (List.mem_of_getElem? (i := 82) rfl)))) (hE 1 (by decide))
  · exact vk_R.of (hts _ (List.mem_append_right _ (tb_3 (List.mem_of_getElem? (i := 83) rfl)))) (hE 2 (by decide))
  · exact vk_R.of (hts _ (List.mem_append_right _ (tb_3 (List.mem_of_getElem? (i := 84) rfl)))) (hE 3 (by decide))
  · exact vk_R.of (hts _ (List.mem_append_right _ (tb_3 (List.mem_of_getElem? (i := 85) rfl)))) (hE 4 (by decide))
  · exact vk_R.of (hts _ (List.mem_append_right _ (tb_3 (List.mem_of_getElem? (i := 86) rfl)))) (hE 5 (by decide))
  · exact va_Zqof (hts _ (List.mem_append_right _ (tb_3 (List.mem_of_getElem? (i := 116) rfl)))) (hts _ (List.mem_append_right _ (tb_1 (List.mem_of_getElem? (i := 18) rfl)))) (hs (Cond.isRef (Term.static "jdk/internal/util/Preconditions" "SIOOBE_FORMATTER" "Ljava/util/function/BiFunction;")) (by decide +kernel)) hA
