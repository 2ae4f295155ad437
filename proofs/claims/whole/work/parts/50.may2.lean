/-! watched swings: all that fit, the tick to be watched next -/
def wCa (c : Nat) : Nat → Int32 := fun j => (pth (nI (c / 21)) (nI (c % 21)) (hol 0) 1 3000 j).1
def wF (g : Nat → Bool) : Nat → Nat
  | 0 => 0
  | c + 1 => wF g c + (if g c then 1 else 0)
def w1 (g : Nat → Bool) : Nat → Int32
  | 0 => -1
  | c + 1 => if g c && decide (wF g c = 0) then 100 * nI (c / 21) + nI (c % 21) else w1 g c
def wLo (g : Nat → Bool) : Nat → Nat → Int32
  | 0, _ => 0
  | c + 1, j => if g c then wmn (decide (wF g c = 0)) (wLo g c j) (wCa c j) else wLo g c j
def wHi (g : Nat → Bool) : Nat → Nat → Int32
  | 0, _ => 0
  | c + 1, j => if g c then wmx (decide (wF g c = 0)) (wHi g c j) (wCa c j) else wHi g c j
theorem wF_le (g : Nat → Bool) : ∀ c, wF g c ≤ c := by
  intro c
  induction c with
  | zero => exact Nat.le_refl 0
  | succ c ih =>
    show wF g c + (if g c then 1 else 0) ≤ c + 1
    split <;> omega
theorem wCa_rg (c j : Nat) : rg (wCa c j) (-18000) 17999 := pth_rg (o := 3000) ⟨by decide, by decide⟩ _ _ _ _ _
theorem nI_iz {n : Nat} (h : n < 2147483648) : nI n = 0 ↔ n = 0 := by
  have e : (nI n).toInt = n := nI_toInt h
  constructor
  · intro z
    have := congrArg Int32.toInt z
    have z0 : (nI n).toInt = 0 := this
    omega
  · intro z
    rw [z]
    rfl
def IX (g : Nat → Bool) (c : Nat) (u : S2) : Prop := u 32 7 = nI (wF g c) ∧ u 32 8 = w1 g c ∧ (wF g c = 0 ∨ ∀ j, j ≤ 60 → u 36 j = wLo g c j ∧ u 37 j = wHi g c j)
def FX (x y : S2) : Prop := (∀ c, c ≠ 17 → c ≠ 35 → c ≠ 36 → c ≠ 37 → c ≠ 32 → y c = x c) ∧ y 32 2 = x 32 2
theorem FX.tr {x y z : S2} (h : FX x y) (k : FX y z) : FX x z := ⟨fun c a b d e f => (k.1 c a b d e f).trans (h.1 c a b d e f), k.2.trans h.2⟩
theorem wmn_eq {z : Bool} {l l2 p : Int32} (h : z = true ∨ l = l2) : wmn z l p = wmn z l2 p := by
  unfold wmn
  rcases h with h | h
  · rw [if_pos h, if_pos h]
  · rw [h]
theorem wmx_eq {z : Bool} {l l2 p : Int32} (h : z = true ∨ l = l2) : wmx z l p = wmx z l2 p := by
  unfold wmx
  rcases h with h | h
  · rw [if_pos h, if_pos h]
  · rw [h]
/-- one pair of numbers, at the class -/
theorem X_one (n : Int32) (S c p d : Nat) (g : Nat → Bool) (u : S2) (hc : c = 21 * p + d) (hp : p < 21) (hd : d < 21) (hS : (u 32 2).toInt = S) (hS2 : S ≤ 10) (ht : ∀ j, rg (u 33 j) 0 60) (hf : ∀ j, rg (u 34 j) (-18000) 17999) (hg : g c = fitB (wCa c) (u 33) (u 34) n S) (hI : IX g c u) (z12 : Int32 → Int32 → S2 → Option S2) (z20 : Int32 → Int32 → Int32 → S2 → Option S2) : ∃ u', IX g (c + 1) u' ∧ FX u u' ∧ bv (f_X10_follow (nI p) (nI d) u) (fun u0 => bd (f_X10_fits n u0) (fun r0 u1 => (if r0 = 0 then f_X10_findThoseThatFit_78 z12 z20 n (nI p) (nI d) u1 else bv (f_X10_widen u1) (fun u2 => (if (u2 32 7) = 0 then f_X10_findThoseThatFit_65 z12 z20 n (nI p) (nI d) (((100) * nI p) + nI d) u2 else f_X10_findThoseThatFit_65 z12 z20 n (nI p) (nI d) (u2 32 8) u2))))) = z20 n (nI p) (nI (d + 1)) u' := by
  have e1 : c / 21 = p := by omega
  have e2 : c % 21 = d := by omega
  obtain ⟨x, k1, k2, k3⟩ := X_fol (nI p) (nI d) u
  have k2' : ∀ j, j ≤ 60 → x 35 j = wCa c j := by
    intro j hj
    rw [k2 j hj]
    unfold wCa
    rw [e1, e2]
  have x32 : x 32 = u 32 := k3 32 (by decide) (by decide)
  have x33 : x 33 = u 33 := k3 33 (by decide) (by decide)
  have x34 : x 34 = u 34 := k3 34 (by decide) (by decide)
  have x36 : x 36 = u 36 := k3 36 (by decide) (by decide)
  have x37 : x 37 = u 37 := k3 37 (by decide) (by decide)
  have fx : FX u x := ⟨fun cc a b _ _ _ => k3 cc a b, by rw [x32]⟩
  have ff := X_fits_l n (wCa c) x S (by rw [x32]; exact hS) hS2 k2' (wCa_rg c) (by rw [x33]; exact ht) (by rw [x34]; exact hf) S FUEL 0 rfl (by omega) (by show S < 1000; omega)
  rw [x33, x34, ← hg] at ff
  have ff2 : f_X10_fits n x = some (if g c then 1 else 0, x) := ff
  have wl := wF_le g c
  obtain ⟨i1, i2, i3⟩ := hI
  rw [k1, bv_some, ff2, bd_some]
  cases eg : g c
  · rw [if_pos (c := (if false = true then (1 : Int32) else 0) = 0) (by decide)]
    unfold f_X10_findThoseThatFit_78
    rw [nm_is, nI_1]
    have s1 : wF g (c + 1) = wF g c := by
      show wF g c + (if g c then 1 else 0) = _
      rw [eg]
      rfl
    have s2 : w1 g (c + 1) = w1 g c := by
      show (if g c && decide (wF g c = 0) then _ else w1 g c) = _
      rw [eg]
      rfl
    refine ⟨x, ⟨?_, ?_, ?_⟩, fx, rfl⟩
    · rw [s1, x32]
      exact i1
    · rw [s2, x32]
      exact i2
    · rw [s1]
      rcases i3 with i3 | i3
      · exact Or.inl i3
      · refine Or.inr (fun j hj => ?_)
        have l1 : wLo g (c + 1) j = wLo g c j := by
          show (if g c then _ else wLo g c j) = _
          rw [eg]
          rfl
        have l2 : wHi g (c + 1) j = wHi g c j := by
          show (if g c then _ else wHi g c j) = _
          rw [eg]
          rfl
        rw [l1, l2, x36, x37]
        exact i3 j hj
  · rw [if_neg (c := (if true = true then (1 : Int32) else 0) = 0) (by decide)]
    have hz : x 32 7 = 0 ↔ decide (wF g c = 0) = true := by
      rw [x32, i1, nI_iz (by omega), decide_eq_true_eq]
    obtain ⟨y, m1, m2, m3, m4⟩ := X_widen_l (decide (wF g c = 0)) (wCa c) (x 36) (x 37) 61 FUEL 0 x hz k2' (fun j _ => by rw [if_neg (by omega)]) (fun j _ => by rw [if_neg (by omega)]) rfl (by decide)
    have m1' : f_X10_widen x = some y := m1
    have y32 : y 32 = u 32 := (m4 32 (by decide) (by decide)).trans x32
    have s1 : wF g (c + 1) = wF g c + 1 := by
      show wF g c + (if g c then 1 else 0) = _
      rw [eg]
      rfl
    have s2 : w1 g (c + 1) = if wF g c = 0 then 100 * nI p + nI d else w1 g c := by
      show (if g c && decide (wF g c = 0) then 100 * nI (c / 21) + nI (c % 21) else w1 g c) = _
      rw [eg, Bool.true_and, e1, e2]
      by_cases q : wF g c = 0
      · rw [if_pos q, decide_eq_true q, if_pos rfl]
      · rw [if_neg q, decide_eq_false q, if_neg (by decide)]
    have fy : FX u y := ⟨fun cc a b d2 e f => (m4 cc d2 e).trans (k3 cc a b), by rw [y32]⟩
    have b36 : ∀ j, j ≤ 60 → y 36 j = wLo g (c + 1) j := by
      intro j hj
      rw [m2 j hj]
      show _ = (if g c then wmn (decide (wF g c = 0)) (wLo g c j) (wCa c j) else wLo g c j)
      rw [eg, if_pos rfl, x36]
      refine wmn_eq ?_
      rcases i3 with q | q
      · exact Or.inl (decide_eq_true q)
      · exact Or.inr (q j hj).1
    have b37 : ∀ j, j ≤ 60 → y 37 j = wHi g (c + 1) j := by
      intro j hj
      rw [m3 j hj]
      show _ = (if g c then wmx (decide (wF g c = 0)) (wHi g c j) (wCa c j) else wHi g c j)
      rw [eg, if_pos rfl, x37]
      refine wmx_eq ?_
      rcases i3 with q | q
      · exact Or.inl (decide_eq_true q)
      · exact Or.inr (q j hj).2
    have fin : ∀ t : Int32, t = w1 g (c + 1) → ∃ u', IX g (c + 1) u' ∧ FX u u' ∧ f_X10_findThoseThatFit_65 z12 z20 n (nI p) (nI d) t y = z20 n (nI p) (nI (d + 1)) u' := by
      intro t et
      refine ⟨wr (wr y 32 8 t) 32 7 (nI (wF g (c + 1))), ⟨rfl, et, Or.inr (fun j hj => ⟨b36 j hj, b37 j hj⟩)⟩, ?_, ?_⟩
      · refine FX.tr fy ⟨fun cc a b d2 e f => by rw [wr_c f, wr_c f], rfl⟩
      · unfold f_X10_findThoseThatFit_65 f_X10_findThoseThatFit_78
        have q7 : (wr y 32 8 t) 32 7 = nI (wF g c) := by
          show y 32 7 = _
          rw [y32]
          exact i1
        rw [nm_is, q7, nI_1, nm_is, nm_is, nm_is, nI_1, s1]
    rw [m1', bv_some]
    have y7 : y 32 7 = nI (wF g c) := by rw [y32]; exact i1
    have y8 : y 32 8 = w1 g c := by rw [y32]; exact i2
    rw [y7, y8]
    by_cases q : wF g c = 0
    · rw [if_pos ((nI_iz (by omega)).mpr q)]
      exact fin _ (by rw [s2, if_pos q])
    · rw [if_neg (fun e => q ((nI_iz (by omega)).mp e))]
      exact fin _ (by rw [s2, if_neg q])
theorem X_in_l (n : Int32) (S p : Nat) (tk f : Nat → Int32) (g : Nat → Bool) (hp : p < 21) (hS2 : S ≤ 10) (ht : ∀ j, rg (tk j) 0 60) (hf : ∀ j, rg (f j) (-18000) 17999) (hg : ∀ c, g c = fitB (wCa c) tk f n S) (z12 : Int32 → Int32 → S2 → Option S2) : ∀ (dd N d : Nat) (u : S2), (u 32 2).toInt = S → u 33 = tk → u 34 = f → IX g (21 * p + d) u → d + dd = 21 → dd < N → ∃ u', IX g (21 * (p + 1)) u' ∧ FX u u' ∧ f_X10_findThoseThatFit_20 z12 N n (nI p) (nI d) u = z12 n (nI (p + 1)) u' := by
  intro dd
  induction dd with
  | zero =>
    intro N d u hS h33 h34 hI hd hN
    obtain ⟨n2, rfl⟩ : ∃ n2, N = n2 + 1 := ⟨N - 1, by omega⟩
    have ed : d = 21 := by omega
    subst ed
    refine ⟨u, hI, ⟨fun _ _ _ _ _ _ => rfl, rfl⟩, ?_⟩
    rw [f_X10_findThoseThatFit_20_e, if_pos (by decide)]
    unfold f_X10_findThoseThatFit_84
    rw [nm_is, nI_1]
  | succ dd ih =>
    intro N d u hS h33 h34 hI hd hN
    obtain ⟨n2, rfl⟩ : ∃ n2, N = n2 + 1 := ⟨N - 1, by omega⟩
    have td : (nI d).toInt = d := nI_toInt (by omega)
    have c : ¬ 20 < nI d := fun z => by have : (20 : Int) < (nI d).toInt := ti_lt.mp z; omega
    obtain ⟨x, a1, a2, a3⟩ := X_one n S (21 * p + d) p d g u rfl hp (by omega) hS hS2 (by rw [h33]; exact ht) (by rw [h34]; exact hf) (by rw [h33, h34]; exact hg _) hI z12 (fun v1 v2 v3 u => f_X10_findThoseThatFit_20 z12 n2 v1 v2 v3 u)
    obtain ⟨y, b1, b2, b3⟩ := ih n2 (d + 1) x (by rw [a2.2]; exact hS) ((a2.1 33 (by decide) (by decide) (by decide) (by decide) (by decide)).trans h33) ((a2.1 34 (by decide) (by decide) (by decide) (by decide) (by decide)).trans h34) a1 (by omega) (by omega)
    refine ⟨y, b1, a2.tr b2, ?_⟩
    rw [f_X10_findThoseThatFit_20_e, if_neg c]
    exact a3.trans b3
theorem X_out_l (n : Int32) (S : Nat) (tk f : Nat → Int32) (g : Nat → Bool) (hS2 : S ≤ 10) (ht : ∀ j, rg (tk j) 0 60) (hf : ∀ j, rg (f j) (-18000) 17999) (hg : ∀ c, g c = fitB (wCa c) tk f n S) : ∀ (dd N p : Nat) (u : S2), (u 32 2).toInt = S → u 33 = tk → u 34 = f → IX g (21 * p) u → p + dd = 21 → dd < N → ∃ u', IX g 441 u' ∧ FX u u' ∧ f_X10_findThoseThatFit_12 N n (nI p) u = some u' := by
  intro dd
  induction dd with
  | zero =>
    intro N p u hS h33 h34 hI hd hN
    obtain ⟨n2, rfl⟩ : ∃ n2, N = n2 + 1 := ⟨N - 1, by omega⟩
    have ed : p = 21 := by omega
    subst ed
    refine ⟨u, hI, ⟨fun _ _ _ _ _ _ => rfl, rfl⟩, ?_⟩
    rw [f_X10_findThoseThatFit_12_e, if_pos (by decide)]
  | succ dd ih =>
    intro N p u hS h33 h34 hI hd hN
    obtain ⟨n2, rfl⟩ : ∃ n2, N = n2 + 1 := ⟨N - 1, by omega⟩
    have td : (nI p).toInt = p := nI_toInt (by omega)
    have c : ¬ 20 < nI p := fun z => by have : (20 : Int) < (nI p).toInt := ti_lt.mp z; omega
    obtain ⟨x, a1, a2, a3⟩ := X_in_l n S p tk f g (by omega) hS2 ht hf hg (fun v1 v2 u => f_X10_findThoseThatFit_12 n2 v1 v2 u) 21 FUEL 0 u hS h33 h34 hI rfl (by decide)
    obtain ⟨y, b1, b2, b3⟩ := ih n2 (p + 1) x (by rw [a2.2]; exact hS) ((a2.1 33 (by decide) (by decide) (by decide) (by decide) (by decide)).trans h33) ((a2.1 34 (by decide) (by decide) (by decide) (by decide) (by decide)).trans h34) a1 (by omega) (by omega)
    refine ⟨y, b1, a2.tr b2, ?_⟩
    rw [f_X10_findThoseThatFit_12_e, if_neg c]
    exact a3.trans b3
def IM (g : Nat → Bool) (c : Nat) (u : S2) : Prop := wF g c = 0 ∨ ∀ j, j ≤ 60 → u 62 j = wLo g c j ∧ u 63 j = wHi g c j
def FM (x y : S2) : Prop := ∀ c, c ≠ 61 → c ≠ 62 → c ≠ 63 → y c = x c
theorem FM.tr {x y z : S2} (h : FM x y) (k : FM y z) : FM x z := fun c a b d => (k c a b d).trans (h c a b d)
theorem M_may_l (n w : Int32) (S : Nat) (tk f : Nat → Int32) (g : Nat → Bool) (hS2 : S ≤ 10) (ht : ∀ j, rg (tk j) 0 60) (hg : ∀ c, g c = fitB (wCa c) tk f n S) : ∀ (dd N c : Nat) (u : S2), (u 38 28).toInt = S → u 59 = tk → u 60 = f → IM g c u → c + dd = 441 → dd < N → ∃ u', IM g 441 u' ∧ FM u u' ∧ f_X12_may_35 N n w (nI (wF g c)) (w1 g c) (nI c) u = f_X12_may_201 w (nI (wF g 441)) (w1 g 441) u' := by
  intro dd
  induction dd with
  | zero =>
    intro N c u hS h59 h60 hI hd hN
    obtain ⟨n2, rfl⟩ : ∃ n2, N = n2 + 1 := ⟨N - 1, by omega⟩
    have ed : c = 441 := by omega
    subst ed
    refine ⟨u, hI, fun _ _ _ _ => rfl, ?_⟩
    rw [f_X12_may_35_e, if_pos (by decide)]
  | succ dd ih =>
    intro N c u hS h59 h60 hI hd hN
    obtain ⟨n2, rfl⟩ : ∃ n2, N = n2 + 1 := ⟨N - 1, by omega⟩
    have tc : (nI c).toInt = c := nI_toInt (by omega)
    have hc : ¬ 441 ≤ nI c := fun z => by have : (441 : Int) ≤ (nI c).toInt := ti_le.mp z; omega
    have wl := wF_le g c
    have d1 : nI c / 21 = nI (c / 21) := by
      refine ti_ext ?_
      rw [ti_div (by decide), tc, nI_toInt (by omega)]
      show (c : Int).tdiv 21 = _
      rw [Int.tdiv_eq_ediv_of_nonneg (by omega)]
      omega
    have d2 : nI c - nI (c / 21) * 21 = nI (c % 21) := by
      refine ti_ext ?_
      have t0 : (nI (c / 21)).toInt = ((c / 21 : Nat) : Int) := nI_toInt (by omega)
      have t1 : (nI (c / 21) * 21).toInt = ((c / 21 : Nat) : Int) * 21 := by
        rw [ti_mul (by rw [t0]; show _ ≤ ((c / 21 : Nat) : Int) * 21; omega) (by rw [t0]; show ((c / 21 : Nat) : Int) * 21 ≤ _; omega), t0]
        rfl
      rw [ti_sub (by omega) (by omega), t1, tc, nI_toInt (by omega)]
      omega
    obtain ⟨x, k1, k2, k3⟩ := M_lay (nI (c / 21)) (nI (c % 21)) 1 0 3000 60 u ⟨by decide, by decide⟩
    have k2' : ∀ j, j ≤ 60 → x 61 j = wCa c j := fun j hj => k2 j (by show (j : Int) ≤ 60; omega)
    have x38 : x 38 = u 38 := k3 38 (by decide)
    have x59 : x 59 = tk := (k3 59 (by decide)).trans h59
    have x60 : x 60 = f := (k3 60 (by decide)).trans h60
    have ff := M_fits_l n (wCa c) x S (by rw [x38]; exact hS) hS2 k2' (by rw [x59]; exact ht) S FUEL 0 (by omega) (by show S < 1000; omega)
    rw [x59, x60, ← hg c] at ff
    have ff2 : f_X12_mayBe (nI (c / 21)) (nI (c % 21)) n u = some (if g c then 1 else 0, x) := by
      unfold f_X12_mayBe
      rw [k1, bv_some]
      exact ff
    have fx : FM u x := fun cc a _ _ => k3 cc a
    rw [f_X12_may_35_e, if_neg hc, nm_is, d1, d2, ff2, bd_some]
    cases eg : g c
    · rw [if_pos (c := (if false = true then (1 : Int32) else 0) = 0) (by decide)]
      unfold f_X12_may_195
      rw [nm_is, nI_1]
      have s1 : wF g c = wF g (c + 1) := by
        show _ = wF g c + (if g c then 1 else 0)
        rw [eg]
        rfl
      have s2 : w1 g c = w1 g (c + 1) := by
        show _ = (if g c && decide (wF g c = 0) then _ else w1 g c)
        rw [eg]
        rfl
      rw [s1, s2]
      obtain ⟨y, b1, b2, b3⟩ := ih n2 (c + 1) x (by rw [x38]; exact hS) x59 x60 (by
        unfold IM
        rw [← s1]
        rcases hI with q | q
        · exact Or.inl q
        · refine Or.inr (fun j hj => ?_)
          have l1 : wLo g (c + 1) j = wLo g c j := by
            show (if g c then _ else wLo g c j) = _
            rw [eg]
            rfl
          have l2 : wHi g (c + 1) j = wHi g c j := by
            show (if g c then _ else wHi g c j) = _
            rw [eg]
            rfl
          rw [l1, l2, k3 62 (by decide), k3 63 (by decide)]
          exact q j hj) (by omega) (by omega)
      exact ⟨y, b1, fx.tr b2, b3⟩
    · rw [if_neg (c := (if true = true then (1 : Int32) else 0) = 0) (by decide)]
      have hz : nI (wF g c) = 0 ↔ decide (wF g c = 0) = true := by
        rw [nI_iz (by omega), decide_eq_true_eq]
      have s1 : wF g (c + 1) = wF g c + 1 := by
        show wF g c + (if g c then 1 else 0) = _
        rw [eg]
        rfl
      have s2 : w1 g (c + 1) = if wF g c = 0 then 100 * nI (c / 21) + nI (c % 21) else w1 g c := by
        show (if g c && decide (wF g c = 0) then 100 * nI (c / 21) + nI (c % 21) else w1 g c) = _
        rw [eg, Bool.true_and]
        by_cases q : wF g c = 0
        · rw [if_pos q, decide_eq_true q, if_pos rfl]
        · rw [if_neg q, decide_eq_false q, if_neg (by decide)]
      have fin : ∀ t : Int32, t = w1 g (c + 1) → ∃ u', IM g 441 u' ∧ FM u u' ∧ f_X12_may_84 (fun v1 v2 v3 v4 v5 u => f_X12_may_35 n2 v1 v2 v3 v4 v5 u) n w (nI (wF g c)) (nI c) t x = f_X12_may_201 w (nI (wF g 441)) (w1 g 441) u' := by
        intro t et
        obtain ⟨y, m1, m2, m3, m4⟩ := M_widen_l (fun v1 v2 v3 v4 v5 u => f_X12_may_35 n2 v1 v2 v3 v4 v5 u) n w (nI (wF g c)) t (nI c) (decide (wF g c = 0)) hz (wCa c) (x 62) (x 63) 61 FUEL 0 x k2' (fun j _ => by rw [if_neg (by omega)]) (fun j _ => by rw [if_neg (by omega)]) rfl (by decide)
        have m1' : f_X12_may_84 (fun v1 v2 v3 v4 v5 u => f_X12_may_35 n2 v1 v2 v3 v4 v5 u) n w (nI (wF g c)) (nI c) t x = f_X12_may_35 n2 n w (nI (wF g (c + 1))) (w1 g (c + 1)) (nI (c + 1)) y := by
          unfold f_X12_may_84
          have e0 : nI 0 = 0 := rfl
          rw [← e0, m1]
          unfold f_X12_may_192 f_X12_may_195
          rw [nm_is, nm_is, nI_1, nI_1, s1, et]
        obtain ⟨v, b1, b2, b3⟩ := ih n2 (c + 1) y (by rw [m4 38 (by decide) (by decide), x38]; exact hS) ((m4 59 (by decide) (by decide)).trans x59) ((m4 60 (by decide) (by decide)).trans x60) (by
          refine Or.inr (fun j hj => ⟨?_, ?_⟩)
          · rw [m2 j hj, k3 62 (by decide)]
            show _ = (if g c then wmn (decide (wF g c = 0)) (wLo g c j) (wCa c j) else wLo g c j)
            rw [eg, if_pos rfl]
            refine wmn_eq ?_
            rcases hI with q | q
            · exact Or.inl (decide_eq_true q)
            · exact Or.inr (q j hj).1
          · rw [m3 j hj, k3 63 (by decide)]
            show _ = (if g c then wmx (decide (wF g c = 0)) (wHi g c j) (wCa c j) else wHi g c j)
            rw [eg, if_pos rfl]
            refine wmx_eq ?_
            rcases hI with q | q
            · exact Or.inl (decide_eq_true q)
            · exact Or.inr (q j hj).2) (by omega) (by omega)
        refine ⟨v, b1, fx.tr (FM.tr (fun cc _ a b => m4 cc a b) b2), m1'.trans b3⟩
      by_cases q : wF g c = 0
      · rw [if_pos ((nI_iz (by omega)).mpr q), nm_is]
        exact fin _ (by rw [s2, if_pos q])
      · rw [if_neg (fun e => q ((nI_iz (by omega)).mp e))]
        exact fin _ (by rw [s2, if_neg q])
def wB (l h : Nat → Int32) : Nat → Nat
  | 0 => 0
  | t + 1 => if h (t + 1) - l (t + 1) ≤ h (wB l h t) - l (wB l h t) then wB l h t else t + 1
theorem wB_le (l h : Nat → Int32) : ∀ t, wB l h t ≤ t := by
  intro t
  induction t with
  | zero => exact Nat.le_refl 0
  | succ t ih =>
    show (if h (t + 1) - l (t + 1) ≤ h (wB l h t) - l (wB l h t) then wB l h t else t + 1) ≤ t + 1
    split <;> omega
theorem X_wid_l (l h : Nat → Int32) (u : S2) (hl : ∀ j, j ≤ 60 → u 36 j = l j) (hh : ∀ j, j ≤ 60 → u 37 j = h j) : ∀ (d N t : Nat), t + d = 60 → d < N → f_X10_widestTick_13 N (nI (wB l h t)) (nI (t + 1)) u = some (nI (wB l h 60), u) := by
  intro d
  induction d with
  | zero =>
    intro N t hd hN
    obtain ⟨n2, rfl⟩ : ∃ n2, N = n2 + 1 := ⟨N - 1, by omega⟩
    have ei : t = 60 := by omega
    subst ei
    rw [f_X10_widestTick_13_e, if_pos (by decide)]
  | succ d ih =>
    intro N t hd hN
    obtain ⟨n2, rfl⟩ : ∃ n2, N = n2 + 1 := ⟨N - 1, by omega⟩
    have wl := wB_le l h t
    have tt : (nI (t + 1)).toInt = ((t + 1 : Nat) : Int) := nI_toInt (by omega)
    have tb : (nI (wB l h t)).toInt = ((wB l h t : Nat) : Int) := nI_toInt (by omega)
    have c : ¬ 60 < nI (t + 1) := fun z => by have : (60 : Int) < (nI (t + 1)).toInt := ti_lt.mp z; omega
    have i1 : inb (nI (t + 1)) 61 = true := inb_of (by omega) (by omega)
    have i2 : inb (nI (wB l h t)) 61 = true := inb_of (by omega) (by omega)
    have x1 : Int32.toNatClampNeg (nI (t + 1)) = t + 1 := by
      show (nI (t + 1)).toInt.toNat = t + 1
      omega
    have x2 : Int32.toNatClampNeg (nI (wB l h t)) = wB l h t := by
      show (nI (wB l h t)).toInt.toNat = wB l h t
      omega
    have go := ih n2 (t + 1) (by omega) (by omega)
    have ew : wB l h (t + 1) = if h (t + 1) - l (t + 1) ≤ h (wB l h t) - l (wB l h t) then wB l h t else t + 1 := rfl
    rw [f_X10_widestTick_13_e, if_neg c, ck_y i1, nm_is, ck_y i1, nm_is, ck_y i2, nm_is, ck_y i2, nm_is, x1, x2, hh _ (by omega), hl _ (by omega), hh _ (by omega), hl _ (by omega)]
    unfold f_X10_widestTick_50
    by_cases q : h (t + 1) - l (t + 1) ≤ h (wB l h t) - l (wB l h t)
    · rw [if_pos q] at ew
      rw [if_pos q, nm_is, nI_1, ← ew]
      exact go
    · rw [if_neg q] at ew
      rw [ew] at go
      rw [if_neg q, nm_is, nI_1]
      exact go
theorem M_wid_l (v3 : Int32) (h3 : ¬ v3 ≤ 0) (l h : Nat → Int32) (u : S2) (hl : ∀ j, j ≤ 60 → u 62 j = l j) (hh : ∀ j, j ≤ 60 → u 63 j = h j) : ∀ (d N t : Nat), t + d = 60 → d < N → f_X12_may_223 N v3 (nI (wB l h t)) (nI (t + 1)) u = some (nI (wB l h 60), u) := by
  intro d
  induction d with
  | zero =>
    intro N t hd hN
    obtain ⟨n2, rfl⟩ : ∃ n2, N = n2 + 1 := ⟨N - 1, by omega⟩
    have ei : t = 60 := by omega
    subst ei
    rw [f_X12_may_223_e, if_pos (by decide)]
  | succ d ih =>
    intro N t hd hN
    obtain ⟨n2, rfl⟩ : ∃ n2, N = n2 + 1 := ⟨N - 1, by omega⟩
    have wl := wB_le l h t
    have tt : (nI (t + 1)).toInt = ((t + 1 : Nat) : Int) := nI_toInt (by omega)
    have tb : (nI (wB l h t)).toInt = ((wB l h t : Nat) : Int) := nI_toInt (by omega)
    have c : ¬ 60 < nI (t + 1) := fun z => by have : (60 : Int) < (nI (t + 1)).toInt := ti_lt.mp z; omega
    have i1 : inb (nI (t + 1)) 61 = true := inb_of (by omega) (by omega)
    have i2 : inb (nI (wB l h t)) 61 = true := inb_of (by omega) (by omega)
    have x1 : Int32.toNatClampNeg (nI (t + 1)) = t + 1 := by
      show (nI (t + 1)).toInt.toNat = t + 1
      omega
    have x2 : Int32.toNatClampNeg (nI (wB l h t)) = wB l h t := by
      show (nI (wB l h t)).toInt.toNat = wB l h t
      omega
    have hne : ¬ nI (wB l h t) = -1 := nI_ne _ (by omega)
    have go := ih n2 (t + 1) (by omega) (by omega)
    have ew : wB l h (t + 1) = if h (t + 1) - l (t + 1) ≤ h (wB l h t) - l (wB l h t) then wB l h t else t + 1 := rfl
    rw [f_X12_may_223_e, if_neg c, if_neg h3, if_neg hne, ck_y i1, nm_is, ck_y i1, nm_is, ck_y i2, nm_is, ck_y i2, nm_is, x1, x2, hh _ (by omega), hl _ (by omega), hh _ (by omega), hl _ (by omega)]
    unfold f_X12_may_273 f_X12_may_280
    by_cases q : h (t + 1) - l (t + 1) ≤ h (wB l h t) - l (wB l h t)
    · rw [if_pos q] at ew
      rw [if_pos q, nm_is, nI_1, ← ew]
      exact go
    · rw [if_neg q] at ew
      rw [ew] at go
      rw [if_neg q, nm_is, nI_1]
      exact go
theorem s_may : St_2 f_X11_may f_X12_may Rel := by
  intro a b u h
  have hh := h
  obtain ⟨h1, h2, h3, h4, h5, h6, h7, h8, h9⟩ := h
  by_cases c : inR a 0 999 = 0
  · exact ⟨-3, u, u, by unfold f_X11_may; rw [L_isWithin, bd_some, if_pos c], by unfold f_X12_may; rw [L_in_0_999, bd_some, if_pos c], hh⟩
  by_cases c2 : inR b 0 2 = 0
  · exact ⟨-3, u, u, by unfold f_X11_may; rw [L_isWithin, bd_some, if_neg c, L_isWithin, bd_some, if_pos c2], by unfold f_X12_may; rw [L_in_0_999, bd_some, if_neg c, L_in_0_2, bd_some, if_pos c2], hh⟩
  obtain ⟨q1, q2, q3, q4, q5, q6⟩ := h9
  have s1 := q4.1
  have s2 := q4.2
  obtain ⟨S, eS⟩ : ∃ S : Nat, (u 32 2).toInt = S := ⟨(u 32 2).toInt.toNat, by omega⟩
  obtain ⟨g, eg⟩ : ∃ g : Nat → Bool, g = fun c => fitB (wCa c) (u 33) (u 34) a S := ⟨_, rfl⟩
  have hg : ∀ c, g c = fitB (wCa c) (u 33) (u 34) a S := fun c => by rw [eg]
  obtain ⟨x, a1, a2, a3⟩ := X_out_l a S (u 33) (u 34) g (by omega) q5 q6 hg 21 FUEL 0 (wr (wr u 32 7 0) 32 8 (-1)) eS rfl rfl ⟨rfl, rfl, Or.inl rfl⟩ rfl (by decide)
  have X0 : f_X10_findThoseThatFit a u = some x := by
    unfold f_X10_findThoseThatFit
    rw [nm_is, nm_is]
    exact a3
  have fx0 : FX u (wr (wr u 32 7 0) 32 8 (-1)) := ⟨fun cc _ _ _ _ e => by rw [wr_c e, wr_c e], rfl⟩
  have fx : FX u x := fx0.tr a2
  have x38 : x 38 = u 38 := fx.1 38 (by decide) (by decide) (by decide) (by decide) (by decide)
  have x59 : x 59 = u 33 := (fx.1 59 (by decide) (by decide) (by decide) (by decide) (by decide)).trans q1
  have x60 : x 60 = u 34 := (fx.1 60 (by decide) (by decide) (by decide) (by decide) (by decide)).trans q2
  obtain ⟨y, b1, b2, b3⟩ := M_may_l a b S (u 33) (u 34) g (by omega) q5 hg 441 FUEL 0 x (by rw [x38, q3]; exact eS) x59 x60 (Or.inl rfl) rfl (by decide)
  have M0 : f_X12_may a b x = f_X12_may_201 b (nI (wF g 441)) (w1 g 441) y := by
    unfold f_X12_may
    rw [L_in_0_999, bd_some, if_neg c, L_in_0_2, bd_some, if_neg c2]
    exact b3
  have hR : Rel y := by
    have cc : ∀ q, (FCl.contains q && !(q == 17 || q == 35 || q == 36 || q == 37 || q == 32 || q == 61 || q == 62 || q == 63)) = FCl.contains q := by
      intro q
      by_cases m : FCl.contains q = true
      · have : ∀ q, q ∈ FCl → (!(q == 17 || q == 35 || q == 36 || q == 37 || q == 32 || q == 61 || q == 62 || q == 63)) = true := by decide
        rw [this q (by simpa using m), Bool.and_true]
      · rw [Bool.not_eq_true] at m
        rw [m]
        rfl
    have fr : ∀ q, q ≠ 17 → q ≠ 35 → q ≠ 36 → q ≠ 37 → q ≠ 32 → q ≠ 61 → q ≠ 62 → q ≠ 63 → y q = u q := fun q z1 z2 z3 z4 z5 z6 z7 z8 => (b2 q z6 z7 z8).trans (fx.1 q z1 z2 z3 z4 z5)
    refine Rel_fr hh (fun q hm => ?_) (fun q hm => ?_)
    · have : ∀ q, q ∈ FCl → q ≠ 17 ∧ q ≠ 35 ∧ q ≠ 36 ∧ q ≠ 37 ∧ q ≠ 32 ∧ q ≠ 61 ∧ q ≠ 62 ∧ q ≠ 63 := by decide
      obtain ⟨z1, z2, z3, z4, z5, z6, z7, z8⟩ := this q hm
      exact fr q z1 z2 z3 z4 z5 z6 z7 z8
    · have : ∀ q, q ∈ SCl → q = (32, 2) ∨ (q.1 ≠ 17 ∧ q.1 ≠ 35 ∧ q.1 ≠ 36 ∧ q.1 ≠ 37 ∧ q.1 ≠ 32 ∧ q.1 ≠ 61 ∧ q.1 ≠ 62 ∧ q.1 ≠ 63) := by decide
      rcases this q hm with e | ⟨z1, z2, z3, z4, z5, z6, z7, z8⟩
      · rw [e]
        show y 32 2 = u 32 2
        rw [b2 32 (by decide) (by decide) (by decide)]
        exact fx.2
      · exact congrFun (fr q.1 z1 z2 z3 z4 z5 z6 z7 z8) q.2
  obtain ⟨i1, i2, i3⟩ := a1
  have X1 : ∀ r z, (if b = 0 then some (x 32 7, x) else (if b = 1 then some (x 32 8, x) else bd (f_X10_widestTick x) (fun r2 u3 => some (r2, u3)))) = some (r, z) → f_X11_may a b u = some (r, z) := by
    intro r z e
    unfold f_X11_may
    rw [L_isWithin, bd_some, if_neg c, L_isWithin, bd_some, if_neg c2, X0, bv_some]
    exact e
  have wl := wF_le g 441
  rcases p3 c2 with rfl | rfl | rfl
  · refine ⟨nI (wF g 441), x, y, X1 _ _ ?_, ?_, hR⟩
    · rw [if_pos rfl, i1]
    · rw [M0]
      unfold f_X12_may_201
      rw [if_neg (by decide), if_pos rfl]
  · refine ⟨w1 g 441, x, y, X1 _ _ ?_, ?_, hR⟩
    · rw [if_neg (by decide), if_pos rfl, i2]
    · rw [M0]
      unfold f_X12_may_201
      rw [if_neg (by decide), if_neg (by decide)]
  · by_cases z : wF g 441 = 0
    · refine ⟨-1, x, y, X1 _ _ ?_, ?_, hR⟩
      · unfold f_X10_widestTick
        rw [if_neg (by decide), if_neg (by decide), i1, z, if_pos (by decide), bd_some]
      · rw [M0, z]
        unfold f_X12_may_201
        rw [if_pos (by decide)]
        show f_X12_may_223 (999 + 1) (nI 0) (-1) 0 y = _
        rw [f_X12_may_223_e, if_neg (by decide), if_pos (by decide)]
    · have j3 : ∀ j, j ≤ 60 → x 36 j = wLo g 441 j ∧ x 37 j = wHi g 441 j := by
        rcases i3 with e | e
        · exact absurd e z
        · exact e
      have k3 : ∀ j, j ≤ 60 → y 62 j = wLo g 441 j ∧ y 63 j = wHi g 441 j := by
        rcases b1 with e | e
        · exact absurd e z
        · exact e
      have tw : (nI (wF g 441)).toInt = wF g 441 := nI_toInt (by omega)
      have hpos : ¬ nI (wF g 441) ≤ 0 := fun e => by have : (nI (wF g 441)).toInt ≤ 0 := ti_le.mp e; omega
      refine ⟨nI (wB (wLo g 441) (wHi g 441) 60), x, y, X1 _ _ ?_, ?_, hR⟩
      · unfold f_X10_widestTick
        rw [if_neg (by decide), if_neg (by decide), i1, if_neg (fun e => z ((nI_iz (by omega)).mp e))]
        have l := X_wid_l (wLo g 441) (wHi g 441) x (fun j hj => (j3 j hj).1) (fun j hj => (j3 j hj).2) 60 FUEL 0 rfl (by decide)
        have l2 : f_X10_widestTick_13 FUEL 0 1 x = some (nI (wB (wLo g 441) (wHi g 441) 60), x) := l
        rw [l2, bd_some]
      · rw [M0]
        unfold f_X12_may_201
        rw [if_pos (by decide)]
        show f_X12_may_223 (999 + 1) (nI (wF g 441)) (-1) 0 y = _
        rw [f_X12_may_223_e, if_neg (by decide), if_neg hpos, if_pos rfl]
        unfold f_X12_may_273 f_X12_may_280
        rw [nm_is]
        exact M_wid_l _ hpos (wLo g 441) (wHi g 441) y (fun j hj => (k3 j hj).1) (fun j hj => (k3 j hj).2) 60 999 0 rfl (by decide)
