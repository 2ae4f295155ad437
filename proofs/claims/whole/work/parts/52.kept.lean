/-! the trial laid out on both sides; kept, bestDead -/
theorem X_cp_ship (u : S2) : ∃ x, f_X7_copyFrom_7_5 u = some x ∧ (x 7 3 = u 5 3 ∧ x 7 4 = u 5 4 ∧ x 7 5 = u 5 5 ∧ x 7 6 = u 5 6 ∧ x 7 7 = u 5 7 ∧ x 7 8 = u 5 8) ∧ (∀ j, j < 8 → x 13 j = u 10 j) ∧ (∀ j, j < 8 → x 14 j = u 11 j) ∧ (∀ j, j < 8 → x 15 j = u 12 j) ∧ ∀ c, c ≠ 7 → c ≠ 13 → c ≠ 14 → c ≠ 15 → x c = u c := by
  obtain ⟨w, ew⟩ : ∃ w, w = wr (wr (wr (wr (wr (wr u 7 3 (u 5 3)) 7 4 (u 5 4)) 7 5 (u 5 5)) 7 6 (u 5 6)) 7 7 (u 5 7)) 7 8 (u 5 8) := ⟨_, rfl⟩
  have w7 : w 7 3 = u 5 3 ∧ w 7 4 = u 5 4 ∧ w 7 5 = u 5 5 ∧ w 7 6 = u 5 6 ∧ w 7 7 = u 5 7 ∧ w 7 8 = u 5 8 := by
    rw [ew]
    exact ⟨rfl, rfl, rfl, rfl, rfl, rfl⟩
  have wc : ∀ c, c ≠ 7 → w c = u c := by
    intro c hc
    rw [ew, wr_c hc, wr_c hc, wr_c hc, wr_c hc, wr_c hc, wr_c hc]
  obtain ⟨N, eN⟩ : ∃ N, FUEL = N + 1 + 1 + 1 + 1 := ⟨996, rfl⟩
  have rd : ∀ (v : S2) (i : Nat) (z : Int32), (wr v 7 i z) 5 = v 5 := fun v i z => wr_c (by decide)
  have e0 : f_X7_copyFrom_7_5 u = f_X7_copyFrom_7_5_50 (N + 1 + 1 + 1 + 1) 0 w := by
    unfold f_X7_copyFrom_7_5
    rw [nm_is, nm_is, rd, nm_is, nm_is, rd, rd, nm_is, nm_is, rd, rd, rd, nm_is, nm_is, rd, rd, rd, rd, nm_is, nm_is, rd, rd, rd, rd, rd, nm_is, nm_is, eN, ew]
  obtain ⟨x1, a1, a2, a3⟩ := X_copy 13 10 w (by decide)
  obtain ⟨x2, b1, b2, b3⟩ := X_copy 14 11 x1 (by decide)
  obtain ⟨x3, c1, c2, c3⟩ := X_copy 15 12 x2 (by decide)
  have i0 : inb (0 : Int32) 3 = true := by decide
  have i1 : inb ((0 : Int32) + 1) 3 = true := by decide
  have i2 : inb ((0 : Int32) + 1 + 1) 3 = true := by decide
  have t0 : Int32.toNatClampNeg (0 : Int32) = 0 := by decide
  have t1 : Int32.toNatClampNeg ((0 : Int32) + 1) = 1 := by decide
  have t2 : Int32.toNatClampNeg ((0 : Int32) + 1 + 1) = 2 := by decide
  refine ⟨x3, ?_, ?_, ?_, ?_, ?_, ?_⟩
  · rw [e0, f_X7_copyFrom_7_5_50_e, if_neg (by decide), ck_y i0, nm_is, ck_y i0, nm_is, t0]
    show bv (f_X4_copyFrom 13 10 w) _ = _
    rw [a1, bv_some, nm_is, f_X7_copyFrom_7_5_50_e, if_neg (by decide), ck_y i1, nm_is, ck_y i1, nm_is, t1]
    show bv (f_X4_copyFrom 14 11 x1) _ = _
    rw [b1, bv_some, nm_is, f_X7_copyFrom_7_5_50_e, if_neg (by decide), ck_y i2, nm_is, ck_y i2, nm_is, t2]
    show bv (f_X4_copyFrom 15 12 x2) _ = _
    rw [c1, bv_some, nm_is, f_X7_copyFrom_7_5_50_e, if_pos (by decide)]
  · rw [c3 7 (by decide), b3 7 (by decide), a3 7 (by decide)]
    exact w7
  · intro j hj
    rw [c3 13 (by decide), b3 13 (by decide), a2 j hj, wc 10 (by decide)]
  · intro j hj
    rw [c3 14 (by decide), b2 j hj, a3 11 (by decide), wc 11 (by decide)]
  · intro j hj
    rw [c2 j hj, b3 12 (by decide), a3 12 (by decide), wc 12 (by decide)]
  · intro c q1 q2 q3 q4
    rw [c3 c q4, b3 c q3, a3 c q2, wc c q1]
theorem X_cp_helm (u : S2) (hb : isB (u 9 2) = true) : ∃ x, f_X0_copyFrom_19_9 u = some x ∧ (∀ j, j < 6 → x 20 j = u 18 j) ∧ (x 19 1 = u 9 1 ∧ x 19 2 = u 9 2 ∧ x 19 3 = u 9 3) ∧ ∀ c, c ≠ 19 → c ≠ 20 → x c = u c := by
  refine ⟨wr (wr (wr (va_up u 20 (va_cpy (u 18) (u 20) 0 0 6)) 19 1 (u 9 1)) 19 2 (u 9 2)) 19 3 (u 9 3), ?_, ?_, ⟨rfl, rfl, rfl⟩, ?_⟩
  · unfold f_X0_copyFrom_19_9
    have q1 : (va_up u 20 (va_cpy (u 18) (u 20) 0 0 6)) 9 = u 9 := up_c (by decide)
    have q2 : (wr (va_up u 20 (va_cpy (u 18) (u 20) 0 0 6)) 19 1 (u 9 1)) 9 = u 9 := (wr_c (by decide)).trans q1
    have q3 : (wr (wr (va_up u 20 (va_cpy (u 18) (u 20) 0 0 6)) 19 1 (u 9 1)) 19 2 (u 9 2)) 9 = u 9 := (wr_c (by decide)).trans q2
    rw [nm_is, q1, nm_is, nm_is, q2, nm_is, ck_y hb, nm_is, q3, nm_is, nm_is]
  · intro j hj
    rw [wr_c (by decide), wr_c (by decide), wr_c (by decide), up_s]
    unfold va_cpy
    rw [if_pos ⟨by omega, by omega⟩]
    congr 1
    omega
  · intro c q1 q2
    rw [wr_c q1, wr_c q1, wr_c q1, up_c q2]
theorem X_stop (u : S2) (v : Int32) (hv : v = 0 ∨ v = 1 ∨ v = 2) : ∃ x, f_X7_stopAllBut_7 v u = some x ∧ (∀ c i, c ≠ 13 + Int32.toNatClampNeg v → (c = 13 ∨ c = 14 ∨ c = 15) → i ≠ 0 → x c i = u c i) ∧ x (13 + Int32.toNatClampNeg v) = u (13 + Int32.toNatClampNeg v) ∧ ∀ c, c ≠ 13 → c ≠ 14 → c ≠ 15 → x c = u c := by
  have i0 : inb (0 : Int32) 3 = true := by decide
  have i1 : inb ((0 : Int32) + 1) 3 = true := by decide
  have i2 : inb ((0 : Int32) + 1 + 1) 3 = true := by decide
  have t0 : 13 + Int32.toNatClampNeg (0 : Int32) = 13 := by decide
  have t1 : 13 + Int32.toNatClampNeg ((0 : Int32) + 1) = 14 := by decide
  have t2 : 13 + Int32.toNatClampNeg ((0 : Int32) + 1 + 1) = 15 := by decide
  obtain ⟨N, eN⟩ : ∃ N, FUEL = N + 1 + 1 + 1 + 1 := ⟨996, rfl⟩
  have e0 : f_X7_stopAllBut_7 v u = f_X7_stopAllBut_7_2 (N + 1 + 1 + 1 + 1) v 0 u := by
    unfold f_X7_stopAllBut_7
    rw [eN]
  have last : ∀ (w : S2), f_X7_stopAllBut_7_2 (N + 1) v (0 + 1 + 1 + 1) w = some w := by
    intro w
    rw [f_X7_stopAllBut_7_2_e, if_pos (by decide)]
  rcases hv with rfl | rfl | rfl
  · have tv : 13 + Int32.toNatClampNeg (0 : Int32) = 13 := by decide
    rw [tv]
    refine ⟨wr (wr u 14 0 0) 15 0 0, ?_, ?_, rfl, ?_⟩
    · rw [e0, f_X7_stopAllBut_7_2_e, if_neg (by decide), if_pos (by decide)]
      unfold f_X7_stopAllBut_7_22
      rw [nm_is]
      show f_X7_stopAllBut_7_2 (N + 1 + 1 + 1) _ (0 + 1) _ = _
      rw [f_X7_stopAllBut_7_2_e, if_neg (by decide), if_neg (by decide), ck_y i1, nm_is, t1, nm_is]
      unfold f_X7_stopAllBut_7_22
      rw [nm_is]
      show f_X7_stopAllBut_7_2 (N + 1 + 1) _ (0 + 1 + 1) _ = _
      rw [f_X7_stopAllBut_7_2_e, if_neg (by decide), if_neg (by decide), ck_y i2, nm_is, t2, nm_is]
      unfold f_X7_stopAllBut_7_22
      rw [nm_is]
      exact last _
    · intro c i q1 q2 q3
      rw [wr_ne (fun _ => q3), wr_ne (fun _ => q3)]
    · intro c q1 q2 q3
      rw [wr_c q3, wr_c q2]
  · have tv : 13 + Int32.toNatClampNeg (1 : Int32) = 14 := by decide
    rw [tv]
    refine ⟨wr (wr u 13 0 0) 15 0 0, ?_, ?_, rfl, ?_⟩
    · rw [e0, f_X7_stopAllBut_7_2_e, if_neg (by decide), if_neg (by decide), ck_y i0, nm_is, t0, nm_is]
      unfold f_X7_stopAllBut_7_22
      rw [nm_is]
      show f_X7_stopAllBut_7_2 (N + 1 + 1 + 1) _ (0 + 1) _ = _
      rw [f_X7_stopAllBut_7_2_e, if_neg (by decide), if_pos (by decide)]
      unfold f_X7_stopAllBut_7_22
      rw [nm_is]
      show f_X7_stopAllBut_7_2 (N + 1 + 1) _ (0 + 1 + 1) _ = _
      rw [f_X7_stopAllBut_7_2_e, if_neg (by decide), if_neg (by decide), ck_y i2, nm_is, t2, nm_is]
      unfold f_X7_stopAllBut_7_22
      rw [nm_is]
      exact last _
    · intro c i q1 q2 q3
      rw [wr_ne (fun _ => q3), wr_ne (fun _ => q3)]
    · intro c q1 q2 q3
      rw [wr_c q3, wr_c q1]
  · have tv : 13 + Int32.toNatClampNeg (2 : Int32) = 15 := by decide
    rw [tv]
    refine ⟨wr (wr u 13 0 0) 14 0 0, ?_, ?_, rfl, ?_⟩
    · rw [e0, f_X7_stopAllBut_7_2_e, if_neg (by decide), if_neg (by decide), ck_y i0, nm_is, t0, nm_is]
      unfold f_X7_stopAllBut_7_22
      rw [nm_is]
      show f_X7_stopAllBut_7_2 (N + 1 + 1 + 1) _ (0 + 1) _ = _
      rw [f_X7_stopAllBut_7_2_e, if_neg (by decide), if_neg (by decide), ck_y i1, nm_is, t1, nm_is]
      unfold f_X7_stopAllBut_7_22
      rw [nm_is]
      show f_X7_stopAllBut_7_2 (N + 1 + 1) _ (0 + 1 + 1) _ = _
      rw [f_X7_stopAllBut_7_2_e, if_neg (by decide), if_pos (by decide)]
      unfold f_X7_stopAllBut_7_22
      rw [nm_is]
      exact last _
    · intro c i q1 q2 q3
      rw [wr_ne (fun _ => q3), wr_ne (fun _ => q3)]
    · intro c q1 q2 q3
      rw [wr_c q2, wr_c q1]
theorem M_k2 (N i : Nat) (n d : Int32) (u : S2) (hi : i < 4) : f_X12_keep_2 (N + 1) n d (nI i) u = f_X12_keep_2 N n d (nI (i + 1)) (wr u 39 (4 + i) (u 39 i)) := by
  have ti : (nI i).toInt = i := nI_toInt (by omega)
  have c : ¬ 4 ≤ nI i := fun z => by have : (4 : Int) ≤ (nI i).toInt := ti_le.mp z; omega
  have t4 : (4 + nI i).toInt = 4 + i := by
    rw [ti_add (by rw [ti]; show _ ≤ (4 : Int) + i; omega) (by rw [ti]; show (4 : Int) + i ≤ _; omega), ti]
    rfl
  have x0 : Int32.toNatClampNeg (nI i) = i := by
    show (nI i).toInt.toNat = i
    omega
  have x4 : Int32.toNatClampNeg (4 + nI i) = 4 + i := by
    show (4 + nI i).toInt.toNat = 4 + i
    omega
  rw [f_X12_keep_2_e, if_neg c, ck_y (inb_of (by omega) (by omega)), nm_is, ck_y (inb_of (by omega) (by omega)), nm_is, nm_is, x0, x4, nI_1]
theorem M_k29 (N i : Nat) (n d : Int32) (u : S2) (hi : i < 3) : f_X12_keep_29 (N + 1) n d (nI i) u = f_X12_keep_29 N n d (nI (i + 1)) (wr (wr u 48 (3 + i) (u 48 i)) 49 (3 + i) (u 49 i)) := by
  have ti : (nI i).toInt = i := nI_toInt (by omega)
  have c : ¬ 3 ≤ nI i := fun z => by have : (3 : Int) ≤ (nI i).toInt := ti_le.mp z; omega
  have t4 : (3 + nI i).toInt = 3 + i := by
    rw [ti_add (by rw [ti]; show _ ≤ (3 : Int) + i; omega) (by rw [ti]; show (3 : Int) + i ≤ _; omega), ti]
    rfl
  have x0 : Int32.toNatClampNeg (nI i) = i := by
    show (nI i).toInt.toNat = i
    omega
  have x4 : Int32.toNatClampNeg (3 + nI i) = 3 + i := by
    show (3 + nI i).toInt.toNat = 3 + i
    omega
  have ia : inb (nI i) 6 = true := inb_of (by omega) (by omega)
  have ib : inb (3 + nI i) 6 = true := inb_of (by omega) (by omega)
  rw [f_X12_keep_29_e, if_neg c, ck_y ia, nm_is, ck_y ib, nm_is, ck_y ia, nm_is, ck_y ib, nm_is, nm_is, x0, x4, nI_1]
  rfl
theorem M_keep0 (n d : Int32) (u : S2) : ∃ w, f_X12_keep n d u = f_X12_keep_116 FUEL n d 1 w ∧ (w 39 4 = u 39 0 ∧ w 39 5 = u 39 1 ∧ w 39 6 = u 39 2 ∧ w 39 7 = u 39 3 ∧ w 40 1 = u 40 0 ∧ w 41 1 = u 41 0) ∧ (w 48 3 = u 48 0 ∧ w 48 4 = u 48 1 ∧ w 48 5 = u 48 2) ∧ (w 49 3 = u 49 0 ∧ w 49 4 = u 49 1 ∧ w 49 5 = u 49 2) ∧ w 42 1 = u 42 0 ∧ w 38 33 = 0 ∧ w 38 34 = 0 ∧ FrT u w := by
  obtain ⟨a, ea⟩ : ∃ a, a = wr (wr (wr (wr u 39 4 (u 39 0)) 39 5 (u 39 1)) 39 6 (u 39 2)) 39 7 (u 39 3) := ⟨_, rfl⟩
  have fa : FrT u a := by
    intro c i hc
    unfold TW at hc
    rw [ea, wr_ne (by omega), wr_ne (by omega), wr_ne (by omega), wr_ne (by omega)]
  have a39 : a 39 4 = u 39 0 ∧ a 39 5 = u 39 1 ∧ a 39 6 = u 39 2 ∧ a 39 7 = u 39 3 := by
    rw [ea]
    exact ⟨rfl, rfl, rfl, rfl⟩
  have e1 : f_X12_keep n d u = f_X12_keep_29 FUEL n d 0 a := by
    obtain ⟨N, eN⟩ : ∃ N, FUEL = N + 1 + 1 + 1 + 1 + 1 := ⟨995, rfl⟩
    have q : f_X12_keep n d u = f_X12_keep_2 (N + 1 + 1 + 1 + 1 + 1) n d (nI 0) u := by
      unfold f_X12_keep
      rw [eN]
      rfl
    rw [q, M_k2 _ 0 _ _ _ (by decide), M_k2 _ 1 _ _ _ (by decide), M_k2 _ 2 _ _ _ (by decide), M_k2 _ 3 _ _ _ (by decide), f_X12_keep_2_e, if_pos (by decide), ea]
    rfl
  obtain ⟨b, eb⟩ : ∃ b, b = wr (wr (wr (wr (wr (wr a 48 3 (a 48 0)) 49 3 (a 49 0)) 48 4 (a 48 1)) 49 4 (a 49 1)) 48 5 (a 48 2)) 49 5 (a 49 2) := ⟨_, rfl⟩
  have fb : FrT a b := by
    intro c i hc
    unfold TW at hc
    rw [eb, wr_ne (by omega), wr_ne (by omega), wr_ne (by omega), wr_ne (by omega), wr_ne (by omega), wr_ne (by omega)]
  have b48 : b 48 3 = a 48 0 ∧ b 48 4 = a 48 1 ∧ b 48 5 = a 48 2 := by
    rw [eb]
    exact ⟨rfl, rfl, rfl⟩
  have b49 : b 49 3 = a 49 0 ∧ b 49 4 = a 49 1 ∧ b 49 5 = a 49 2 := by
    rw [eb]
    exact ⟨rfl, rfl, rfl⟩
  have b39 : b 39 = a 39 := by
    rw [eb]
    rfl
  have e2 : f_X12_keep_29 FUEL n d 0 a = f_X12_keep_68 n d b := by
    obtain ⟨N, eN⟩ : ∃ N, FUEL = N + 1 + 1 + 1 + 1 := ⟨996, rfl⟩
    have q : f_X12_keep_29 FUEL n d 0 a = f_X12_keep_29 (N + 1 + 1 + 1 + 1) n d (nI 0) a := by
      rw [eN]
      rfl
    rw [q, M_k29 _ 0 _ _ _ (by decide), M_k29 _ 1 _ _ _ (by decide), M_k29 _ 2 _ _ _ (by decide), f_X12_keep_29_e, if_pos (by decide), eb]
    rfl
  obtain ⟨w, ew⟩ : ∃ w, w = wr (wr (wr (wr (wr b 40 1 (b 40 0)) 41 1 (b 41 0)) 42 1 (b 42 0)) 38 33 0) 38 34 0 := ⟨_, rfl⟩
  have fw : FrT b w := by
    intro c i hc
    unfold TW at hc
    rw [ew, wr_ne (by omega), wr_ne (by omega), wr_ne (by omega), wr_ne (by omega), wr_ne (by omega)]
  have e3 : f_X12_keep_68 n d b = f_X12_keep_116 FUEL n d 1 w := by
    rw [ew]
    rfl
  have w39 : w 39 = b 39 := by
    rw [ew]
    rfl
  have w48 : w 48 = b 48 := by
    rw [ew]
    rfl
  have w49 : w 49 = b 49 := by
    rw [ew]
    rfl
  have fab := fa.tr fb
  have n40 : ¬ TW 40 0 := by unfold TW; omega
  have n41 : ¬ TW 41 0 := by unfold TW; omega
  have n42 : ¬ TW 42 0 := by unfold TW; omega
  have n48 : ∀ i, i < 3 → ¬ TW 48 i := by intro i hi; unfold TW; omega
  have n49 : ∀ i, i < 3 → ¬ TW 49 i := by intro i hi; unfold TW; omega
  refine ⟨w, e1.trans (e2.trans e3), ⟨?_, ?_, ?_, ?_, ?_, ?_⟩, ⟨?_, ?_, ?_⟩, ⟨?_, ?_, ?_⟩, ?_, ?_, ?_, fab.tr fw⟩
  · rw [w39, b39]; exact a39.1
  · rw [w39, b39]; exact a39.2.1
  · rw [w39, b39]; exact a39.2.2.1
  · rw [w39, b39]; exact a39.2.2.2
  · rw [ew]; exact fab 40 0 n40
  · rw [ew]; exact fab 41 0 n41
  · rw [w48, b48.1, fa 48 0 (n48 0 (by decide))]
  · rw [w48, b48.2.1, fa 48 1 (n48 1 (by decide))]
  · rw [w48, b48.2.2, fa 48 2 (n48 2 (by decide))]
  · rw [w49, b49.1, fa 49 0 (n49 0 (by decide))]
  · rw [w49, b49.2.1, fa 49 1 (n49 1 (by decide))]
  · rw [w49, b49.2.2, fa 49 2 (n49 2 (by decide))]
  · rw [ew]; exact fab 42 0 n42
  · rw [ew]; rfl
  · rw [ew]; rfl
theorem X_keep0 (n d : Int32) (u : S2) (hb : isB (u 9 2) = true) (v : Int32) (hv : v = 0 ∨ v = 1 ∨ v = 2) (h5 : u 18 5 = v) : ∃ x, f_X1_keep_5_9 n d u = f_X1_keep_5_9_56 FUEL n 1 x ∧ (x 7 3 = u 5 3 ∧ x 7 4 = u 5 4 ∧ x 7 5 = u 5 5 ∧ x 7 6 = u 5 6 ∧ x 7 7 = u 5 7 ∧ x 7 8 = u 5 8) ∧ (∀ j, j < 8 → x (13 + Int32.toNatClampNeg v) j = u (10 + Int32.toNatClampNeg v) j) ∧ (x 13 4 = u 10 4 ∧ x 14 4 = u 11 4 ∧ x 15 4 = u 12 4) ∧ (x 20 0 = d ∧ ∀ j, 1 ≤ j → j < 6 → x 20 j = u 18 j) ∧ (x 19 1 = u 9 1 ∧ x 19 2 = u 9 2 ∧ x 19 3 = u 9 3) ∧ x 25 2 = 0 ∧ x 25 3 = 0 ∧ FrK u x := by
  obtain ⟨a, a1, a2, a3, a4, a5, a6⟩ := X_cp_ship u
  have ab : isB (a 9 2) = true := by rw [a6 9 (by decide) (by decide) (by decide) (by decide)]; exact hb
  obtain ⟨b, b1, b2, b3, b4⟩ := X_cp_helm a ab
  have a9 : a 9 = u 9 := a6 9 (by decide) (by decide) (by decide) (by decide)
  have a18 : a 18 = u 18 := a6 18 (by decide) (by decide) (by decide) (by decide)
  have b5 : b 20 5 = v := by rw [b2 5 (by decide), a18]; exact h5
  obtain ⟨c, c1, c2, c3, c4⟩ := X_stop b v hv
  have c20 : c 20 = b 20 := c4 20 (by decide) (by decide) (by decide)
  have c19 : c 19 = b 19 := c4 19 (by decide) (by decide) (by decide)
  have c7 : c 7 = a 7 := (c4 7 (by decide) (by decide) (by decide)).trans (b4 7 (by decide) (by decide))
  obtain ⟨x, ex⟩ : ∃ x, x = wr (wr (wr c 20 0 d) 25 2 0) 25 3 0 := ⟨_, rfl⟩
  have xc : ∀ k, k ≠ 20 → k ≠ 25 → x k = c k := by
    intro k q1 q2
    rw [ex, wr_c q2, wr_c q2, wr_c q1]
  have x20 : x 20 = upd (c 20) 0 d := by
    rw [ex]
    rfl
  have off4 : ∀ k, (k = 13 ∨ k = 14 ∨ k = 15) → c k 4 = b k 4 := by
    intro k hk
    by_cases q : k = 13 + Int32.toNatClampNeg v
    · rw [q]
      exact congrFun c3 4
    · exact c2 k 4 q hk (by decide)
  refine ⟨x, ?_, ?_, ?_, ⟨?_, ?_, ?_⟩, ⟨?_, ?_⟩, ?_, ?_, ?_, ?_⟩
  · unfold f_X1_keep_5_9
    rw [a1, bv_some, b1, bv_some, b5, nm_is, c1, bv_some, nm_is, nm_is, nm_is, ← ex]
  · rw [xc 7 (by decide) (by decide), c7]
    exact a2
  · intro j hj
    have hv3 : Int32.toNatClampNeg v = 0 ∨ Int32.toNatClampNeg v = 1 ∨ Int32.toNatClampNeg v = 2 := by
      rcases hv with rfl | rfl | rfl
      · exact Or.inl (by decide)
      · exact Or.inr (Or.inl (by decide))
      · exact Or.inr (Or.inr (by decide))
    rw [xc _ (by omega) (by omega), c3, b4 _ (by omega) (by omega)]
    rcases hv3 with e | e | e
    · rw [e]
      exact a3 j hj
    · rw [e]
      exact a4 j hj
    · rw [e]
      exact a5 j hj
  · rw [xc 13 (by decide) (by decide), off4 13 (by decide), b4 13 (by decide) (by decide)]
    exact a3 4 (by decide)
  · rw [xc 14 (by decide) (by decide), off4 14 (by decide), b4 14 (by decide) (by decide)]
    exact a4 4 (by decide)
  · rw [xc 15 (by decide) (by decide), off4 15 (by decide), b4 15 (by decide) (by decide)]
    exact a5 4 (by decide)
  · rw [x20, upd_s]
  · intro j h1 h2
    rw [x20, upd_n (by omega), c20, b2 j h2, a18]
  · rw [xc 19 (by decide) (by decide), c19, ← a9]
    exact b3
  · rw [ex]
    rfl
  · rw [ex]
    rfl
  · intro k hk
    unfold KW at hk
    rw [xc k (by omega) (by omega), c4 k (by omega) (by omega) (by omega), b4 k (by omega) (by omega), a6 k (by omega) (by omega) (by omega) (by omega)]
