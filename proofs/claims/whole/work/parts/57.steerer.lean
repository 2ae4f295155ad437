/-! a read steerer taken over -/
theorem M_take (w : S2) : ∃ z, f_X12_steerer_13 FUEL 0 w = some (w 38 19, z) ∧ (∀ j, j < 6 → z 54 j = w 55 j) ∧ z 42 0 = -1 ∧ z 38 16 = 0 ∧ (∀ c, c ≠ 38 → c ≠ 42 → c ≠ 54 → z c = w c) ∧ ∀ i, i ≠ 16 → z 38 i = w 38 i := by
  obtain ⟨a, ea⟩ : ∃ a, a = wr (wr (wr (wr (wr (wr w 54 0 (w 55 0)) 54 1 (w 55 1)) 54 2 (w 55 2)) 54 3 (w 55 3)) 54 4 (w 55 4)) 54 5 (w 55 5) := ⟨_, rfl⟩
  have a54 : ∀ j, j < 6 → a 54 j = w 55 j := by
    intro j hj
    rw [ea]
    rcases (show j = 0 ∨ j = 1 ∨ j = 2 ∨ j = 3 ∨ j = 4 ∨ j = 5 by omega) with rfl | rfl | rfl | rfl | rfl | rfl <;> rfl
  have ac : ∀ c, c ≠ 54 → a c = w c := by
    intro c hc
    rw [ea, wr_c hc, wr_c hc, wr_c hc, wr_c hc, wr_c hc, wr_c hc]
  have rd : ∀ (v : S2) (i : Nat) (z : Int32), (wr v 54 i z) 55 = v 55 := fun v i z => wr_c (by decide)
  have e1 : f_X12_steerer_13 FUEL 0 w = f_X12_steerer_37 a := by
    obtain ⟨N, eN⟩ : ∃ N, FUEL = N + 1 + 1 + 1 + 1 + 1 + 1 + 1 := ⟨993, rfl⟩
    have e0 : f_X12_steerer_13 FUEL 0 = f_X12_steerer_13 (N + 1 + 1 + 1 + 1 + 1 + 1 + 1) (nI 0) := by
      rw [eN]
      rfl
    rw [e0, M_s13 _ 0 (by decide), M_s13 _ 1 (by decide), M_s13 _ 2 (by decide), M_s13 _ 3 (by decide), M_s13 _ 4 (by decide), M_s13 _ 5 (by decide), f_X12_steerer_13_e, if_pos (by decide), ea]
    simp only [rd]
  have a38 : a 38 = w 38 := ac 38 (by decide)
  refine ⟨wr (wr a 42 0 (-1)) 38 16 0, ?_, ?_, rfl, rfl, ?_, ?_⟩
  · rw [e1]
    unfold f_X12_steerer_37
    rw [nm_is, nm_is]
    have q : (wr (wr a 42 0 (-1)) 38 16 0) 38 19 = a 38 19 := rfl
    rw [q, a38]
  · intro j hj
    exact a54 j hj
  · intro c h1 h2 h3
    rw [wr_c h1, wr_c h2, ac c h3]
  · intro i hi
    rw [wr_ne (fun _ => hi), wr_c (by decide), a38]
theorem s_steerer : St_0 f_X11_steerer f_X12_steerer Rel := by
  intro u h
  have hh := h
  obtain ⟨h1, h2, h3, h4, h5, h6, h7, h8, h9⟩ := h
  obtain ⟨q1, q2, q3⟩ := h6
  have s1 := q3.1
  have s2 := q3.2
  obtain ⟨L, eL⟩ : ∃ L : Nat, (u 21 1).toInt = L := ⟨(u 21 1).toInt.toNat, by omega⟩
  have h21 : u 21 1 = nI L := ti_ext (by rw [eL, nI_toInt (by omega)])
  obtain ⟨r, x, -, x1, -, -, fx, -⟩ := fault_both u u L (by omega) q1 h21 (q2.trans h21)
  by_cases hr : r = -1
  · obtain ⟨y, ey⟩ : ∃ y, y = wr (wr (va_up x 18 (va_cpy (x 23) (x 18) 0 0 6)) 9 2 0) 21 1 0 := ⟨_, rfl⟩
    have yc : ∀ c, c ≠ 9 → c ≠ 18 → c ≠ 21 → y c = x c := by
      intro c a b d
      rw [ey, wr_c d, wr_c a, up_c b]
    have y18 : ∀ j, j < 6 → y 18 j = x 23 j := by
      intro j hj
      rw [ey, wr_c (by decide), wr_c (by decide), up_s]
      unfold va_cpy
      rw [if_pos ⟨by omega, by omega⟩]
      congr 1
      omega
    have y213 : y 21 3 = x 21 3 := by
      rw [ey]
      rfl
    have y211 : y 21 1 = 0 := by
      rw [ey]
      rfl
    have y92 : y 9 2 = 0 := by
      rw [ey]
      rfl
    have y91 : y 9 1 = u 9 1 := by
      rw [ey]
      show x 9 1 = u 9 1
      rw [fx.1 9 (by decide) (by decide)]
    have xu : ∀ c, c ≠ 21 → c ≠ 23 → x c = u c := fx.1
    have y38 : y 38 = u 38 := (yc 38 (by decide) (by decide) (by decide)).trans (xu 38 (by decide) (by decide))
    have y53 : y 53 = u 22 := ((yc 53 (by decide) (by decide) (by decide)).trans (xu 53 (by decide) (by decide))).trans q1
    obtain ⟨r2, x', w, y1, y2, y3, -, fw⟩ := fault_both u y L (by omega) y53 h21 (by rw [y38]; exact q2.trans h21)
    have er : r2 = r := pr1 (y1.symm.trans x1)
    have ex : x' = x := pr2 (y1.symm.trans x1)
    rw [er] at y2 y3
    rw [ex] at y3
    obtain ⟨g1, g2, g3⟩ := y3 hr
    obtain ⟨z, z1, z2, z3, z4, z5, z6⟩ := M_take w
    have X0 : f_X11_steerer u = some (x 21 3, y) := by
      unfold f_X11_steerer f_X0_become_9
      rw [x1, bd_some, if_pos hr, nm_is, nm_is, bv_some, nm_is, ← ey, y213]
    have M0 : f_X12_steerer y = some (x 21 3, z) := by
      unfold f_X12_steerer
      rw [y2, bd_some, if_pos hr, z1, g3]
    have zc : ∀ c, c ≠ 9 → c ≠ 18 → c ≠ 21 → c ≠ 23 → c ≠ 38 → c ≠ 42 → c ≠ 54 → c ≠ 55 → z c = u c := by
      intro c p1 p2 p3 p4 p5 p6 p7 p8
      rw [z5 c p5 p6 p7, fw.1 c p5 p8, yc c p1 p2 p3, xu c p3 p4]
    have zs : ∀ i, i ≠ 16 → i ≠ 29 → i ≠ 30 → i ≠ 31 → i ≠ 19 → z 38 i = u 38 i := by
      intro i p1 p2 p3 p4 p5
      rw [z6 i p1, fw.2 i p2 p3 p4 p5, y38]
    have zq : ∀ c, (!(c == 9 || c == 18 || c == 21 || c == 23 || c == 38 || c == 42 || c == 54 || c == 55)) = true → z c = u c := by
      intro c hc
      simp only [Bool.not_eq_true', Bool.or_eq_false_iff, beq_eq_false_iff_ne] at hc
      obtain ⟨⟨⟨⟨⟨⟨⟨p1, p2⟩, p3⟩, p4⟩, p5⟩, p6⟩, p7⟩, p8⟩ := hc
      exact zc c p1 p2 p3 p4 p5 p6 p7 p8
    have z18 : z 18 = y 18 := by rw [z5 18 (by decide) (by decide) (by decide), fw.1 18 (by decide) (by decide)]
    have z9 : z 9 = y 9 := by rw [z5 9 (by decide) (by decide) (by decide), fw.1 9 (by decide) (by decide)]
    have z21 : z 21 = y 21 := by rw [z5 21 (by decide) (by decide) (by decide), fw.1 21 (by decide) (by decide)]
    refine ⟨x 21 3, y, z, X0, M0, R1_of h1 (zq 5 (by decide)) (congrFun (zq 39 (by decide)) 0) (congrFun (zq 39 (by decide)) 1) (congrFun (zq 39 (by decide)) 2) (congrFun (zq 39 (by decide)) 3) (congrFun (zq 40 (by decide)) 0) (congrFun (zq 41 (by decide)) 0),
      R2_of h2 (zq 10 (by decide)) (zq 11 (by decide)) (zq 12 (by decide)) (zq 44 (by decide)) (zq 45 (by decide)) (zq 46 (by decide)) (zq 47 (by decide)) (zq 50 (by decide)) (zq 51 (by decide)) (fun i _ => congrFun (zq 48 (by decide)) i) (fun i _ => congrFun (zq 49 (by decide)) i),
      R3_of h3 (zq 43 (by decide)) (zq 2 (by decide)) (zs 5 (by decide) (by decide) (by decide) (by decide) (by decide)) (congrFun (zq 1 (by decide)) 1),
      R4_of h4 (zq 52 (by decide)) (zq 4 (by decide)), ?_, ?_,
      R7_of h7 (zq 56 (by decide)) (zq 27 (by decide)) (zs 22 (by decide) (by decide) (by decide) (by decide) (by decide)) (congrFun (zq 26 (by decide)) 1),
      R8_of h8 (zq 57 (by decide)) (zq 58 (by decide)) (zs 25 (by decide) (by decide) (by decide) (by decide) (by decide)) (congrFun (zq 28 (by decide)) 3) (zq 29 (by decide)) (zq 30 (by decide)) (zq 31 (by decide)),
      R9_of h9 (zq 59 (by decide)) (zq 60 (by decide)) (zs 28 (by decide) (by decide) (by decide) (by decide) (by decide)) (congrFun (zq 32 (by decide)) 2) (zq 33 (by decide)) (zq 34 (by decide))⟩
    · refine ⟨?_, ?_, ?_, ?_, Or.inl ⟨?_, z3⟩⟩
      · intro j hj
        rw [z2 j hj, z18, y18 j hj, g1 j hj]
      · rw [z18]
        unfold RN
        rw [y18 0 (by decide), y18 1 (by decide), y18 2 (by decide), y18 3 (by decide), y18 4 (by decide), y18 5 (by decide)]
        exact g2
      · rw [zs 20 (by decide) (by decide) (by decide) (by decide) (by decide), z9, y91]
        exact h5.2.2.1
      · rw [z9, y91]
        exact h5.2.2.2.1
      · rw [z9]
        exact y92
    · refine ⟨?_, ?_, ?_⟩
      · rw [zq 53 (by decide), zq 22 (by decide)]
        exact q1
      · rw [z4, z21, y211]
      · rw [z21, y211]
        exact ⟨by decide, by decide⟩
  · have x38 : x 38 = u 38 := fx.1 38 (by decide) (by decide)
    obtain ⟨r2, x', w, y1, y2, -, -, fw⟩ := fault_both u x L (by omega) ((fx.1 53 (by decide) (by decide)).trans q1) h21 (by rw [x38]; exact q2.trans h21)
    have er : r2 = r := pr1 (y1.symm.trans x1)
    rw [er] at y2
    refine ⟨-4, x, w, ?_, ?_, Rel_rq hh fx fw⟩
    · unfold f_X11_steerer
      rw [x1, bd_some, if_neg hr]
    · unfold f_X12_steerer
      rw [y2, bd_some, if_neg hr]
