theorem so2 {a b : Int32} {w : S2} (e : a = b) : some (a, w) = some (b, w) := by rw [e]
theorem s_head : St_1 f_X11_head f_X12_head Rel := by
  intro a u h
  have hh := h
  obtain ⟨h1, h2, h3, h4, h5, h6, h7, h8, h9⟩ := h
  by_cases c : inR a 0 35999 = 0
  · exact ⟨-3, u, u, by unfold f_X11_head; rw [X_isHeading, bd_some, if_pos c], by unfold f_X12_head; rw [M_isHeading, bd_some, if_pos c], hh⟩
  · refine ⟨u 5 4, wr u 5 4 a, wr (wr u 5 4 a) 40 0 a, by unfold f_X11_head; rw [X_isHeading, bd_some, if_neg c]; rfl, ?_, ?_⟩
    · unfold f_X12_head
      rw [M_isHeading, bd_some, if_neg c]
      exact so2 (show u 40 0 = u 5 4 from h1.2.2.2.2.1)
    · have hr : rg a 0 35999 := inR_rg c
      obtain ⟨a1, a2, a3, a4, a5, a6, a7, a8, a9, b1, b2, b3⟩ := h1
      exact ⟨⟨a1, a2, a3, a4, rfl, a6, a7, a8, a9, b1, hr, b3⟩, R2_of h2 rfl rfl rfl rfl rfl rfl rfl rfl rfl (fun _ _ => rfl) (fun _ _ => rfl), R3_of h3 rfl rfl rfl rfl, R4_of h4 rfl rfl, R5_of h5 rfl rfl rfl rfl rfl, R6_of h6 rfl rfl rfl rfl, R7_of h7 rfl rfl rfl rfl, R8_of h8 rfl rfl rfl rfl rfl rfl rfl, R9_of h9 rfl rfl rfl rfl rfl rfl⟩
theorem s_calm : St_0 f_X11_calm f_X12_calm Rel := by
  intro  u h
  have hh := h
  obtain ⟨h1, h2, h3, h4, h5, h6, h7, h8, h9⟩ := h
  refine ⟨u 1 1, wr u 1 1 0, wr (wr u 1 1 0) 38 5 0, rfl, ?_, ?_⟩
  · exact so2 (show u 38 5 = u 1 1 from h3.2.1)
  · exact ⟨R1_of h1 rfl rfl rfl rfl rfl rfl rfl, R2_of h2 rfl rfl rfl rfl rfl rfl rfl rfl rfl (fun _ _ => rfl) (fun _ _ => rfl), ⟨h3.1, rfl, (show rg 0 0 24 from ⟨by decide, by decide⟩), h3.2.2.2⟩, R4_of h4 rfl rfl, R5_of h5 rfl rfl rfl rfl rfl, R6_of h6 rfl rfl rfl rfl, R7_of h7 rfl rfl rfl rfl, R8_of h8 rfl rfl rfl rfl rfl rfl rfl, R9_of h9 rfl rfl rfl rfl rfl rfl⟩
theorem s_erase : St_0 f_X11_erase f_X12_erase Rel := by
  intro  u h
  have hh := h
  obtain ⟨h1, h2, h3, h4, h5, h6, h7, h8, h9⟩ := h
  refine ⟨u 21 1, wr u 21 1 0, wr (wr u 21 1 0) 38 16 0, rfl, ?_, ?_⟩
  · exact so2 (show u 38 16 = u 21 1 from h6.2.1)
  · exact ⟨R1_of h1 rfl rfl rfl rfl rfl rfl rfl, R2_of h2 rfl rfl rfl rfl rfl rfl rfl rfl rfl (fun _ _ => rfl) (fun _ _ => rfl), R3_of h3 rfl rfl rfl rfl, R4_of h4 rfl rfl, R5_of h5 rfl rfl rfl rfl rfl, ⟨h6.1, rfl, (show rg 0 0 160 from ⟨by decide, by decide⟩)⟩, R7_of h7 rfl rfl rfl rfl, R8_of h8 rfl rfl rfl rfl rfl rfl rfl, R9_of h9 rfl rfl rfl rfl rfl rfl⟩
theorem s_sea : St_1 f_X11_sea f_X12_sea Rel := by
  intro a u h
  have hh := h
  obtain ⟨h1, h2, h3, h4, h5, h6, h7, h8, h9⟩ := h
  by_cases c : inR a (-999) 999 = 0
  · exact ⟨-3, u, u, by unfold f_X11_sea; rw [X_isTurn, bd_some, if_pos c], by unfold f_X12_sea; rw [L_in_m999_999, bd_some, if_pos c], hh⟩
  · obtain ⟨q1, q2, q3, q4⟩ := h3
    by_cases f : u 1 1 = 24
    · have hlt : ¬ u 1 1 < 24 := by rw [f]; decide
      refine ⟨-5, u, u, ?_, ?_, hh⟩
      · unfold f_X11_sea f_X6_add
        rw [X_isTurn, bd_some, if_neg c, if_neg hlt, bd_some]
      · unfold f_X12_sea
        rw [L_in_m999_999, bd_some, if_neg c, if_pos (q2.trans f)]
    · have f24 : (u 1 1).toInt ≠ 24 := fun e => f (ti_ext e)
      have hlt : u 1 1 < 24 := ti_lt.mpr (by have := q3.2; show (u 1 1).toInt < 24; omega)
      have hin : inb (u 1 1) 24 = true := inb_of q3.1 (by have := q3.2; omega)
      refine ⟨u 1 1 + 1, wr (wr u 2 (Int32.toNatClampNeg (u 1 1)) a) 1 1 (u 1 1 + 1), wr (wr (wr (wr u 2 (Int32.toNatClampNeg (u 1 1)) a) 1 1 (u 1 1 + 1)) 43 (Int32.toNatClampNeg (u 1 1)) a) 38 5 (u 1 1 + 1), ?_, ?_, ?_⟩
      · unfold f_X11_sea f_X6_add
        rw [X_isTurn, bd_some, if_neg c, if_pos hlt, ck_y hin]
        rfl
      · unfold f_X12_sea
        rw [L_in_m999_999, bd_some, if_neg c]
        have e : (wr (wr u 2 (Int32.toNatClampNeg (u 1 1)) a) 1 1 (u 1 1 + 1)) 38 5 = u 1 1 := q2
        rw [e, if_neg f, ck_y hin]
        simp only [nm_is]
        have e2 : (wr (wr (wr u 2 (Int32.toNatClampNeg (u 1 1)) a) 1 1 (u 1 1 + 1)) 43 (Int32.toNatClampNeg (u 1 1)) a) 38 5 = u 1 1 := q2
        rw [e2]
        rfl
      · have hr : rg a (-999) 999 := inR_rg c
        have hadd : (u 1 1 + 1).toInt = (u 1 1).toInt + 1 := ti_add (by have := q3.1; show _ ≤ (u 1 1).toInt + 1; omega) (by have := q3.2; show (u 1 1).toInt + 1 ≤ _; omega)
        refine ⟨R1_of h1 rfl rfl rfl rfl rfl rfl rfl, R2_of h2 rfl rfl rfl rfl rfl rfl rfl rfl rfl (fun _ _ => rfl) (fun _ _ => rfl), ⟨?_, rfl, ⟨?_, ?_⟩, ?_⟩, R4_of h4 rfl rfl, R5_of h5 rfl rfl rfl rfl rfl, R6_of h6 rfl rfl rfl rfl, R7_of h7 rfl rfl rfl rfl, R8_of h8 rfl rfl rfl rfl rfl rfl rfl, R9_of h9 rfl rfl rfl rfl rfl rfl⟩
        · show upd (u 43) (Int32.toNatClampNeg (u 1 1)) a = upd (u 2) (Int32.toNatClampNeg (u 1 1)) a
          rw [q1]
        · show 0 ≤ (u 1 1 + 1).toInt
          have := q3.1
          omega
        · show (u 1 1 + 1).toInt ≤ 24
          have := q3.2
          omega
        · intro j
          show rg (upd (u 2) (Int32.toNatClampNeg (u 1 1)) a j) (-999) 999
          unfold upd
          split
          · exact hr
          · exact q4 j
theorem s_iron : St_2 f_X11_iron f_X12_iron Rel := by
  intro a b u h
  have hh := h
  obtain ⟨h1, h2, h3, h4, h5, h6, h7, h8, h9⟩ := h
  by_cases c : inR a 0 7 = 0
  · exact ⟨-3, u, u, by unfold f_X11_iron; rw [X_isEighth, bd_some, if_pos c], by unfold f_X12_iron; rw [L_in_0_7, bd_some, if_pos c], hh⟩
  · by_cases c2 : inR b (-2000) 2000 = 0
    · exact ⟨-3, u, u, by unfold f_X11_iron; rw [X_isEighth, bd_some, if_neg c, L_isWithin, bd_some, if_pos c2], by unfold f_X12_iron; rw [L_in_0_7, bd_some, if_neg c, L_in_m2000_2000, bd_some, if_pos c2], hh⟩
    · have hk : rg a 0 7 := inR_rg c
      have hv : rg b (-2000) 2000 := inR_rg c2
      have hin : inb a 8 = true := inb_rg hk (by decide)
      refine ⟨1, wr u 4 (Int32.toNatClampNeg a) b, wr (wr u 4 (Int32.toNatClampNeg a) b) 52 (Int32.toNatClampNeg a) b, ?_, ?_, ?_⟩
      · unfold f_X11_iron
        rw [X_isEighth, bd_some, if_neg c, L_isWithin, bd_some, if_neg c2, ck_y hin]
        rfl
      · unfold f_X12_iron
        rw [L_in_0_7, bd_some, if_neg c, L_in_m2000_2000, bd_some, if_neg c2, ck_y hin]
        rfl
      · refine ⟨R1_of h1 rfl rfl rfl rfl rfl rfl rfl, R2_of h2 rfl rfl rfl rfl rfl rfl rfl rfl rfl (fun _ _ => rfl) (fun _ _ => rfl), R3_of h3 rfl rfl rfl rfl, ⟨?_, ?_⟩, R5_of h5 rfl rfl rfl rfl rfl, R6_of h6 rfl rfl rfl rfl, R7_of h7 rfl rfl rfl rfl, R8_of h8 rfl rfl rfl rfl rfl rfl rfl, R9_of h9 rfl rfl rfl rfl rfl rfl⟩
        · show upd (u 52) (Int32.toNatClampNeg a) b = upd (u 4) (Int32.toNatClampNeg a) b
          rw [h4.1]
        · intro j
          show rg (upd (u 4) (Int32.toNatClampNeg a) b j) (-2000) 2000
          unfold upd
          split
          · exact hv
          · exact h4.2 j
theorem s_steers : St_1 f_X11_steers f_X12_steers Rel := by
  intro a u h
  have hh := h
  obtain ⟨h1, h2, h3, h4, h5, h6, h7, h8, h9⟩ := h
  by_cases c : inR a 0 5 = 0
  · exact ⟨-3, u, u, by unfold f_X11_steers; rw [L_isWithin, bd_some, if_pos c], by unfold f_X12_steers; rw [L_in_0_5, bd_some, if_pos c], hh⟩
  · have hk : rg a 0 5 := inR_rg c
    have hin : inb a 6 = true := inb_rg hk (by decide)
    refine ⟨u 18 (Int32.toNatClampNeg a), u, u, ?_, ?_, hh⟩
    · unfold f_X11_steers
      rw [L_isWithin, bd_some, if_neg c, ck_y hin]
      rfl
    · unfold f_X12_steers
      rw [L_in_0_5, bd_some, if_neg c, ck_y hin]
      exact so2 (h5.1 _ (inb_lt hin))
theorem s_course : St_1 f_X11_course f_X12_course Rel := by
  intro a u h
  have hh := h
  obtain ⟨h1, h2, h3, h4, h5, h6, h7, h8, h9⟩ := h
  by_cases c : inR a 0 35999 = 0
  · exact ⟨-3, u, u, by unfold f_X11_course; rw [X_isHeading, bd_some, if_pos c], by unfold f_X12_course; rw [M_isHeading, bd_some, if_pos c], hh⟩
  · refine ⟨u 9 1, wr (wr u 9 1 a) 9 2 0, wr (wr (wr (wr u 9 1 a) 9 2 0) 38 20 a) 42 0 (-1), by unfold f_X11_course; rw [X_isHeading, bd_some, if_neg c]; rfl, ?_, ?_⟩
    · unfold f_X12_course
      rw [M_isHeading, bd_some, if_neg c]
      exact so2 (show u 38 20 = u 9 1 from h5.2.2.1)
    · have hr : rg a 0 35999 := inR_rg c
      obtain ⟨a1, a2, a3, a4, a5⟩ := h5
      exact ⟨R1_of h1 rfl rfl rfl rfl rfl rfl rfl, R2_of h2 rfl rfl rfl rfl rfl rfl rfl rfl rfl (fun _ _ => rfl) (fun _ _ => rfl), R3_of h3 rfl rfl rfl rfl, R4_of h4 rfl rfl, ⟨a1, a2, rfl, hr, Or.inl ⟨rfl, rfl⟩⟩, R6_of h6 rfl rfl rfl rfl, R7_of h7 rfl rfl rfl rfl, R8_of h8 rfl rfl rfl rfl rfl rfl rfl, R9_of h9 rfl rfl rfl rfl rfl rfl⟩
theorem s_count : St_1 f_X11_count f_X12_count Rel := by
  intro a u h
  have hh := h
  obtain ⟨h1, h2, h3, h4, h5, h6, h7, h8, h9⟩ := h
  by_cases c0 : a = 0
  · subst c0
    exact ⟨u 5 8, u, u, rfl, so2 (h1.2.2.2.2.2.1), hh⟩
  by_cases c1 : a = 1
  · subst c1
    exact ⟨u 5 4, u, u, rfl, so2 (h1.2.2.2.2.1), hh⟩
  by_cases c2 : a = 2
  · subst c2
    exact ⟨u 5 6 + 50, u, u, rfl, so2 (congrArg (· + 50) h1.2.2.2.1), hh⟩
  by_cases c3 : a = 3
  · subst c3
    exact ⟨u 1 1, u, u, rfl, so2 (h3.2.1), hh⟩
  by_cases c4 : a = 4
  · subst c4
    exact ⟨u 21 1, u, u, rfl, so2 (h6.2.1), hh⟩
  by_cases c5 : a = 5
  · subst c5
    exact ⟨u 26 1, u, u, rfl, so2 (h7.2.1), hh⟩
  by_cases c6 : a = 6
  · subst c6
    exact ⟨u 28 3, u, u, rfl, so2 (h8.1), hh⟩
  by_cases c7 : a = 7
  · subst c7
    exact ⟨u 32 2, u, u, rfl, so2 (h9.2.2.1), hh⟩
  refine ⟨-3, u, u, ?_, ?_, hh⟩
  · unfold f_X11_count
    rw [if_neg c0, if_neg c1, if_neg c2, if_neg c3, if_neg c4, if_neg c5, if_neg c6, if_neg c7]
  · unfold f_X12_count
    rw [if_neg c0, if_neg c1, if_neg c2, if_neg c3, if_neg c4, if_neg c5, if_neg c6, if_neg c7]
theorem s_kind : St_2 f_X11_kind f_X12_kind Rel := by
  intro a b u h
  have hh := h
  obtain ⟨h1, h2, h3, h4, h5, h6, h7, h8, h9⟩ := h
  by_cases p : inR a 0 2 = 0
  · exact ⟨-2, u, u, by unfold f_X11_kind; rw [X_pa a u p, bq_some], by unfold f_X12_kind; rw [M_isPointer, bd_some, if_pos p], hh⟩
  · rcases p3 p with rfl | rfl | rfl
    · by_cases c : inR b 0 5 = 0
      · exact ⟨-3, u, u, by unfold f_X11_kind; rw [X_pa0, bq_some]; simp only []; rw [L_isWithin, bd_some, if_pos c], by unfold f_X12_kind; rw [M_isPointer, bd_some, if_neg p, L_in_0_5, bd_some, if_pos c], hh⟩
      · have hr : rg b 0 5 := inR_rg c
        have z0 : rg 0 (-18000) 17999 := ⟨by decide, by decide⟩
        have z0b : rg 0 (-9999) 9999 := ⟨by decide, by decide⟩
        obtain ⟨e0, e1, e2, e3, e4, e5, e6, e7, g0, g1, g2, g3, g4, g5, g6, g7⟩ := h2.1
        refine ⟨u 10 0, wr (wr (wr u 10 0 b) 10 4 0) 10 5 0, wr (wr (wr (wr (wr (wr u 10 0 b) 10 4 0) 10 5 0) 44 0 b) 48 0 0) 49 0 0, ?_, ?_, ?_⟩
        · unfold f_X11_kind
          rw [X_pa0, bq_some]
          simp only []
          rw [L_isWithin, bd_some, if_neg c]
          rfl
        · unfold f_X12_kind
          rw [M_isPointer, bd_some, if_neg p, L_in_0_5, bd_some, if_neg c]
          exact so2 e0
        · exact ⟨R1_of h1 rfl rfl rfl rfl rfl rfl rfl, ⟨⟨rfl, e1, e2, e3, rfl, rfl, e6, e7, hr, g1, g2, g3, z0, z0b, g6, g7⟩, RP_of h2.2.1 rfl rfl rfl rfl rfl rfl rfl rfl rfl, RP_of h2.2.2 rfl rfl rfl rfl rfl rfl rfl rfl rfl⟩, R3_of h3 rfl rfl rfl rfl, R4_of h4 rfl rfl, R5_of h5 rfl rfl rfl rfl rfl, R6_of h6 rfl rfl rfl rfl, R7_of h7 rfl rfl rfl rfl, R8_of h8 rfl rfl rfl rfl rfl rfl rfl, R9_of h9 rfl rfl rfl rfl rfl rfl⟩
    · by_cases c : inR b 0 5 = 0
      · exact ⟨-3, u, u, by unfold f_X11_kind; rw [X_pa1, bq_some]; simp only []; rw [L_isWithin, bd_some, if_pos c], by unfold f_X12_kind; rw [M_isPointer, bd_some, if_neg p, L_in_0_5, bd_some, if_pos c], hh⟩
      · have hr : rg b 0 5 := inR_rg c
        have z0 : rg 0 (-18000) 17999 := ⟨by decide, by decide⟩
        have z0b : rg 0 (-9999) 9999 := ⟨by decide, by decide⟩
        obtain ⟨e0, e1, e2, e3, e4, e5, e6, e7, g0, g1, g2, g3, g4, g5, g6, g7⟩ := h2.2.1
        refine ⟨u 11 0, wr (wr (wr u 11 0 b) 11 4 0) 11 5 0, wr (wr (wr (wr (wr (wr u 11 0 b) 11 4 0) 11 5 0) 44 1 b) 48 1 0) 49 1 0, ?_, ?_, ?_⟩
        · unfold f_X11_kind
          rw [X_pa1, bq_some]
          simp only []
          rw [L_isWithin, bd_some, if_neg c]
          rfl
        · unfold f_X12_kind
          rw [M_isPointer, bd_some, if_neg p, L_in_0_5, bd_some, if_neg c]
          exact so2 e0
        · exact ⟨R1_of h1 rfl rfl rfl rfl rfl rfl rfl, ⟨RP_of h2.1 rfl rfl rfl rfl rfl rfl rfl rfl rfl, ⟨rfl, e1, e2, e3, rfl, rfl, e6, e7, hr, g1, g2, g3, z0, z0b, g6, g7⟩, RP_of h2.2.2 rfl rfl rfl rfl rfl rfl rfl rfl rfl⟩, R3_of h3 rfl rfl rfl rfl, R4_of h4 rfl rfl, R5_of h5 rfl rfl rfl rfl rfl, R6_of h6 rfl rfl rfl rfl, R7_of h7 rfl rfl rfl rfl, R8_of h8 rfl rfl rfl rfl rfl rfl rfl, R9_of h9 rfl rfl rfl rfl rfl rfl⟩
    · by_cases c : inR b 0 5 = 0
      · exact ⟨-3, u, u, by unfold f_X11_kind; rw [X_pa2, bq_some]; simp only []; rw [L_isWithin, bd_some, if_pos c], by unfold f_X12_kind; rw [M_isPointer, bd_some, if_neg p, L_in_0_5, bd_some, if_pos c], hh⟩
      · have hr : rg b 0 5 := inR_rg c
        have z0 : rg 0 (-18000) 17999 := ⟨by decide, by decide⟩
        have z0b : rg 0 (-9999) 9999 := ⟨by decide, by decide⟩
        obtain ⟨e0, e1, e2, e3, e4, e5, e6, e7, g0, g1, g2, g3, g4, g5, g6, g7⟩ := h2.2.2
        refine ⟨u 12 0, wr (wr (wr u 12 0 b) 12 4 0) 12 5 0, wr (wr (wr (wr (wr (wr u 12 0 b) 12 4 0) 12 5 0) 44 2 b) 48 2 0) 49 2 0, ?_, ?_, ?_⟩
        · unfold f_X11_kind
          rw [X_pa2, bq_some]
          simp only []
          rw [L_isWithin, bd_some, if_neg c]
          rfl
        · unfold f_X12_kind
          rw [M_isPointer, bd_some, if_neg p, L_in_0_5, bd_some, if_neg c]
          exact so2 e0
        · exact ⟨R1_of h1 rfl rfl rfl rfl rfl rfl rfl, ⟨RP_of h2.1 rfl rfl rfl rfl rfl rfl rfl rfl rfl, RP_of h2.2.1 rfl rfl rfl rfl rfl rfl rfl rfl rfl, ⟨rfl, e1, e2, e3, rfl, rfl, e6, e7, hr, g1, g2, g3, z0, z0b, g6, g7⟩⟩, R3_of h3 rfl rfl rfl rfl, R4_of h4 rfl rfl, R5_of h5 rfl rfl rfl rfl rfl, R6_of h6 rfl rfl rfl rfl, R7_of h7 rfl rfl rfl rfl, R8_of h8 rfl rfl rfl rfl rfl rfl rfl, R9_of h9 rfl rfl rfl rfl rfl rfl⟩
theorem s_off : St_2 f_X11_off f_X12_off Rel := by
  intro a b u h
  have hh := h
  obtain ⟨h1, h2, h3, h4, h5, h6, h7, h8, h9⟩ := h
  by_cases p : inR a 0 2 = 0
  · exact ⟨-2, u, u, by unfold f_X11_off; rw [X_pa a u p, bq_some], by unfold f_X12_off; rw [M_isPointer, bd_some, if_pos p], hh⟩
  · rcases p3 p with rfl | rfl | rfl
    · by_cases c : inR b (-18000) 17999 = 0
      · exact ⟨-3, u, u, by unfold f_X11_off; rw [X_pa0, bq_some]; simp only []; rw [X_isOff, bd_some, if_pos c], by unfold f_X12_off; rw [M_isPointer, bd_some, if_neg p, M_isOff, bd_some, if_pos c], hh⟩
      · have hr : rg b (-18000) 17999 := inR_rg c
        have z0b : rg 0 (-9999) 9999 := ⟨by decide, by decide⟩
        obtain ⟨e0, e1, e2, e3, e4, e5, e6, e7, g0, g1, g2, g3, g4, g5, g6, g7⟩ := h2.1
        refine ⟨1, wr (wr u 10 4 b) 10 5 0, wr (wr (wr (wr u 10 4 b) 10 5 0) 48 0 b) 49 0 0, ?_, ?_, ?_⟩
        · unfold f_X11_off
          rw [X_pa0, bq_some]
          simp only []
          rw [X_isOff, bd_some, if_neg c]
          rfl
        · unfold f_X12_off
          rw [M_isPointer, bd_some, if_neg p, M_isOff, bd_some, if_neg c]
          rfl
        · exact ⟨R1_of h1 rfl rfl rfl rfl rfl rfl rfl, ⟨⟨e0, e1, e2, e3, rfl, rfl, e6, e7, g0, g1, g2, g3, hr, z0b, g6, g7⟩, RP_of h2.2.1 rfl rfl rfl rfl rfl rfl rfl rfl rfl, RP_of h2.2.2 rfl rfl rfl rfl rfl rfl rfl rfl rfl⟩, R3_of h3 rfl rfl rfl rfl, R4_of h4 rfl rfl, R5_of h5 rfl rfl rfl rfl rfl, R6_of h6 rfl rfl rfl rfl, R7_of h7 rfl rfl rfl rfl, R8_of h8 rfl rfl rfl rfl rfl rfl rfl, R9_of h9 rfl rfl rfl rfl rfl rfl⟩
    · by_cases c : inR b (-18000) 17999 = 0
      · exact ⟨-3, u, u, by unfold f_X11_off; rw [X_pa1, bq_some]; simp only []; rw [X_isOff, bd_some, if_pos c], by unfold f_X12_off; rw [M_isPointer, bd_some, if_neg p, M_isOff, bd_some, if_pos c], hh⟩
      · have hr : rg b (-18000) 17999 := inR_rg c
        have z0b : rg 0 (-9999) 9999 := ⟨by decide, by decide⟩
        obtain ⟨e0, e1, e2, e3, e4, e5, e6, e7, g0, g1, g2, g3, g4, g5, g6, g7⟩ := h2.2.1
        refine ⟨1, wr (wr u 11 4 b) 11 5 0, wr (wr (wr (wr u 11 4 b) 11 5 0) 48 1 b) 49 1 0, ?_, ?_, ?_⟩
        · unfold f_X11_off
          rw [X_pa1, bq_some]
          simp only []
          rw [X_isOff, bd_some, if_neg c]
          rfl
        · unfold f_X12_off
          rw [M_isPointer, bd_some, if_neg p, M_isOff, bd_some, if_neg c]
          rfl
        · exact ⟨R1_of h1 rfl rfl rfl rfl rfl rfl rfl, ⟨RP_of h2.1 rfl rfl rfl rfl rfl rfl rfl rfl rfl, ⟨e0, e1, e2, e3, rfl, rfl, e6, e7, g0, g1, g2, g3, hr, z0b, g6, g7⟩, RP_of h2.2.2 rfl rfl rfl rfl rfl rfl rfl rfl rfl⟩, R3_of h3 rfl rfl rfl rfl, R4_of h4 rfl rfl, R5_of h5 rfl rfl rfl rfl rfl, R6_of h6 rfl rfl rfl rfl, R7_of h7 rfl rfl rfl rfl, R8_of h8 rfl rfl rfl rfl rfl rfl rfl, R9_of h9 rfl rfl rfl rfl rfl rfl⟩
    · by_cases c : inR b (-18000) 17999 = 0
      · exact ⟨-3, u, u, by unfold f_X11_off; rw [X_pa2, bq_some]; simp only []; rw [X_isOff, bd_some, if_pos c], by unfold f_X12_off; rw [M_isPointer, bd_some, if_neg p, M_isOff, bd_some, if_pos c], hh⟩
      · have hr : rg b (-18000) 17999 := inR_rg c
        have z0b : rg 0 (-9999) 9999 := ⟨by decide, by decide⟩
        obtain ⟨e0, e1, e2, e3, e4, e5, e6, e7, g0, g1, g2, g3, g4, g5, g6, g7⟩ := h2.2.2
        refine ⟨1, wr (wr u 12 4 b) 12 5 0, wr (wr (wr (wr u 12 4 b) 12 5 0) 48 2 b) 49 2 0, ?_, ?_, ?_⟩
        · unfold f_X11_off
          rw [X_pa2, bq_some]
          simp only []
          rw [X_isOff, bd_some, if_neg c]
          rfl
        · unfold f_X12_off
          rw [M_isPointer, bd_some, if_neg p, M_isOff, bd_some, if_neg c]
          rfl
        · exact ⟨R1_of h1 rfl rfl rfl rfl rfl rfl rfl, ⟨RP_of h2.1 rfl rfl rfl rfl rfl rfl rfl rfl rfl, RP_of h2.2.1 rfl rfl rfl rfl rfl rfl rfl rfl rfl, ⟨e0, e1, e2, e3, rfl, rfl, e6, e7, g0, g1, g2, g3, hr, z0b, g6, g7⟩⟩, R3_of h3 rfl rfl rfl rfl, R4_of h4 rfl rfl, R5_of h5 rfl rfl rfl rfl rfl, R6_of h6 rfl rfl rfl rfl, R7_of h7 rfl rfl rfl rfl, R8_of h8 rfl rfl rfl rfl rfl rfl rfl, R9_of h9 rfl rfl rfl rfl rfl rfl⟩
theorem s_told : St_3 f_X11_told f_X12_told Rel := by
  intro a b d u h
  have hh := h
  obtain ⟨h1, h2, h3, h4, h5, h6, h7, h8, h9⟩ := h
  by_cases p : inR a 0 2 = 0
  · exact ⟨-2, u, u, by unfold f_X11_told; rw [X_pa a u p, bq_some], by unfold f_X12_told; rw [M_isPointer, bd_some, if_pos p], hh⟩
  · rcases p3 p with rfl | rfl | rfl
    · by_cases c : inR b 0 40 = 0
      · exact ⟨-3, u, u, by unfold f_X11_told; rw [X_pa0, bq_some]; simp only []; rw [X_isSpeed, bd_some, if_pos c], by unfold f_X12_told; rw [M_isPointer, bd_some, if_neg p, M_isSpeed, bd_some, if_pos c], hh⟩
      · by_cases c2 : inR d (-89) 89 = 0
        · exact ⟨-3, u, u, by unfold f_X11_told; rw [X_pa0, bq_some]; simp only []; rw [X_isSpeed, bd_some, if_neg c, X_isPlace, bd_some, if_pos c2], by unfold f_X12_told; rw [M_isPointer, bd_some, if_neg p, M_isSpeed, bd_some, if_neg c, M_isPlace, bd_some, if_pos c2], hh⟩
        · have hs : rg b 0 40 := inR_rg c
          have hp : rg d (-89) 89 := inR_rg c2
          obtain ⟨e0, e1, e2, e3, e4, e5, e6, e7, g0, g1, g2, g3, g4, g5, g6, g7⟩ := h2.1
          refine ⟨1, wr (wr u 10 6 b) 10 7 d, wr (wr (wr (wr u 10 6 b) 10 7 d) 50 0 b) 51 0 d, ?_, ?_, ?_⟩
          · unfold f_X11_told
            rw [X_pa0, bq_some]
            simp only []
            rw [X_isSpeed, bd_some, if_neg c, X_isPlace, bd_some, if_neg c2]
            rfl
          · unfold f_X12_told
            rw [M_isPointer, bd_some, if_neg p, M_isSpeed, bd_some, if_neg c, M_isPlace, bd_some, if_neg c2]
            rfl
          · exact ⟨R1_of h1 rfl rfl rfl rfl rfl rfl rfl, ⟨⟨e0, e1, e2, e3, e4, e5, rfl, rfl, g0, g1, g2, g3, g4, g5, hs, hp⟩, RP_of h2.2.1 rfl rfl rfl rfl rfl rfl rfl rfl rfl, RP_of h2.2.2 rfl rfl rfl rfl rfl rfl rfl rfl rfl⟩, R3_of h3 rfl rfl rfl rfl, R4_of h4 rfl rfl, R5_of h5 rfl rfl rfl rfl rfl, R6_of h6 rfl rfl rfl rfl, R7_of h7 rfl rfl rfl rfl, R8_of h8 rfl rfl rfl rfl rfl rfl rfl, R9_of h9 rfl rfl rfl rfl rfl rfl⟩
    · by_cases c : inR b 0 40 = 0
      · exact ⟨-3, u, u, by unfold f_X11_told; rw [X_pa1, bq_some]; simp only []; rw [X_isSpeed, bd_some, if_pos c], by unfold f_X12_told; rw [M_isPointer, bd_some, if_neg p, M_isSpeed, bd_some, if_pos c], hh⟩
      · by_cases c2 : inR d (-89) 89 = 0
        · exact ⟨-3, u, u, by unfold f_X11_told; rw [X_pa1, bq_some]; simp only []; rw [X_isSpeed, bd_some, if_neg c, X_isPlace, bd_some, if_pos c2], by unfold f_X12_told; rw [M_isPointer, bd_some, if_neg p, M_isSpeed, bd_some, if_neg c, M_isPlace, bd_some, if_pos c2], hh⟩
        · have hs : rg b 0 40 := inR_rg c
          have hp : rg d (-89) 89 := inR_rg c2
          obtain ⟨e0, e1, e2, e3, e4, e5, e6, e7, g0, g1, g2, g3, g4, g5, g6, g7⟩ := h2.2.1
          refine ⟨1, wr (wr u 11 6 b) 11 7 d, wr (wr (wr (wr u 11 6 b) 11 7 d) 50 1 b) 51 1 d, ?_, ?_, ?_⟩
          · unfold f_X11_told
            rw [X_pa1, bq_some]
            simp only []
            rw [X_isSpeed, bd_some, if_neg c, X_isPlace, bd_some, if_neg c2]
            rfl
          · unfold f_X12_told
            rw [M_isPointer, bd_some, if_neg p, M_isSpeed, bd_some, if_neg c, M_isPlace, bd_some, if_neg c2]
            rfl
          · exact ⟨R1_of h1 rfl rfl rfl rfl rfl rfl rfl, ⟨RP_of h2.1 rfl rfl rfl rfl rfl rfl rfl rfl rfl, ⟨e0, e1, e2, e3, e4, e5, rfl, rfl, g0, g1, g2, g3, g4, g5, hs, hp⟩, RP_of h2.2.2 rfl rfl rfl rfl rfl rfl rfl rfl rfl⟩, R3_of h3 rfl rfl rfl rfl, R4_of h4 rfl rfl, R5_of h5 rfl rfl rfl rfl rfl, R6_of h6 rfl rfl rfl rfl, R7_of h7 rfl rfl rfl rfl, R8_of h8 rfl rfl rfl rfl rfl rfl rfl, R9_of h9 rfl rfl rfl rfl rfl rfl⟩
    · by_cases c : inR b 0 40 = 0
      · exact ⟨-3, u, u, by unfold f_X11_told; rw [X_pa2, bq_some]; simp only []; rw [X_isSpeed, bd_some, if_pos c], by unfold f_X12_told; rw [M_isPointer, bd_some, if_neg p, M_isSpeed, bd_some, if_pos c], hh⟩
      · by_cases c2 : inR d (-89) 89 = 0
        · exact ⟨-3, u, u, by unfold f_X11_told; rw [X_pa2, bq_some]; simp only []; rw [X_isSpeed, bd_some, if_neg c, X_isPlace, bd_some, if_pos c2], by unfold f_X12_told; rw [M_isPointer, bd_some, if_neg p, M_isSpeed, bd_some, if_neg c, M_isPlace, bd_some, if_pos c2], hh⟩
        · have hs : rg b 0 40 := inR_rg c
          have hp : rg d (-89) 89 := inR_rg c2
          obtain ⟨e0, e1, e2, e3, e4, e5, e6, e7, g0, g1, g2, g3, g4, g5, g6, g7⟩ := h2.2.2
          refine ⟨1, wr (wr u 12 6 b) 12 7 d, wr (wr (wr (wr u 12 6 b) 12 7 d) 50 2 b) 51 2 d, ?_, ?_, ?_⟩
          · unfold f_X11_told
            rw [X_pa2, bq_some]
            simp only []
            rw [X_isSpeed, bd_some, if_neg c, X_isPlace, bd_some, if_neg c2]
            rfl
          · unfold f_X12_told
            rw [M_isPointer, bd_some, if_neg p, M_isSpeed, bd_some, if_neg c, M_isPlace, bd_some, if_neg c2]
            rfl
          · exact ⟨R1_of h1 rfl rfl rfl rfl rfl rfl rfl, ⟨RP_of h2.1 rfl rfl rfl rfl rfl rfl rfl rfl rfl, RP_of h2.2.1 rfl rfl rfl rfl rfl rfl rfl rfl rfl, ⟨e0, e1, e2, e3, e4, e5, rfl, rfl, g0, g1, g2, g3, g4, g5, hs, hp⟩⟩, R3_of h3 rfl rfl rfl rfl, R4_of h4 rfl rfl, R5_of h5 rfl rfl rfl rfl rfl, R6_of h6 rfl rfl rfl rfl, R7_of h7 rfl rfl rfl rfl, R8_of h8 rfl rfl rfl rfl rfl rfl rfl, R9_of h9 rfl rfl rfl rfl rfl rfl⟩
theorem s_now : St_2 f_X11_now f_X12_now Rel := by
  intro a b u h
  have hh := h
  obtain ⟨h1, h2, h3, h4, h5, h6, h7, h8, h9⟩ := h
  by_cases p : inR a 0 2 = 0
  · exact ⟨-2, u, u, by unfold f_X11_now; rw [X_pa a u p, bq_some], by unfold f_X12_now; rw [M_isPointer, bd_some, if_pos p], hh⟩
  · rcases p3 p with rfl | rfl | rfl
    · by_cases c : inR b 0 1 = 0
      · exact ⟨-3, u, u, by unfold f_X11_now; rw [X_pa0, bq_some]; simp only []; rw [L_isWithin, bd_some, if_pos c], by unfold f_X12_now; rw [M_isPointer, bd_some, if_neg p, L_in_0_1, bd_some, if_pos c], hh⟩
      · obtain ⟨e0, e1, e2, e3, e4, e5, e6, e7, g0, g1, g2, g3, g4, g5, g6, g7⟩ := h2.1
        by_cases z : b = 0
        · refine ⟨u 10 4 + 50000, u, u, ?_, ?_, hh⟩
          · unfold f_X11_now
            rw [X_pa0, bq_some]
            simp only []
            rw [L_isWithin, bd_some, if_neg c, if_pos z]
          · unfold f_X12_now
            rw [M_isPointer, bd_some, if_neg p, L_in_0_1, bd_some, if_neg c, if_pos z]
            exact so2 (by rw [← e4]; exact Int32.add_comm _ _)
        · refine ⟨u 10 5 + 50000, u, u, ?_, ?_, hh⟩
          · unfold f_X11_now
            rw [X_pa0, bq_some]
            simp only []
            rw [L_isWithin, bd_some, if_neg c, if_neg z]
          · unfold f_X12_now
            rw [M_isPointer, bd_some, if_neg p, L_in_0_1, bd_some, if_neg c, if_neg z]
            exact so2 (by rw [← e5]; exact Int32.add_comm _ _)
    · by_cases c : inR b 0 1 = 0
      · exact ⟨-3, u, u, by unfold f_X11_now; rw [X_pa1, bq_some]; simp only []; rw [L_isWithin, bd_some, if_pos c], by unfold f_X12_now; rw [M_isPointer, bd_some, if_neg p, L_in_0_1, bd_some, if_pos c], hh⟩
      · obtain ⟨e0, e1, e2, e3, e4, e5, e6, e7, g0, g1, g2, g3, g4, g5, g6, g7⟩ := h2.2.1
        by_cases z : b = 0
        · refine ⟨u 11 4 + 50000, u, u, ?_, ?_, hh⟩
          · unfold f_X11_now
            rw [X_pa1, bq_some]
            simp only []
            rw [L_isWithin, bd_some, if_neg c, if_pos z]
          · unfold f_X12_now
            rw [M_isPointer, bd_some, if_neg p, L_in_0_1, bd_some, if_neg c, if_pos z]
            exact so2 (by rw [← e4]; exact Int32.add_comm _ _)
        · refine ⟨u 11 5 + 50000, u, u, ?_, ?_, hh⟩
          · unfold f_X11_now
            rw [X_pa1, bq_some]
            simp only []
            rw [L_isWithin, bd_some, if_neg c, if_neg z]
          · unfold f_X12_now
            rw [M_isPointer, bd_some, if_neg p, L_in_0_1, bd_some, if_neg c, if_neg z]
            exact so2 (by rw [← e5]; exact Int32.add_comm _ _)
    · by_cases c : inR b 0 1 = 0
      · exact ⟨-3, u, u, by unfold f_X11_now; rw [X_pa2, bq_some]; simp only []; rw [L_isWithin, bd_some, if_pos c], by unfold f_X12_now; rw [M_isPointer, bd_some, if_neg p, L_in_0_1, bd_some, if_pos c], hh⟩
      · obtain ⟨e0, e1, e2, e3, e4, e5, e6, e7, g0, g1, g2, g3, g4, g5, g6, g7⟩ := h2.2.2
        by_cases z : b = 0
        · refine ⟨u 12 4 + 50000, u, u, ?_, ?_, hh⟩
          · unfold f_X11_now
            rw [X_pa2, bq_some]
            simp only []
            rw [L_isWithin, bd_some, if_neg c, if_pos z]
          · unfold f_X12_now
            rw [M_isPointer, bd_some, if_neg p, L_in_0_1, bd_some, if_neg c, if_pos z]
            exact so2 (by rw [← e4]; exact Int32.add_comm _ _)
        · refine ⟨u 12 5 + 50000, u, u, ?_, ?_, hh⟩
          · unfold f_X11_now
            rw [X_pa2, bq_some]
            simp only []
            rw [L_isWithin, bd_some, if_neg c, if_neg z]
          · unfold f_X12_now
            rw [M_isPointer, bd_some, if_neg p, L_in_0_1, bd_some, if_neg c, if_neg z]
            exact so2 (by rw [← e5]; exact Int32.add_comm _ _)
theorem s_tune : St_3 f_X11_tune f_X12_tune Rel := by
  intro a b d u h
  have hh := h
  obtain ⟨h1, h2, h3, h4, h5, h6, h7, h8, h9⟩ := h
  by_cases p : inR a 0 2 = 0
  · exact ⟨-2, u, u, by unfold f_X11_tune; rw [X_pa a u p, bq_some], by unfold f_X12_tune; rw [M_isPointer, bd_some, if_pos p], hh⟩
  · rcases p3 p with rfl | rfl | rfl
    · by_cases c : inR b 0 2 = 0
      · exact ⟨-3, u, u, by unfold f_X11_tune; rw [X_pa0, bq_some]; simp only []; rw [L_isWithin, bd_some, if_pos c], by unfold f_X12_tune; rw [M_isPointer, bd_some, if_neg p, L_in_0_2, bd_some, if_pos c], hh⟩
      · by_cases c2 : inR d 0 99 = 0
        · exact ⟨-3, u, u, by unfold f_X11_tune; rw [X_pa0, bq_some]; simp only []; rw [L_isWithin, bd_some, if_neg c, L_isWithin, bd_some, if_pos c2], by unfold f_X12_tune; rw [M_isPointer, bd_some, if_neg p, L_in_0_2, bd_some, if_neg c, L_in_0_99, bd_some, if_pos c2], hh⟩
        · have hv : rg d 0 99 := inR_rg c2
          obtain ⟨e0, e1, e2, e3, e4, e5, e6, e7, g0, g1, g2, g3, g4, g5, g6, g7⟩ := h2.1
          rcases p3 c with rfl | rfl | rfl
          · refine ⟨u 10 1, (wr u 10 1 d), (wr (wr (wr (wr u 10 1 d) 45 0 d) 46 0 (u 46 0)) 47 0 (u 47 0)), ?_, ?_, ?_⟩
            · unfold f_X11_tune
              rw [X_pa0, bq_some]
              simp only []
              rw [L_isWithin, bd_some, if_neg c, L_isWithin, bd_some, if_neg c2]
              rfl
            · unfold f_X12_tune
              rw [M_isPointer, bd_some, if_neg p, L_in_0_2, bd_some, if_neg c, L_in_0_99, bd_some, if_neg c2]
              exact so2 e1
            · exact ⟨R1_of h1 rfl rfl rfl rfl rfl rfl rfl, ⟨⟨e0, rfl, e2, e3, e4, e5, e6, e7, g0, hv, g2, g3, g4, g5, g6, g7⟩, RP_of h2.2.1 rfl rfl rfl rfl rfl rfl rfl rfl rfl, RP_of h2.2.2 rfl rfl rfl rfl rfl rfl rfl rfl rfl⟩, R3_of h3 rfl rfl rfl rfl, R4_of h4 rfl rfl, R5_of h5 rfl rfl rfl rfl rfl, R6_of h6 rfl rfl rfl rfl, R7_of h7 rfl rfl rfl rfl, R8_of h8 rfl rfl rfl rfl rfl rfl rfl, R9_of h9 rfl rfl rfl rfl rfl rfl⟩
          · refine ⟨u 10 2, (wr u 10 2 d), (wr (wr (wr (wr u 10 2 d) 45 0 (u 45 0)) 46 0 d) 47 0 (u 47 0)), ?_, ?_, ?_⟩
            · unfold f_X11_tune
              rw [X_pa0, bq_some]
              simp only []
              rw [L_isWithin, bd_some, if_neg c, L_isWithin, bd_some, if_neg c2]
              rfl
            · unfold f_X12_tune
              rw [M_isPointer, bd_some, if_neg p, L_in_0_2, bd_some, if_neg c, L_in_0_99, bd_some, if_neg c2]
              exact so2 e2
            · exact ⟨R1_of h1 rfl rfl rfl rfl rfl rfl rfl, ⟨⟨e0, e1, rfl, e3, e4, e5, e6, e7, g0, g1, hv, g3, g4, g5, g6, g7⟩, RP_of h2.2.1 rfl rfl rfl rfl rfl rfl rfl rfl rfl, RP_of h2.2.2 rfl rfl rfl rfl rfl rfl rfl rfl rfl⟩, R3_of h3 rfl rfl rfl rfl, R4_of h4 rfl rfl, R5_of h5 rfl rfl rfl rfl rfl, R6_of h6 rfl rfl rfl rfl, R7_of h7 rfl rfl rfl rfl, R8_of h8 rfl rfl rfl rfl rfl rfl rfl, R9_of h9 rfl rfl rfl rfl rfl rfl⟩
          · refine ⟨u 10 3, (wr u 10 3 d), (wr (wr (wr (wr u 10 3 d) 45 0 (u 45 0)) 46 0 (u 46 0)) 47 0 d), ?_, ?_, ?_⟩
            · unfold f_X11_tune
              rw [X_pa0, bq_some]
              simp only []
              rw [L_isWithin, bd_some, if_neg c, L_isWithin, bd_some, if_neg c2]
              rfl
            · unfold f_X12_tune
              rw [M_isPointer, bd_some, if_neg p, L_in_0_2, bd_some, if_neg c, L_in_0_99, bd_some, if_neg c2]
              exact so2 e3
            · exact ⟨R1_of h1 rfl rfl rfl rfl rfl rfl rfl, ⟨⟨e0, e1, e2, rfl, e4, e5, e6, e7, g0, g1, g2, hv, g4, g5, g6, g7⟩, RP_of h2.2.1 rfl rfl rfl rfl rfl rfl rfl rfl rfl, RP_of h2.2.2 rfl rfl rfl rfl rfl rfl rfl rfl rfl⟩, R3_of h3 rfl rfl rfl rfl, R4_of h4 rfl rfl, R5_of h5 rfl rfl rfl rfl rfl, R6_of h6 rfl rfl rfl rfl, R7_of h7 rfl rfl rfl rfl, R8_of h8 rfl rfl rfl rfl rfl rfl rfl, R9_of h9 rfl rfl rfl rfl rfl rfl⟩
    · by_cases c : inR b 0 2 = 0
      · exact ⟨-3, u, u, by unfold f_X11_tune; rw [X_pa1, bq_some]; simp only []; rw [L_isWithin, bd_some, if_pos c], by unfold f_X12_tune; rw [M_isPointer, bd_some, if_neg p, L_in_0_2, bd_some, if_pos c], hh⟩
      · by_cases c2 : inR d 0 99 = 0
        · exact ⟨-3, u, u, by unfold f_X11_tune; rw [X_pa1, bq_some]; simp only []; rw [L_isWithin, bd_some, if_neg c, L_isWithin, bd_some, if_pos c2], by unfold f_X12_tune; rw [M_isPointer, bd_some, if_neg p, L_in_0_2, bd_some, if_neg c, L_in_0_99, bd_some, if_pos c2], hh⟩
        · have hv : rg d 0 99 := inR_rg c2
          obtain ⟨e0, e1, e2, e3, e4, e5, e6, e7, g0, g1, g2, g3, g4, g5, g6, g7⟩ := h2.2.1
          rcases p3 c with rfl | rfl | rfl
          · refine ⟨u 11 1, (wr u 11 1 d), (wr (wr (wr (wr u 11 1 d) 45 1 d) 46 1 (u 46 1)) 47 1 (u 47 1)), ?_, ?_, ?_⟩
            · unfold f_X11_tune
              rw [X_pa1, bq_some]
              simp only []
              rw [L_isWithin, bd_some, if_neg c, L_isWithin, bd_some, if_neg c2]
              rfl
            · unfold f_X12_tune
              rw [M_isPointer, bd_some, if_neg p, L_in_0_2, bd_some, if_neg c, L_in_0_99, bd_some, if_neg c2]
              exact so2 e1
            · exact ⟨R1_of h1 rfl rfl rfl rfl rfl rfl rfl, ⟨RP_of h2.1 rfl rfl rfl rfl rfl rfl rfl rfl rfl, ⟨e0, rfl, e2, e3, e4, e5, e6, e7, g0, hv, g2, g3, g4, g5, g6, g7⟩, RP_of h2.2.2 rfl rfl rfl rfl rfl rfl rfl rfl rfl⟩, R3_of h3 rfl rfl rfl rfl, R4_of h4 rfl rfl, R5_of h5 rfl rfl rfl rfl rfl, R6_of h6 rfl rfl rfl rfl, R7_of h7 rfl rfl rfl rfl, R8_of h8 rfl rfl rfl rfl rfl rfl rfl, R9_of h9 rfl rfl rfl rfl rfl rfl⟩
          · refine ⟨u 11 2, (wr u 11 2 d), (wr (wr (wr (wr u 11 2 d) 45 1 (u 45 1)) 46 1 d) 47 1 (u 47 1)), ?_, ?_, ?_⟩
            · unfold f_X11_tune
              rw [X_pa1, bq_some]
              simp only []
              rw [L_isWithin, bd_some, if_neg c, L_isWithin, bd_some, if_neg c2]
              rfl
            · unfold f_X12_tune
              rw [M_isPointer, bd_some, if_neg p, L_in_0_2, bd_some, if_neg c, L_in_0_99, bd_some, if_neg c2]
              exact so2 e2
            · exact ⟨R1_of h1 rfl rfl rfl rfl rfl rfl rfl, ⟨RP_of h2.1 rfl rfl rfl rfl rfl rfl rfl rfl rfl, ⟨e0, e1, rfl, e3, e4, e5, e6, e7, g0, g1, hv, g3, g4, g5, g6, g7⟩, RP_of h2.2.2 rfl rfl rfl rfl rfl rfl rfl rfl rfl⟩, R3_of h3 rfl rfl rfl rfl, R4_of h4 rfl rfl, R5_of h5 rfl rfl rfl rfl rfl, R6_of h6 rfl rfl rfl rfl, R7_of h7 rfl rfl rfl rfl, R8_of h8 rfl rfl rfl rfl rfl rfl rfl, R9_of h9 rfl rfl rfl rfl rfl rfl⟩
          · refine ⟨u 11 3, (wr u 11 3 d), (wr (wr (wr (wr u 11 3 d) 45 1 (u 45 1)) 46 1 (u 46 1)) 47 1 d), ?_, ?_, ?_⟩
            · unfold f_X11_tune
              rw [X_pa1, bq_some]
              simp only []
              rw [L_isWithin, bd_some, if_neg c, L_isWithin, bd_some, if_neg c2]
              rfl
            · unfold f_X12_tune
              rw [M_isPointer, bd_some, if_neg p, L_in_0_2, bd_some, if_neg c, L_in_0_99, bd_some, if_neg c2]
              exact so2 e3
            · exact ⟨R1_of h1 rfl rfl rfl rfl rfl rfl rfl, ⟨RP_of h2.1 rfl rfl rfl rfl rfl rfl rfl rfl rfl, ⟨e0, e1, e2, rfl, e4, e5, e6, e7, g0, g1, g2, hv, g4, g5, g6, g7⟩, RP_of h2.2.2 rfl rfl rfl rfl rfl rfl rfl rfl rfl⟩, R3_of h3 rfl rfl rfl rfl, R4_of h4 rfl rfl, R5_of h5 rfl rfl rfl rfl rfl, R6_of h6 rfl rfl rfl rfl, R7_of h7 rfl rfl rfl rfl, R8_of h8 rfl rfl rfl rfl rfl rfl rfl, R9_of h9 rfl rfl rfl rfl rfl rfl⟩
    · by_cases c : inR b 0 2 = 0
      · exact ⟨-3, u, u, by unfold f_X11_tune; rw [X_pa2, bq_some]; simp only []; rw [L_isWithin, bd_some, if_pos c], by unfold f_X12_tune; rw [M_isPointer, bd_some, if_neg p, L_in_0_2, bd_some, if_pos c], hh⟩
      · by_cases c2 : inR d 0 99 = 0
        · exact ⟨-3, u, u, by unfold f_X11_tune; rw [X_pa2, bq_some]; simp only []; rw [L_isWithin, bd_some, if_neg c, L_isWithin, bd_some, if_pos c2], by unfold f_X12_tune; rw [M_isPointer, bd_some, if_neg p, L_in_0_2, bd_some, if_neg c, L_in_0_99, bd_some, if_pos c2], hh⟩
        · have hv : rg d 0 99 := inR_rg c2
          obtain ⟨e0, e1, e2, e3, e4, e5, e6, e7, g0, g1, g2, g3, g4, g5, g6, g7⟩ := h2.2.2
          rcases p3 c with rfl | rfl | rfl
          · refine ⟨u 12 1, (wr u 12 1 d), (wr (wr (wr (wr u 12 1 d) 45 2 d) 46 2 (u 46 2)) 47 2 (u 47 2)), ?_, ?_, ?_⟩
            · unfold f_X11_tune
              rw [X_pa2, bq_some]
              simp only []
              rw [L_isWithin, bd_some, if_neg c, L_isWithin, bd_some, if_neg c2]
              rfl
            · unfold f_X12_tune
              rw [M_isPointer, bd_some, if_neg p, L_in_0_2, bd_some, if_neg c, L_in_0_99, bd_some, if_neg c2]
              exact so2 e1
            · exact ⟨R1_of h1 rfl rfl rfl rfl rfl rfl rfl, ⟨RP_of h2.1 rfl rfl rfl rfl rfl rfl rfl rfl rfl, RP_of h2.2.1 rfl rfl rfl rfl rfl rfl rfl rfl rfl, ⟨e0, rfl, e2, e3, e4, e5, e6, e7, g0, hv, g2, g3, g4, g5, g6, g7⟩⟩, R3_of h3 rfl rfl rfl rfl, R4_of h4 rfl rfl, R5_of h5 rfl rfl rfl rfl rfl, R6_of h6 rfl rfl rfl rfl, R7_of h7 rfl rfl rfl rfl, R8_of h8 rfl rfl rfl rfl rfl rfl rfl, R9_of h9 rfl rfl rfl rfl rfl rfl⟩
          · refine ⟨u 12 2, (wr u 12 2 d), (wr (wr (wr (wr u 12 2 d) 45 2 (u 45 2)) 46 2 d) 47 2 (u 47 2)), ?_, ?_, ?_⟩
            · unfold f_X11_tune
              rw [X_pa2, bq_some]
              simp only []
              rw [L_isWithin, bd_some, if_neg c, L_isWithin, bd_some, if_neg c2]
              rfl
            · unfold f_X12_tune
              rw [M_isPointer, bd_some, if_neg p, L_in_0_2, bd_some, if_neg c, L_in_0_99, bd_some, if_neg c2]
              exact so2 e2
            · exact ⟨R1_of h1 rfl rfl rfl rfl rfl rfl rfl, ⟨RP_of h2.1 rfl rfl rfl rfl rfl rfl rfl rfl rfl, RP_of h2.2.1 rfl rfl rfl rfl rfl rfl rfl rfl rfl, ⟨e0, e1, rfl, e3, e4, e5, e6, e7, g0, g1, hv, g3, g4, g5, g6, g7⟩⟩, R3_of h3 rfl rfl rfl rfl, R4_of h4 rfl rfl, R5_of h5 rfl rfl rfl rfl rfl, R6_of h6 rfl rfl rfl rfl, R7_of h7 rfl rfl rfl rfl, R8_of h8 rfl rfl rfl rfl rfl rfl rfl, R9_of h9 rfl rfl rfl rfl rfl rfl⟩
          · refine ⟨u 12 3, (wr u 12 3 d), (wr (wr (wr (wr u 12 3 d) 45 2 (u 45 2)) 46 2 (u 46 2)) 47 2 d), ?_, ?_, ?_⟩
            · unfold f_X11_tune
              rw [X_pa2, bq_some]
              simp only []
              rw [L_isWithin, bd_some, if_neg c, L_isWithin, bd_some, if_neg c2]
              rfl
            · unfold f_X12_tune
              rw [M_isPointer, bd_some, if_neg p, L_in_0_2, bd_some, if_neg c, L_in_0_99, bd_some, if_neg c2]
              exact so2 e3
            · exact ⟨R1_of h1 rfl rfl rfl rfl rfl rfl rfl, ⟨RP_of h2.1 rfl rfl rfl rfl rfl rfl rfl rfl rfl, RP_of h2.2.1 rfl rfl rfl rfl rfl rfl rfl rfl rfl, ⟨e0, e1, e2, rfl, e4, e5, e6, e7, g0, g1, g2, hv, g4, g5, g6, g7⟩⟩, R3_of h3 rfl rfl rfl rfl, R4_of h4 rfl rfl, R5_of h5 rfl rfl rfl rfl rfl, R6_of h6 rfl rfl rfl rfl, R7_of h7 rfl rfl rfl rfl, R8_of h8 rfl rfl rfl rfl rfl rfl rfl, R9_of h9 rfl rfl rfl rfl rfl rfl⟩
