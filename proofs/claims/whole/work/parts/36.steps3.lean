theorem s_lean : St_3 f_X11_lean f_X12_lean Rel := by
  intro a b d u h
  have hh := h
  obtain ⟨h1, h2, h3, h4, h5, h6, h7, h8, h9⟩ := h
  by_cases c1 : inR a 0 40 = 0
  · exact ⟨-3, u, u, by unfold f_X11_lean; rw [X_isSpeed, bd_some, if_pos c1], by unfold f_X12_lean; rw [M_isSpeed, bd_some, if_pos c1], hh⟩
  · by_cases c2 : inR b (-89) 89 = 0
    · exact ⟨-3, u, u, by unfold f_X11_lean; rw [X_isSpeed, bd_some, if_neg c1, X_isPlace, bd_some, if_pos c2], by unfold f_X12_lean; rw [M_isSpeed, bd_some, if_neg c1, M_isPlace, bd_some, if_pos c2], hh⟩
    · by_cases c3 : inR d 0 35999 = 0
      · exact ⟨-3, u, u, by unfold f_X11_lean; rw [X_isSpeed, bd_some, if_neg c1, X_isPlace, bd_some, if_neg c2, X_isHeading, bd_some, if_pos c3], by unfold f_X12_lean; rw [M_isSpeed, bd_some, if_neg c1, M_isPlace, bd_some, if_neg c2, M_isHeading, bd_some, if_pos c3], hh⟩
      · have hp : rg b (-89) 89 := inR_rg c2
        have hd : rg d 0 35999 := inR_rg c3
        refine ⟨lea a b d + 100000, u, u, ?_, ?_, hh⟩
        · unfold f_X11_lean
          rw [X_isSpeed, bd_some, if_neg c1, X_isPlace, bd_some, if_neg c2, X_isHeading, bd_some, if_neg c3, X_leanOf _ _ _ _ hp hd, bd_some]
        · unfold f_X12_lean
          rw [M_isSpeed, bd_some, if_neg c1, M_isPlace, bd_some, if_neg c2, M_isHeading, bd_some, if_neg c3, M_leanOf _ _ _ _ hp, bd_some]
          exact so2 (Int32.add_comm _ _)
theorem s_deviation : St_1 f_X11_deviation f_X12_deviation Rel := by
  intro a u h
  have hh := h
  obtain ⟨h1, h2, h3, h4, h5, h6, h7, h8, h9⟩ := h
  by_cases c : inR a 0 35999 = 0
  · exact ⟨-3, u, u, by unfold f_X11_deviation; rw [X_isHeading, bd_some, if_pos c], by unfold f_X12_deviation; rw [M_isHeading, bd_some, if_pos c], hh⟩
  · have hr : rg a 0 35999 := inR_rg c
    refine ⟨dvn (u 4) a + 50000, u, u, ?_, ?_, hh⟩
    · unfold f_X11_deviation
      rw [X_isHeading, bd_some, if_neg c, X_dev _ _ hr, bd_some]
    · unfold f_X12_deviation
      rw [M_isHeading, bd_some, if_neg c, M_dev _ _ hr, bd_some, h4.1]
      exact so2 (Int32.add_comm _ _)
theorem s_shows : St_1 f_X11_shows f_X12_shows Rel := by
  intro a u h
  have hh := h
  obtain ⟨h1, h2, h3, h4, h5, h6, h7, h8, h9⟩ := h
  by_cases p : inR a 0 2 = 0
  · exact ⟨-2, u, u, by unfold f_X11_shows; rw [X_pa a u p, bq_some], by unfold f_X12_shows; rw [M_isPointer, bd_some, if_pos p], hh⟩
  · rcases p3 p with rfl | rfl | rfl
    · obtain ⟨e0, e1, e2, e3, e4, e5, e6, e7, g0, g1, g2, g3, g4, g5, g6, g7⟩ := h2.1
      have hd : rg (u 5 4) 0 35999 := h1.2.2.2.2.2.2.2.2.2.2.1
      have hd0 : u 40 0 = u 5 4 := h1.2.2.2.2.1
      refine ⟨shw (u 10 0) (u 10 4) (u 10 6) (u 10 7) (u 5 4) (u 4), u, u, ?_, ?_, hh⟩
      · unfold f_X11_shows
        rw [X_pa0, bq_some]
        simp only []
        rw [X_shown 10 _ _ hd g7, bd_some]
      · unfold f_X12_shows
        rw [M_isPointer, bd_some, if_neg p, M_shown 0 0 0 0 0 u (by decide) (by decide) (by decide) (by decide) (by decide) (by decide) (by rw [hd0]; exact hd) (by rw [e7]; exact g7), bd_some, e0, e4, e6, e7, hd0, h4.1]
    · obtain ⟨e0, e1, e2, e3, e4, e5, e6, e7, g0, g1, g2, g3, g4, g5, g6, g7⟩ := h2.2.1
      have hd : rg (u 5 4) 0 35999 := h1.2.2.2.2.2.2.2.2.2.2.1
      have hd0 : u 40 0 = u 5 4 := h1.2.2.2.2.1
      refine ⟨shw (u 11 0) (u 11 4) (u 11 6) (u 11 7) (u 5 4) (u 4), u, u, ?_, ?_, hh⟩
      · unfold f_X11_shows
        rw [X_pa1, bq_some]
        simp only []
        rw [X_shown 11 _ _ hd g7, bd_some]
      · unfold f_X12_shows
        rw [M_isPointer, bd_some, if_neg p, M_shown 0 1 0 1 1 u (by decide) (by decide) (by decide) (by decide) (by decide) (by decide) (by rw [hd0]; exact hd) (by rw [e7]; exact g7), bd_some, e0, e4, e6, e7, hd0, h4.1]
    · obtain ⟨e0, e1, e2, e3, e4, e5, e6, e7, g0, g1, g2, g3, g4, g5, g6, g7⟩ := h2.2.2
      have hd : rg (u 5 4) 0 35999 := h1.2.2.2.2.2.2.2.2.2.2.1
      have hd0 : u 40 0 = u 5 4 := h1.2.2.2.2.1
      refine ⟨shw (u 12 0) (u 12 4) (u 12 6) (u 12 7) (u 5 4) (u 4), u, u, ?_, ?_, hh⟩
      · unfold f_X11_shows
        rw [X_pa2, bq_some]
        simp only []
        rw [X_shown 12 _ _ hd g7, bd_some]
      · unfold f_X12_shows
        rw [M_isPointer, bd_some, if_neg p, M_shown 0 2 0 2 2 u (by decide) (by decide) (by decide) (by decide) (by decide) (by decide) (by rw [hd0]; exact hd) (by rw [e7]; exact g7), bd_some, e0, e4, e6, e7, hd0, h4.1]
theorem L_in_m35_35 (v : Int32) (u : S2) : f_X12_in (Int32.toInt64 v) (-35 : Int64) (35 : Int64) u = some (inR v (-35) (35), u) := L_in v (-35) 35 u
theorem s_set : St_2 f_X11_set f_X12_set Rel := by
  intro a b u h
  have hh := h
  obtain ⟨h1, h2, h3, h4, h5, h6, h7, h8, h9⟩ := h
  by_cases z0 : a = 0
  · subst z0
    by_cases c : inR b (-89) 89 = 0
    · refine ⟨-3, u, u, ?_, ?_, hh⟩
      · show f_X11_set 0 b u = _
        unfold f_X11_set
        rw [if_pos rfl, X_isPlace, bd_some, if_pos c]
        rfl
      · show f_X12_set_71 0 b (Int32.toInt64 b) (-89) (89) u = _
        unfold f_X12_set_71
        rw [L_in_m89_89, bd_some, if_pos c]
    · have hv : rg b (-89) 89 := inR_rg c
      refine ⟨u 5 3 + 100, (wr u 5 3 b), (wr (wr u 5 3 b) 39 0 b), ?_, ?_, ?_⟩
      · show f_X11_set 0 b u = _
        unfold f_X11_set
        rw [if_pos rfl, X_isPlace, bd_some, if_neg c]
        rfl
      · show f_X12_set_71 0 b (Int32.toInt64 b) (-89) (89) (wr u 5 3 b) = _
        unfold f_X12_set_71
        rw [L_in_m89_89, bd_some, if_neg c]
        exact so2 (congrArg (· + 100) (show u 39 0 = u 5 3 from h1.1))
      · obtain ⟨a1, a2, a3, a4, a5, a6, a7, a8, a9, b1, b2, b3⟩ := h1
        exact ⟨⟨rfl, a2, a3, a4, a5, a6, hv, a8, a9, b1, b2, b3⟩, R2_of h2 rfl rfl rfl rfl rfl rfl rfl rfl rfl (fun _ _ => rfl) (fun _ _ => rfl), R3_of h3 rfl rfl rfl rfl, R4_of h4 rfl rfl, R5_of h5 rfl rfl rfl rfl rfl, R6_of h6 rfl rfl rfl rfl, R7_of h7 rfl rfl rfl rfl, R8_of h8 rfl rfl rfl rfl rfl rfl rfl, R9_of h9 rfl rfl rfl rfl rfl rfl⟩
  by_cases z1 : a = 1
  · subst z1
    by_cases c : inR b (0) 40 = 0
    · refine ⟨-3, u, u, ?_, ?_, hh⟩
      · show f_X11_set_30 1 b u = _
        unfold f_X11_set_30
        rw [if_pos rfl, X_isSpeed, bd_some, if_pos c]
        rfl
      · show f_X12_set_71 1 b (Int32.toInt64 b) (0) (40) u = _
        unfold f_X12_set_71
        rw [L_in_0_40, bd_some, if_pos c]
    · have hv : rg b (0) 40 := inR_rg c
      refine ⟨u 5 5 + 100, (wr u 5 5 b), (wr (wr u 5 5 b) 39 1 b), ?_, ?_, ?_⟩
      · show f_X11_set_30 1 b u = _
        unfold f_X11_set_30
        rw [if_pos rfl, X_isSpeed, bd_some, if_neg c]
        rfl
      · show f_X12_set_71 1 b (Int32.toInt64 b) (0) (40) (wr u 5 5 b) = _
        unfold f_X12_set_71
        rw [L_in_0_40, bd_some, if_neg c]
        exact so2 (congrArg (· + 100) (show u 39 1 = u 5 5 from h1.2.1))
      · obtain ⟨a1, a2, a3, a4, a5, a6, a7, a8, a9, b1, b2, b3⟩ := h1
        exact ⟨⟨a1, rfl, a3, a4, a5, a6, a7, hv, a9, b1, b2, b3⟩, R2_of h2 rfl rfl rfl rfl rfl rfl rfl rfl rfl (fun _ _ => rfl) (fun _ _ => rfl), R3_of h3 rfl rfl rfl rfl, R4_of h4 rfl rfl, R5_of h5 rfl rfl rfl rfl rfl, R6_of h6 rfl rfl rfl rfl, R7_of h7 rfl rfl rfl rfl, R8_of h8 rfl rfl rfl rfl rfl rfl rfl, R9_of h9 rfl rfl rfl rfl rfl rfl⟩
  by_cases z2 : a = 2
  · subst z2
    by_cases c : inR b (0) 99 = 0
    · refine ⟨-3, u, u, ?_, ?_, hh⟩
      · show f_X11_set_61 2 b u = _
        unfold f_X11_set_61
        rw [if_pos rfl, L_isWithin, bd_some, if_pos c]
        rfl
      · show f_X12_set_71 2 b (Int32.toInt64 b) (0) (99) u = _
        unfold f_X12_set_71
        rw [L_in_0_99, bd_some, if_pos c]
    · have hv : rg b (0) 99 := inR_rg c
      refine ⟨u 5 7 + 100, (wr u 5 7 b), (wr (wr u 5 7 b) 39 2 b), ?_, ?_, ?_⟩
      · show f_X11_set_61 2 b u = _
        unfold f_X11_set_61
        rw [if_pos rfl, L_isWithin, bd_some, if_neg c]
        rfl
      · show f_X12_set_71 2 b (Int32.toInt64 b) (0) (99) (wr u 5 7 b) = _
        unfold f_X12_set_71
        rw [L_in_0_99, bd_some, if_neg c]
        exact so2 (congrArg (· + 100) (show u 39 2 = u 5 7 from h1.2.2.1))
      · obtain ⟨a1, a2, a3, a4, a5, a6, a7, a8, a9, b1, b2, b3⟩ := h1
        exact ⟨⟨a1, a2, rfl, a4, a5, a6, a7, a8, hv, b1, b2, b3⟩, R2_of h2 rfl rfl rfl rfl rfl rfl rfl rfl rfl (fun _ _ => rfl) (fun _ _ => rfl), R3_of h3 rfl rfl rfl rfl, R4_of h4 rfl rfl, R5_of h5 rfl rfl rfl rfl rfl, R6_of h6 rfl rfl rfl rfl, R7_of h7 rfl rfl rfl rfl, R8_of h8 rfl rfl rfl rfl rfl rfl rfl, R9_of h9 rfl rfl rfl rfl rfl rfl⟩
  by_cases z3 : a = 3
  · subst z3
    by_cases c : inR b (-35) 35 = 0
    · refine ⟨-3, u, u, ?_, ?_, hh⟩
      · show f_X11_set_95 3 b u = _
        unfold f_X11_set_95
        rw [if_pos rfl, L_isWithin, bd_some, if_pos c]
        
      · show f_X12_set_71 3 b (Int32.toInt64 b) (-35) (35) u = _
        unfold f_X12_set_71
        rw [L_in_m35_35, bd_some, if_pos c]
    · have hv : rg b (-35) 35 := inR_rg c
      refine ⟨u 5 6 + 100, (wr u 5 6 b), (wr (wr u 5 6 b) 39 3 b), ?_, ?_, ?_⟩
      · show f_X11_set_95 3 b u = _
        unfold f_X11_set_95
        rw [if_pos rfl, L_isWithin, bd_some, if_neg c]
        rfl
      · show f_X12_set_71 3 b (Int32.toInt64 b) (-35) (35) (wr u 5 6 b) = _
        unfold f_X12_set_71
        rw [L_in_m35_35, bd_some, if_neg c]
        exact so2 (congrArg (· + 100) (show u 39 3 = u 5 6 from h1.2.2.2.1))
      · obtain ⟨a1, a2, a3, a4, a5, a6, a7, a8, a9, b1, b2, b3⟩ := h1
        exact ⟨⟨a1, a2, a3, rfl, a5, a6, a7, a8, a9, hv, b2, b3⟩, R2_of h2 rfl rfl rfl rfl rfl rfl rfl rfl rfl (fun _ _ => rfl) (fun _ _ => rfl), R3_of h3 rfl rfl rfl rfl, R4_of h4 rfl rfl, R5_of h5 rfl rfl rfl rfl rfl, R6_of h6 rfl rfl rfl rfl, R7_of h7 rfl rfl rfl rfl, R8_of h8 rfl rfl rfl rfl rfl rfl rfl, R9_of h9 rfl rfl rfl rfl rfl rfl⟩
  refine ⟨-3, u, u, ?_, ?_, hh⟩
  · unfold f_X11_set f_X11_set_30 f_X11_set_61 f_X11_set_95
    rw [if_neg z0, if_neg z1, if_neg z2, if_neg z3]
  · unfold f_X12_set
    rw [L_in_0_3, bd_some]
    have c : inR a 0 3 = 0 := by
      rw [inR_0]
      intro q
      obtain ⟨q1, q2⟩ := q
      have q3 : (0 : Int) ≤ a.toInt := ti_le.mp q1
      have q4 : a.toInt ≤ (3 : Int) := ti_le.mp q2
      have y0 : a.toInt ≠ 0 := fun e => z0 (ti_ext e)
      have y1 : a.toInt ≠ 1 := fun e => z1 (ti_ext e)
      have y2 : a.toInt ≠ 2 := fun e => z2 (ti_ext e)
      have y3 : a.toInt ≠ 3 := fun e => z3 (ti_ext e)
      omega
    rw [if_pos c]
theorem s_watch : St_2 f_X11_watch f_X12_watch Rel := by
  intro a b u h
  have hh := h
  obtain ⟨h1, h2, h3, h4, h5, h6, h7, h8, h9⟩ := h
  by_cases c : inR a 0 60 = 0
  · exact ⟨-3, u, u, by unfold f_X11_watch; rw [L_isWithin, bd_some, if_pos c], by unfold f_X12_watch; rw [L_in_0_60, bd_some, if_pos c], hh⟩
  · by_cases c2 : inR b (-18000) 17999 = 0
    · exact ⟨-3, u, u, by unfold f_X11_watch; rw [L_isWithin, bd_some, if_neg c, X_isOff, bd_some, if_pos c2], by unfold f_X12_watch; rw [L_in_0_60, bd_some, if_neg c, M_isOff, bd_some, if_pos c2], hh⟩
    · obtain ⟨q1, q2, q3, q4, q5, q6⟩ := h9
      have ra : rg a 0 60 := inR_rg c
      have rb : rg b (-18000) 17999 := inR_rg c2
      by_cases f : u 32 2 = 10
      · have hlt : ¬ u 32 2 < 10 := by rw [f]; decide
        refine ⟨-5, u, u, ?_, ?_, hh⟩
        · unfold f_X11_watch f_X10_add
          rw [L_isWithin, bd_some, if_neg c, X_isOff, bd_some, if_neg c2, if_neg hlt, bd_some]
        · unfold f_X12_watch
          rw [L_in_0_60, bd_some, if_neg c, M_isOff, bd_some, if_neg c2, if_pos (q3.trans f)]
      · have f10 : (u 32 2).toInt ≠ 10 := fun e => f (ti_ext e)
        have hlt : u 32 2 < 10 := ti_lt.mpr (by have := q4.2; show (u 32 2).toInt < 10; omega)
        have hin : inb (u 32 2) 10 = true := inb_of q4.1 (by have := q4.2; omega)
        obtain ⟨k, hk⟩ : ∃ k, k = Int32.toNatClampNeg (u 32 2) := ⟨_, rfl⟩
        obtain ⟨n, hn⟩ : ∃ n, n = u 32 2 + 1 := ⟨_, rfl⟩
        have hadd : n.toInt = (u 32 2).toInt + 1 := by
          rw [hn]
          exact ti_add (by have := q4.1; show _ ≤ (u 32 2).toInt + 1; omega) (by have := q4.2; show (u 32 2).toInt + 1 ≤ _; omega)
        refine ⟨n, wr (wr (wr u 33 k a) 34 k b) 32 2 n, wr (wr (wr (wr (wr (wr u 33 k a) 34 k b) 32 2 n) 59 k a) 60 k b) 38 28 n, ?_, ?_, ?_⟩
        · unfold f_X11_watch f_X10_add
          rw [L_isWithin, bd_some, if_neg c, X_isOff, bd_some, if_neg c2, if_pos hlt, ck_y hin, nm_is, ← hk]
          have e1 : (wr u 33 k a) 32 2 = u 32 2 := rfl
          rw [e1, ck_y hin, nm_is, ← hk]
          have e2 : (wr (wr u 33 k a) 34 k b) 32 2 = u 32 2 := rfl
          rw [e2, nm_is, ← hn, nm_is]
          rfl
        · unfold f_X12_watch
          rw [L_in_0_60, bd_some, if_neg c, M_isOff, bd_some, if_neg c2]
          have e0 : (wr (wr (wr u 33 k a) 34 k b) 32 2 n) 38 28 = u 32 2 := q3
          rw [e0, if_neg f, ck_y hin, nm_is, ← hk]
          have e1 : (wr (wr (wr (wr u 33 k a) 34 k b) 32 2 n) 59 k a) 38 28 = u 32 2 := q3
          rw [e1, ck_y hin, nm_is, ← hk]
          have e2 : (wr (wr (wr (wr (wr u 33 k a) 34 k b) 32 2 n) 59 k a) 60 k b) 38 28 = u 32 2 := q3
          rw [e2, nm_is, ← hn, nm_is]
          rfl
        · refine ⟨R1_of h1 rfl rfl rfl rfl rfl rfl rfl, R2_of h2 rfl rfl rfl rfl rfl rfl rfl rfl rfl (fun _ _ => rfl) (fun _ _ => rfl), R3_of h3 rfl rfl rfl rfl, R4_of h4 rfl rfl, R5_of h5 rfl rfl rfl rfl rfl, R6_of h6 rfl rfl rfl rfl, R7_of h7 rfl rfl rfl rfl, R8_of h8 rfl rfl rfl rfl rfl rfl rfl, ⟨?_, ?_, rfl, ⟨?_, ?_⟩, ?_, ?_⟩⟩
          · show upd (u 59) k a = upd (u 33) k a
            rw [q1]
          · show upd (u 60) k b = upd (u 34) k b
            rw [q2]
          · show 0 ≤ n.toInt
            have := q4.1
            omega
          · show n.toInt ≤ 10
            have := q4.2
            omega
          · intro j
            show rg (upd (u 33) k a j) 0 60
            unfold upd
            split
            · exact ra
            · exact q5 j
          · intro j
            show rg (upd (u 34) k b j) (-18000) 17999
            unfold upd
            split
            · exact rb
            · exact q6 j
theorem s_look : St_3 f_X11_look f_X12_look Rel := by
  intro a b d u h
  have hh := h
  obtain ⟨h1, h2, h3, h4, h5, h6, h7, h8, h9⟩ := h
  by_cases c1 : inR a 0 35999 = 0
  · exact ⟨-3, u, u, by unfold f_X11_look; rw [X_isHeading, bd_some, if_pos c1], by unfold f_X12_look; rw [M_isHeading, bd_some, if_pos c1], hh⟩
  by_cases c2 : inR b 0 35999 = 0
  · exact ⟨-3, u, u, by unfold f_X11_look; rw [X_isHeading, bd_some, if_neg c1, X_isHeading, bd_some, if_pos c2], by unfold f_X12_look; rw [M_isHeading, bd_some, if_neg c1, M_isHeading, bd_some, if_pos c2], hh⟩
  by_cases c3 : inR d 0 35999 = 0
  · exact ⟨-3, u, u, by unfold f_X11_look; rw [X_isHeading, bd_some, if_neg c1, X_isHeading, bd_some, if_neg c2, X_isHeading, bd_some, if_pos c3], by unfold f_X12_look; rw [M_isHeading, bd_some, if_neg c1, M_isHeading, bd_some, if_neg c2, M_isHeading, bd_some, if_pos c3], hh⟩
  have ra : rg a 0 35999 := inR_rg c1
  have rb : rg b 0 35999 := inR_rg c2
  have rd : rg d 0 35999 := inR_rg c3
  obtain ⟨q1, q2, q3, q4⟩ := h7
  by_cases f : u 26 1 = 16
  · have hlt : ¬ u 26 1 < 16 := by rw [f]; decide
    refine ⟨-5, u, u, ?_, ?_, hh⟩
    · unfold f_X11_look f_X2_add
      rw [X_isHeading, bd_some, if_neg c1, X_isHeading, bd_some, if_neg c2, X_isHeading, bd_some, if_neg c3, if_neg hlt, bd_some]
    · unfold f_X12_look
      rw [M_isHeading, bd_some, if_neg c1, M_isHeading, bd_some, if_neg c2, M_isHeading, bd_some, if_neg c3, if_pos (q2.trans f)]
  have f16 : (u 26 1).toInt ≠ 16 := fun e => f (ti_ext e)
  have g1 := q3.1
  have g2 := q3.2
  have hlt : u 26 1 < 16 := ti_lt.mpr (by show (u 26 1).toInt < 16; omega)
  have em : (3 * u 26 1).toInt = 3 * (u 26 1).toInt := ti_mul (by show _ ≤ (3 : Int) * _; omega) (by show (3 : Int) * _ ≤ _; omega)
  have em1 : (3 * u 26 1 + 1).toInt = 3 * (u 26 1).toInt + 1 := by
    rw [ti_add (by rw [em]; show _ ≤ _ + (1 : Int); omega) (by rw [em]; show _ + (1 : Int) ≤ _; omega), em]
    rfl
  have em2 : (3 * u 26 1 + 2).toInt = 3 * (u 26 1).toInt + 2 := by
    rw [ti_add (by rw [em]; show _ ≤ _ + (2 : Int); omega) (by rw [em]; show _ + (2 : Int) ≤ _; omega), em]
    rfl
  have i0 : inb (3 * u 26 1) 48 = true := inb_of (by omega) (by omega)
  have i1 : inb (3 * u 26 1 + 1) 48 = true := inb_of (by omega) (by omega)
  have i2 : inb (3 * u 26 1 + 2) 48 = true := inb_of (by omega) (by omega)
  have ec : u 26 1 * 3 = 3 * u 26 1 := Int32.mul_comm _ _
  obtain ⟨k0, hk0⟩ : ∃ k, k = Int32.toNatClampNeg (3 * u 26 1) := ⟨_, rfl⟩
  obtain ⟨k1, hk1⟩ : ∃ k, k = Int32.toNatClampNeg (3 * u 26 1 + 1) := ⟨_, rfl⟩
  obtain ⟨k2, hk2⟩ : ∃ k, k = Int32.toNatClampNeg (3 * u 26 1 + 2) := ⟨_, rfl⟩
  obtain ⟨n, hn⟩ : ∃ n, n = u 26 1 + 1 := ⟨_, rfl⟩
  have hadd : n.toInt = (u 26 1).toInt + 1 := by
    rw [hn]
    exact ti_add (by show _ ≤ (u 26 1).toInt + 1; omega) (by show (u 26 1).toInt + 1 ≤ _; omega)
  refine ⟨n, wr (wr (wr (wr u 27 k0 a) 27 k1 b) 27 k2 d) 26 1 n, wr (wr (wr (wr (wr (wr (wr (wr u 27 k0 a) 27 k1 b) 27 k2 d) 26 1 n) 56 k0 a) 56 k1 b) 56 k2 d) 38 22 n, ?_, ?_, ?_⟩
  · unfold f_X11_look f_X2_add
    rw [X_isHeading, bd_some, if_neg c1, X_isHeading, bd_some, if_neg c2, X_isHeading, bd_some, if_neg c3, if_pos hlt, ec]
    simp only [nm_is]
    rw [ck_y i0, ck_y i1, ck_y i2, ← hk0, ← hk1, ← hk2]
    have e2 : (wr (wr (wr u 27 k0 a) 27 k1 b) 27 k2 d) 26 1 = u 26 1 := rfl
    rw [e2, ← hn]
    rfl
  · unfold f_X12_look
    rw [M_isHeading, bd_some, if_neg c1, M_isHeading, bd_some, if_neg c2, M_isHeading, bd_some, if_neg c3]
    have e0 : (wr (wr (wr (wr u 27 k0 a) 27 k1 b) 27 k2 d) 26 1 n) 38 22 = u 26 1 := q2
    rw [e0, if_neg f, ck_y i0, nm_is, ← hk0]
    have e1 : (wr (wr (wr (wr (wr u 27 k0 a) 27 k1 b) 27 k2 d) 26 1 n) 56 k0 a) 38 22 = u 26 1 := q2
    rw [e1, ck_y i1, nm_is, ← hk1]
    have e2 : (wr (wr (wr (wr (wr (wr u 27 k0 a) 27 k1 b) 27 k2 d) 26 1 n) 56 k0 a) 56 k1 b) 38 22 = u 26 1 := q2
    rw [e2, ck_y i2, nm_is, ← hk2]
    have e3 : (wr (wr (wr (wr (wr (wr (wr u 27 k0 a) 27 k1 b) 27 k2 d) 26 1 n) 56 k0 a) 56 k1 b) 56 k2 d) 38 22 = u 26 1 := q2
    rw [e3, nm_is, ← hn, nm_is]
    rfl
  · refine ⟨R1_of h1 rfl rfl rfl rfl rfl rfl rfl, R2_of h2 rfl rfl rfl rfl rfl rfl rfl rfl rfl (fun _ _ => rfl) (fun _ _ => rfl), R3_of h3 rfl rfl rfl rfl, R4_of h4 rfl rfl, R5_of h5 rfl rfl rfl rfl rfl, R6_of h6 rfl rfl rfl rfl, ⟨?_, rfl, ⟨?_, ?_⟩, ?_⟩, R8_of h8 rfl rfl rfl rfl rfl rfl rfl, R9_of h9 rfl rfl rfl rfl rfl rfl⟩
    · show upd (upd (upd (u 56) k0 a) k1 b) k2 d = upd (upd (upd (u 27) k0 a) k1 b) k2 d
      rw [q1]
    · show 0 ≤ n.toInt
      omega
    · show n.toInt ≤ 16
      omega
    · intro j
      show rg (upd (upd (upd (u 27) k0 a) k1 b) k2 d j) 0 35999
      unfold upd
      split
      · exact rd
      · split
        · exact rb
        · split
          · exact ra
          · exact q4 j
