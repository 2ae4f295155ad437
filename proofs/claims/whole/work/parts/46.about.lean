/-! a needle in a ship turned about -/
theorem e8_lt (h : Int32) : e8 h < 8 := by
  unfold e8
  omega
theorem e8_X {h : Int32} (hh : rg h 0 35999) : (rnd (h + 2250) / 4500).toInt = e8 h := by
  have h1 := hh.1
  have h2 := hh.2
  have e0 : (h + 2250).toInt = h.toInt + 2250 := ti_add (by show _ ≤ h.toInt + (2250 : Int); omega) (by show h.toInt + (2250 : Int) ≤ _; omega)
  have e1 := rnd_ti (h + 2250)
  rw [e0] at e1
  have e2 : (rnd (h + 2250) / 4500).toInt = (rnd (h + 2250)).toInt / 4500 := by
    rw [ti_div (by decide)]
    exact Int.tdiv_eq_ediv_of_nonneg (rnd_rg _).1
  rw [e2, e1]
  unfold e8
  omega
theorem e8_M {h : Int32} (hh : rg h 0 35999) : ((h + 2250) / 4500 - (h + 2250) / 4500 / 8 * 8).toInt = e8 h := by
  have h1 := hh.1
  have h2 := hh.2
  have e0 : (h + 2250).toInt = h.toInt + 2250 := ti_add (by show _ ≤ h.toInt + (2250 : Int); omega) (by show h.toInt + (2250 : Int) ≤ _; omega)
  have e2 : ((h + 2250) / 4500).toInt = (h.toInt + 2250) / 4500 := by
    rw [ti_div (by decide), e0]
    exact Int.tdiv_eq_ediv_of_nonneg (by omega)
  have e3 := rem_c ((h + 2250) / 4500) 8 (by decide)
  rw [e3, e2]
  have e4 : ((h.toInt + 2250) / 4500).tdiv 8 = (h.toInt + 2250) / 4500 / 8 := Int.tdiv_eq_ediv_of_nonneg (by omega)
  show (h.toInt + 2250) / 4500 - ((h.toInt + 2250) / 4500).tdiv 8 * 8 = _
  rw [e4]
  unfold e8
  omega
def NI (u : S2) (k : Nat) (w : Int32) (i : Nat) (found : Int32) : Prop := (found = -1 ∧ ∀ j, j < i → e8 (u 57 j) ≠ k) ∨ ∃ f, f < i ∧ found = nI f ∧ e8 (u 57 f) = k ∧ ∀ j, j < i → e8 (u 57 j) = k → (if w = 0 then (u 58 f).toInt ≤ (u 58 j).toInt else (u 58 j).toInt ≤ (u 58 f).toInt)
theorem M_needle_l (u : S2) (v1 w : Int32) (k S : Nat) (hk : v1.toInt = k) (hS : (u 38 25).toInt = S) (hS2 : S ≤ 24) (ha : ∀ j, rg (u 57 j) 0 35999) : ∀ (d N i : Nat) (v3 v4 : Int32), v4 = nI i → NI u k w i v3 → i + d = S → d < N → ∃ found, NI u k w S found ∧ f_X12_needle_30 N v1 w v3 v4 u = f_X12_needle_142 found u := by
  intro d
  induction d with
  | zero =>
    intro N i v3 v4 h4 hI hd hN
    obtain ⟨n2, rfl⟩ : ∃ n2, N = n2 + 1 := ⟨N - 1, by omega⟩
    have h4i : v4.toInt = i := by rw [h4]; exact nI_toInt (by omega)
    have ei : i = S := by omega
    refine ⟨v3, ei ▸ hI, ?_⟩
    rw [f_X12_needle_30_e, if_pos (ti_le.mpr (by omega))]
  | succ d ih =>
    intro N i v3 v4 h4 hI hd hN
    obtain ⟨n2, rfl⟩ : ∃ n2, N = n2 + 1 := ⟨N - 1, by omega⟩
    have h4i : v4.toInt = i := by rw [h4]; exact nI_toInt (by omega)
    have i4 : inb v4 24 = true := inb_of (by omega) (by omega)
    have x4 : Int32.toNatClampNeg v4 = i := by
      show v4.toInt.toNat = i
      omega
    have c : ¬ u 38 25 ≤ v4 := fun z => by have := ti_le.mp z; omega
    have e4 : v4 + 1 = nI (i + 1) := by rw [h4]; exact nI_1 i
    have keep : ∀ g, NI u k w (i + 1) g → ∀ z, z = f_X12_needle_30 n2 v1 w g (v4 + 1) u → ∃ found, NI u k w S found ∧ z = f_X12_needle_142 found u := by
      intro g hg z hz
      obtain ⟨f, q1, q2⟩ := ih n2 (i + 1) g (v4 + 1) e4 hg (by omega) (by omega)
      exact ⟨f, q1, hz.trans q2⟩
    have em := e8_M (ha i)
    rw [f_X12_needle_30_e, if_neg c, ck_y i4, nm_is, x4, nm_is]
    by_cases q : (u 57 i + 2250) / 4500 - (u 57 i + 2250) / 4500 / 8 * 8 = v1
    · have ek : e8 (u 57 i) = k := by
        rw [q] at em
        omega
      rw [if_pos q]
      unfold f_X12_needle_66 f_X12_needle_112 f_X12_needle_116 f_X12_needle_117 f_X12_needle_134 f_X12_needle_135
      have take : (∀ j, j < i → e8 (u 57 j) = k → (if w = 0 then (u 58 i).toInt ≤ (u 58 j).toInt else (u 58 j).toInt ≤ (u 58 i).toInt)) → NI u k w (i + 1) v4 := by
        intro hj
        refine Or.inr ⟨i, by omega, h4, ek, ?_⟩
        intro j h1 h2
        by_cases e : j = i
        · rw [e]
          split <;> omega
        · exact hj j (by omega) h2
      rcases hI with ⟨f1, f2⟩ | ⟨f, f1, f2, f3, f4⟩
      · rw [if_pos f1, if_neg (by decide), if_neg (by decide), nm_is]
        exact keep v4 (take (fun j h1 h2 => absurd h2 (f2 j h1))) _ rfl
      · have hne : ¬ v3 = -1 := by rw [f2]; exact nI_ne _ (by omega)
        have h3i : v3.toInt = f := by rw [f2]; exact nI_toInt (by omega)
        have i3 : inb v3 24 = true := inb_of (by omega) (by omega)
        have x3 : Int32.toNatClampNeg v3 = f := by
          show v3.toInt.toNat = f
          omega
        have stay : (if w = 0 then (u 58 f).toInt ≤ (u 58 i).toInt else (u 58 i).toInt ≤ (u 58 f).toInt) → NI u k w (i + 1) v3 := by
          intro hj
          refine Or.inr ⟨f, by omega, f2, f3, ?_⟩
          intro j h1 h2
          by_cases e : j = i
          · rw [e]
            exact hj
          · exact f4 j (by omega) h2
        rw [if_neg hne]
        by_cases z : w = 0
        · rw [if_pos z, ck_y i4, nm_is, x4, ck_y i3, nm_is, x3]
          by_cases cc : u 58 f ≤ u 58 i
          · rw [if_pos cc, if_neg (by decide), if_pos rfl, nm_is]
            exact keep v3 (stay (by rw [if_pos z]; exact ti_le.mp cc)) _ rfl
          · have cc' : ¬ (u 58 f).toInt ≤ (u 58 i).toInt := fun y => cc (ti_le.mpr y)
            rw [if_neg cc, if_neg (by decide), if_neg (by decide), nm_is]
            refine keep v4 (take ?_) _ rfl
            intro j h1 h2
            have := f4 j h1 h2
            rw [if_pos z] at this ⊢
            omega
        · rw [if_neg z, ck_y i4, nm_is, x4, ck_y i3, nm_is, x3]
          by_cases cc : u 58 i ≤ u 58 f
          · rw [if_pos cc, if_neg (by decide), if_pos rfl, nm_is]
            exact keep v3 (stay (by rw [if_neg z]; exact ti_le.mp cc)) _ rfl
          · have cc' : ¬ (u 58 i).toInt ≤ (u 58 f).toInt := fun y => cc (ti_le.mpr y)
            rw [if_neg cc, if_neg (by decide), if_neg (by decide), nm_is]
            refine keep v4 (take ?_) _ rfl
            intro j h1 h2
            have := f4 j h1 h2
            rw [if_neg z] at this ⊢
            omega
    · have ek : e8 (u 57 i) ≠ k := fun e => q (ti_ext (by rw [em, hk, e]))
      rw [if_neg q]
      unfold f_X12_needle_66 f_X12_needle_112 f_X12_needle_116 f_X12_needle_117 f_X12_needle_134 f_X12_needle_135
      have stay : NI u k w (i + 1) v3 := by
        rcases hI with ⟨f1, f2⟩ | ⟨f, f1, f2, f3, f4⟩
        · refine Or.inl ⟨f1, ?_⟩
          intro j hj
          by_cases e : j = i
          · rw [e]
            exact ek
          · exact f2 j (by omega)
        · refine Or.inr ⟨f, by omega, f2, f3, ?_⟩
          intro j h1 h2
          by_cases e : j = i
          · rw [e] at h2
            exact absurd h2 ek
          · exact f4 j (by omega) h2
      rcases hI with ⟨f1, f2⟩ | ⟨f, f1, f2, f3, f4⟩
      · rw [if_pos f1, if_pos rfl, nm_is]
        exact keep v3 stay _ rfl
      · have hne : ¬ v3 = -1 := by rw [f2]; exact nI_ne _ (by omega)
        have h3i : v3.toInt = f := by rw [f2]; exact nI_toInt (by omega)
        have i3 : inb v3 24 = true := inb_of (by omega) (by omega)
        rw [if_neg hne]
        by_cases z : w = 0
        · rw [if_pos z, ck_y i4, nm_is, ck_y i3, nm_is]
          split
          · rw [if_pos rfl, nm_is]
            exact keep v3 stay _ rfl
          · rw [if_pos rfl, nm_is]
            exact keep v3 stay _ rfl
        · rw [if_neg z, ck_y i4, nm_is, ck_y i3, nm_is]
          split
          · rw [if_pos rfl, nm_is]
            exact keep v3 stay _ rfl
          · rw [if_pos rfl, nm_is]
            exact keep v3 stay _ rfl
theorem s_needle : St_2 f_X11_needle f_X12_needle Rel := by
  intro a b u h
  have hh := h
  obtain ⟨h1, h2, h3, h4, h5, h6, h7, h8, h9⟩ := h
  by_cases c : inR a 0 7 = 0
  · exact ⟨-3, u, u, by unfold f_X11_needle; rw [X_isEighth, bd_some, if_pos c], by unfold f_X12_needle; rw [L_in_0_7, bd_some, if_pos c], hh⟩
  by_cases c2 : inR b 0 1 = 0
  · exact ⟨-3, u, u, by unfold f_X11_needle; rw [X_isEighth, bd_some, if_neg c, L_isWithin, bd_some, if_pos c2], by unfold f_X12_needle; rw [L_in_0_7, bd_some, if_neg c, L_in_0_1, bd_some, if_pos c2], hh⟩
  have ra : rg a 0 7 := inR_rg c
  have a1 := ra.1
  have a2 := ra.2
  have ia : inb a 8 = true := inb_rg ra (by decide)
  obtain ⟨k, ek⟩ : ∃ k : Nat, a.toInt = k := ⟨a.toInt.toNat, by omega⟩
  have xa : Int32.toNatClampNeg a = k := by
    show a.toInt.toNat = k
    omega
  obtain ⟨q1, q2, q3, q4, q5⟩ := h8
  have s1 := q2.1
  have s2 := q2.2
  obtain ⟨S, eS⟩ : ∃ S : Nat, (u 28 3).toInt = S := ⟨(u 28 3).toInt.toNat, by omega⟩
  obtain ⟨found, f1, f2⟩ := M_needle_l u a b k S ek (by rw [q1]; exact eS) (by omega) q3 S FUEL 0 (-1) 0 rfl (Or.inl ⟨rfl, fun j hj => absurd hj (by omega)⟩) (by omega) (by show _ < 1000; omega)
  have M0 : f_X12_needle a b u = f_X12_needle_142 found u := by
    unfold f_X12_needle
    rw [L_in_0_7, bd_some, if_neg c, L_in_0_1, bd_some, if_neg c2, f2]
  rcases q5 k (by omega) with ⟨z1, z2⟩ | ⟨z1, z2, ⟨jl, l1, l2, l3⟩, ⟨jg, g1, g2, g3⟩, z5⟩
  · rcases f1 with ⟨f3, f4⟩ | ⟨f, f3, f4, f5, f6⟩
    · refine ⟨-1, u, u, ?_, ?_, hh⟩
      · unfold f_X11_needle
        rw [X_isEighth, bd_some, if_neg c, L_isWithin, bd_some, if_neg c2, ck_y ia, nm_is, xa, if_pos z1]
      · rw [M0]
        unfold f_X12_needle_142
        rw [if_pos f3]
    · exact absurd f5 (z2 f (by omega))
  · have hnz : ¬ u 29 k = 0 := fun e => by rw [e] at z1; exact absurd z1 (by decide)
    rcases f1 with ⟨f3, f4⟩ | ⟨f, f3, f4, f5, f6⟩
    · exact absurd l2 (f4 jl (by omega))
    · have hne : ¬ found = -1 := by rw [f4]; exact nI_ne _ (by omega)
      have hfi : found.toInt = f := by rw [f4]; exact nI_toInt (by omega)
      have i3 : inb found 24 = true := inb_of (by omega) (by omega)
      have x3 : Int32.toNatClampNeg found = f := by
        show found.toInt.toNat = f
        omega
      have M1 : f_X12_needle a b u = some (50000 + u 58 f, u) := by
        rw [M0]
        unfold f_X12_needle_142
        rw [if_neg hne, ck_y i3, nm_is, x3]
      by_cases z : b = 0
      · have e : u 58 f = u 30 k := by
          have t1 := f6 jl (by omega) l2
          have t2 := (z5 f (by omega) f5).1
          rw [if_pos z, l3] at t1
          exact ti_ext (by omega)
        refine ⟨u 30 k + 50000, u, u, ?_, ?_, hh⟩
        · unfold f_X11_needle
          rw [X_isEighth, bd_some, if_neg c, L_isWithin, bd_some, if_neg c2, ck_y ia, nm_is, xa, if_neg hnz, if_pos z, ck_y ia, nm_is]
        · rw [M1, e, Int32.add_comm]
      · have e : u 58 f = u 31 k := by
          have t1 := f6 jg (by omega) g2
          have t2 := (z5 f (by omega) f5).2
          rw [if_neg z, g3] at t1
          exact ti_ext (by omega)
        refine ⟨u 31 k + 50000, u, u, ?_, ?_, hh⟩
        · unfold f_X11_needle
          rw [X_isEighth, bd_some, if_neg c, L_isWithin, bd_some, if_neg c2, ck_y ia, nm_is, xa, if_neg hnz, if_neg z, ck_y ia, nm_is]
        · rw [M1, e, Int32.add_comm]
