/-! the class's swing to its end; what the reference reads off its path -/
theorem X_let_l (pull damp hold dm o : Int32) (ho : rg o (-18000) 17999) : ∀ (d N i : Nat) (v5 : Int32) (u : S2), v5 = nI (i + 1) → u 16 4 = (pth pull damp hold dm o i).1 → u 16 5 = (pth pull damp hold dm o i).2 → u 16 1 = pull → u 16 2 = damp → u 24 1 = crS o (fun j => (pth pull damp hold dm o j).1) i → u 24 2 = beS o (fun j => (pth pull damp hold dm o j).1) i → u 24 3 = reS (fun j => (pth pull damp hold dm o j).1) i → i + d = 600 → d < N → ∃ u', f_X8_letSwing_39 N hold o dm v5 u = some u' ∧ u' 24 1 = crS o (fun j => (pth pull damp hold dm o j).1) 600 ∧ u' 24 2 = beS o (fun j => (pth pull damp hold dm o j).1) 600 ∧ u' 24 3 = reS (fun j => (pth pull damp hold dm o j).1) 600 ∧ ∀ c, c ≠ 16 → c ≠ 24 → u' c = u c := by
  intro d
  induction d with
  | zero =>
    intro N i v5 u h5 ho4 ho5 h1 h2 c1 c2 c3 hd hN
    obtain ⟨n2, rfl⟩ : ∃ n2, N = n2 + 1 := ⟨N - 1, by omega⟩
    have ei : i = 600 := by omega
    subst ei
    refine ⟨u, ?_, c1, c2, c3, fun _ _ _ => rfl⟩
    rw [f_X8_letSwing_39_e, if_pos (by rw [h5]; decide)]
  | succ d ih =>
    intro N i v5 u h5 ho4 ho5 h1 h2 c1 c2 c3 hd hN
    obtain ⟨n2, rfl⟩ : ∃ n2, N = n2 + 1 := ⟨N - 1, by omega⟩
    have hv : v5.toInt = ((i + 1 : Nat) : Int) := by rw [h5]; exact nI_toInt (by omega)
    have c : ¬ 600 < v5 := fun z => by have : (600 : Int) < v5.toInt := ti_lt.mp z; omega
    have hne : ¬ v5 = -1 := by rw [h5]; exact nI_ne _ (by omega)
    have ho' : rg (u 16 4) (-18000) 17999 := by rw [ho4]; exact pth_rg ho _ _ _ _ _
    obtain ⟨P, eP⟩ : ∃ P : Nat → Int32, P = fun j => (pth pull damp hold dm o j).1 := ⟨_, rfl⟩
    rw [← eP] at ih c1 c2 c3 ⊢
    rw [f_X8_letSwing_39_e, if_neg c, X_sway 16 _ _ _ _ _ ho', bv_some, swR_0]
    obtain ⟨rr, er⟩ : ∃ rr, rr = swS (u 16 5) (u 16 1) (u 16 2) hold (u 16 4) dm := ⟨_, rfl⟩
    obtain ⟨oo, eo⟩ : ∃ oo, oo = wrp (u 16 4 + rr) := ⟨_, rfl⟩
    rw [← er, ← eo]
    have er2 : rr = (pth pull damp hold dm o (i + 1)).2 := by
      rw [er, ho4, ho5, h1, h2]
      rfl
    have eo2 : oo = (pth pull damp hold dm o (i + 1)).1 := by
      rw [eo, er, ho4, ho5, h1, h2]
      rfl
    have eo3 : oo = P (i + 1) := by rw [eo2, eP]
    have a4 : (pst u 16 oo rr) 16 4 = oo := rfl
    have a5 : (pst u 16 oo rr) 16 5 = rr := rfl
    rw [X_rest v5 oo _ a4, bv_some]
    have b3 : (pst u 16 oo rr) 24 3 = u 24 3 := rfl
    rw [b3]
    obtain ⟨re, ere⟩ : ∃ re, re = (if siz oo ≤ 100 then (if u 24 3 = -1 then v5 else u 24 3) else -1) := ⟨_, rfl⟩
    rw [← ere]
    have er3 : re = reS P (i + 1) := by
      rw [ere, c3, eo3, h5]
      rfl
    obtain ⟨w, x1, x2, x3, x4, x5⟩ := X_cross v5 o oo (wr (pst u 16 oo rr) 24 3 re) a4 hne
    have y1 : (wr (pst u 16 oo rr) 24 3 re) 24 1 = u 24 1 := rfl
    have y2 : (wr (pst u 16 oo rr) 24 3 re) 24 2 = u 24 2 := rfl
    have y3 : (wr (pst u 16 oo rr) 24 3 re) 24 3 = re := rfl
    rw [y1, c1, eo3, h5] at x2
    rw [y1, y2, c1, c2, eo3] at x3
    rw [y3, er3] at x4
    rw [x1, bv_some, nm_is]
    have e5 : v5 + 1 = nI (i + 1 + 1) := by rw [h5]; exact nI_1 (i + 1)
    have w16 : w 16 = (pst u 16 oo rr) 16 := x5 16 (by decide)
    obtain ⟨u', k1, k2, k3, k4, k5⟩ := ih n2 (i + 1) (v5 + 1) w e5 (by rw [w16, a4]; exact eo2) (by rw [w16, a5]; exact er2) (by rw [w16]; exact h1) (by rw [w16]; exact h2) x2 x3 x4 (by omega) (by omega)
    refine ⟨u', k1, k2, k3, k4, fun cc p q => ?_⟩
    rw [k5 cc p q, x5 cc q, wr_c q]
    exact up_c p
theorem X_let (kc : Nat) (hold o dm : Int32) (u : S2) (hk : kc ≠ 16) (ho : rg o (-9000) 9000) : ∃ u', f_X8_letSwing kc hold o dm u = some u' ∧ u' 24 1 = crS o (fun j => (pth (u kc 1) (u kc 2) hold dm o j).1) 600 ∧ u' 24 2 = beS o (fun j => (pth (u kc 1) (u kc 2) hold dm o j).1) 600 ∧ u' 24 3 = reS (fun j => (pth (u kc 1) (u kc 2) hold dm o j).1) 600 ∧ ∀ c, c ≠ 16 → c ≠ 24 → u' c = u c := by
  obtain ⟨v, c1, c2, c3⟩ := X_copy 16 kc u hk
  have ho' : rg o (-18000) 17999 := ⟨by have := ho.1; omega, by have := ho.2; omega⟩
  obtain ⟨w, ew⟩ : ∃ w, w = wr (wr (wr (wr (wr v 16 4 o) 16 5 0) 24 1 (-1)) 24 2 0) 24 3 (-1) := ⟨_, rfl⟩
  have w4 : w 16 4 = o := by rw [ew]; rfl
  have w5 : w 16 5 = 0 := by rw [ew]; rfl
  have w1 : w 16 1 = u kc 1 := by rw [ew]; exact c2 1 (by decide)
  have w2 : w 16 2 = u kc 2 := by rw [ew]; exact c2 2 (by decide)
  have w6 : w 24 1 = -1 := by rw [ew]; rfl
  have w7 : w 24 2 = 0 := by rw [ew]; rfl
  have w8 : w 24 3 = -1 := by rw [ew]; rfl
  obtain ⟨re, ere⟩ : ∃ re, re = (if siz o ≤ 100 then (if w 24 3 = -1 then 0 else w 24 3) else (-1 : Int32)) := ⟨_, rfl⟩
  have er0 : re = reS (fun j => (pth (u kc 1) (u kc 2) hold dm o j).1) 0 := by
    rw [ere, w8, if_pos rfl]
    rfl
  obtain ⟨u', k1, k2, k3, k4, k5⟩ := X_let_l (u kc 1) (u kc 2) hold dm o ho' 600 FUEL 0 1 (wr w 24 3 re) rfl w4 w5 w1 w2 w6 w7 er0 rfl (by decide)
  refine ⟨u', ?_, k2, k3, k4, ?_⟩
  · unfold f_X8_letSwing f_X4_layAt
    rw [c1, bv_some, nm_is, nm_is, bv_some, nm_is, nm_is, nm_is, ← ew, X_rest 0 o w w4, ← ere, bv_some]
    exact k1
  · intro c p q
    rw [k5 c p q, wr_c q, ew, wr_c q, wr_c q, wr_c q, wr_c p, wr_c p, c3 c p]
theorem re_spec (p : Nat → Int32) : ∀ T, T < 2147483648 → (reS p T = -1 ∧ ¬ siz (p T) ≤ 100) ∨ ∃ r, r ≤ T ∧ reS p T = nI r ∧ (∀ j, r ≤ j → j ≤ T → siz (p j) ≤ 100) ∧ (r = 0 ∨ ¬ siz (p (r - 1)) ≤ 100) := by
  intro T
  induction T with
  | zero =>
    intro _
    by_cases c : siz (p 0) ≤ 100
    · refine Or.inr ⟨0, Nat.le_refl _, ?_, ?_, Or.inl rfl⟩
      · show (if siz (p 0) ≤ 100 then (0 : Int32) else -1) = _
        rw [if_pos c]
        rfl
      · intro j _ hj
        rw [show j = 0 by omega]
        exact c
    · refine Or.inl ⟨?_, c⟩
      show (if siz (p 0) ≤ 100 then (0 : Int32) else -1) = _
      rw [if_neg c]
  | succ T ih =>
    intro hT
    have e : reS p (T + 1) = if siz (p (T + 1)) ≤ 100 then (if reS p T = -1 then nI (T + 1) else reS p T) else -1 := rfl
    by_cases c : siz (p (T + 1)) ≤ 100
    · rcases ih (by omega) with ⟨a, b⟩ | ⟨r, h1, h2, h3, h4⟩
      · refine Or.inr ⟨T + 1, Nat.le_refl _, by rw [e, if_pos c, if_pos a], ?_, Or.inr b⟩
        intro j h1 h2
        rw [show j = T + 1 by omega]
        exact c
      · refine Or.inr ⟨r, by omega, by rw [e, if_pos c, if_neg (by rw [h2]; exact nI_ne _ (by omega))]; exact h2, ?_, h4⟩
        intro j g1 g2
        by_cases q : j = T + 1
        · rw [q]
          exact c
        · exact h3 j g1 (by omega)
    · exact Or.inl ⟨by rw [e, if_neg c], c⟩
theorem M_rests_l (p : Nat → Int32) (u : S2) (hp : ∀ j, j ≤ 600 → u 61 j = p j) (r : Nat) (h3 : ∀ j, r ≤ j → j ≤ 600 → siz (p j) ≤ 100) (h4 : r = 0 ∨ ¬ siz (p (r - 1)) ≤ 100) : ∀ (d N t : Nat) (v1 : Int32), v1 = nI t → t ≤ 600 → r + d = t → d < N → f_X12_rests_20 N v1 u = some (nI r, u) := by
  intro d
  induction d with
  | zero =>
    intro N t v1 hv ht hd hN
    obtain ⟨n2, rfl⟩ : ∃ n2, N = n2 + 1 := ⟨N - 1, by omega⟩
    have et : t = r := by omega
    subst et
    have hvi : v1.toInt = t := by rw [hv]; exact nI_toInt (by omega)
    rw [f_X12_rests_20_e]
    by_cases z : t = 0
    · rw [if_pos (ti_le.mpr (by show _ ≤ (0 : Int); omega)), hv]
    · have em : (v1 - 1).toInt = (t : Int) - 1 := ti_sub (by show _ ≤ v1.toInt - (1 : Int); omega) (by show v1.toInt - (1 : Int) ≤ _; omega) |>.trans (by rw [hvi]; rfl)
      have i1 : inb (v1 - 1) 601 = true := inb_of (by omega) (by omega)
      have x1 : Int32.toNatClampNeg (v1 - 1) = t - 1 := by
        show (v1 - 1).toInt.toNat = t - 1
        omega
      have hb : ¬ siz (p (t - 1)) ≤ 100 := h4.elim (fun q => absurd q z) id
      rw [if_neg (fun q => by have : v1.toInt ≤ 0 := ti_le.mp q; omega), ck_y i1, nm_is, x1, hp (t - 1) (by omega), M_size, bd_some, if_pos (Int32.not_le.mp hb), hv]
  | succ d ih =>
    intro N t v1 hv ht hd hN
    obtain ⟨n2, rfl⟩ : ∃ n2, N = n2 + 1 := ⟨N - 1, by omega⟩
    have hvi : v1.toInt = t := by rw [hv]; exact nI_toInt (by omega)
    have em : (v1 - 1).toInt = (t : Int) - 1 := ti_sub (by show _ ≤ v1.toInt - (1 : Int); omega) (by show v1.toInt - (1 : Int) ≤ _; omega) |>.trans (by rw [hvi]; rfl)
    have i1 : inb (v1 - 1) 601 = true := inb_of (by omega) (by omega)
    have x1 : Int32.toNatClampNeg (v1 - 1) = t - 1 := by
      show (v1 - 1).toInt.toNat = t - 1
      omega
    have hb : siz (p (t - 1)) ≤ 100 := h3 (t - 1) (by omega) (by omega)
    have e1 : v1 + (-1) = nI (t - 1) := by
      obtain ⟨s, rfl⟩ : ∃ s, t = s + 1 := ⟨t - 1, by omega⟩
      rw [hv, pk_m1]
      rfl
    rw [f_X12_rests_20_e, if_neg (fun q => by have : v1.toInt ≤ 0 := ti_le.mp q; omega), ck_y i1, nm_is, x1, hp (t - 1) (by omega), M_size, bd_some, if_neg (Int32.not_lt.mpr hb), nm_is]
    exact ih n2 (t - 1) (v1 + (-1)) e1 (by omega) (by omega) (by omega)
theorem M_rests (p : Nat → Int32) (u : S2) (hp : ∀ j, j ≤ 600 → u 61 j = p j) : f_X12_rests u = some (reS p 600, u) := by
  unfold f_X12_rests
  rw [nm_is, hp 600 (Nat.le_refl _), M_size, bd_some]
  rcases re_spec p 600 (by decide) with ⟨a, b⟩ | ⟨r, h1, h2, h3, h4⟩
  · rw [if_neg b, a]
  · rw [if_pos (h3 600 h1 (Nat.le_refl _)), h2]
    exact M_rests_l p u hp r h3 h4 (600 - r) FUEL 600 600 (by decide) (Nat.le_refl _) (by omega) (by show _ < 1000; omega)
theorem M_cross_l (p : Nat → Int32) (u : S2) (o : Int32) (ho : ¬ o = 0) (hp : ∀ j, j ≤ 600 → u 61 j = p j) (h0 : p 0 = o) : ∀ (d N t : Nat) (v1 : Int32), v1 = nI (t + 1) → t + d = 600 → crS o p t = -1 → d < N → f_X12_crosses_2 N v1 u = some (crS o p 600, u) := by
  intro d
  induction d with
  | zero =>
    intro N t v1 hv hd hc hN
    obtain ⟨n2, rfl⟩ : ∃ n2, N = n2 + 1 := ⟨N - 1, by omega⟩
    have et : t = 600 := by omega
    subst et
    rw [f_X12_crosses_2_e, if_pos (by rw [hv]; decide), hc]
  | succ d ih =>
    intro N t v1 hv hd hc hN
    obtain ⟨n2, rfl⟩ : ∃ n2, N = n2 + 1 := ⟨N - 1, by omega⟩
    have hvi : v1.toInt = ((t + 1 : Nat) : Int) := by rw [hv]; exact nI_toInt (by omega)
    have c : ¬ 600 < v1 := fun z => by have : (600 : Int) < v1.toInt := ti_lt.mp z; omega
    have i1 : inb v1 601 = true := inb_of (by omega) (by omega)
    have x1 : Int32.toNatClampNeg v1 = t + 1 := by
      show v1.toInt.toNat = t + 1
      omega
    have hpt := hp (t + 1) (by omega)
    have hp0 : u 61 0 = o := (hp 0 (by omega)).trans h0
    have one : ∀ e, e < 2147483648 → crS o p (e + 1) ≠ -1 → ∀ m, crS o p (e + 1 + m) = crS o p (e + 1) := by
      intro e he hne m
      induction m with
      | zero => rfl
      | succ m ihm =>
        show (if crS o p (e + 1 + m) = -1 then _ else crS o p (e + 1 + m)) = _
        rw [ihm, if_neg hne]
    have eS : crS o p (t + 1) = if cX o (p (t + 1)) then nI (t + 1) else -1 := by
      show (if crS o p t = -1 then (if cX o (p (t + 1)) then nI (t + 1) else -1) else crS o p t) = _
      rw [if_pos hc]
    have stop : cX o (p (t + 1)) = true → crS o p 600 = v1 := by
      intro hx
      have e2 : crS o p (t + 1) = nI (t + 1) := by rw [eS, if_pos hx]
      have := one t (by omega) (by rw [e2]; exact nI_ne _ (by omega)) d
      rw [show t + 1 + d = 600 by omega] at this
      rw [this, e2, hv]
    have go : cX o (p (t + 1)) = false → f_X12_crosses_2 n2 (v1 + 1) u = some (crS o p 600, u) := by
      intro hx
      exact ih n2 (t + 1) (v1 + 1) (by rw [hv]; exact nI_1 (t + 1)) (by omega) (by rw [eS, hx]; rfl) (by omega)
    have one0 : o.toInt ≠ 0 := fun e => ho (ti_ext e)
    have z0 : (0 : Int32).toInt = 0 := by decide
    rw [f_X12_crosses_2_e, if_neg c, ck_y i1, nm_is, x1, hpt]
    by_cases q0 : p (t + 1) = 0
    · rw [if_pos q0, stop (by unfold cX; rw [q0]; split <;> rfl)]
    · have q0' : (p (t + 1)).toInt ≠ 0 := fun e => q0 (ti_ext e)
      rw [if_neg q0, ck_y i1, nm_is]
      unfold f_X12_crosses_32 f_X12_crosses_46
      rw [nm_is, hp0]
      by_cases s1 : 0 ≤ p (t + 1)
      · have s1' : (0 : Int) ≤ (p (t + 1)).toInt := ti_le.mp s1
        rw [if_pos s1]
        by_cases s2 : 0 ≤ o
        · have s2' : (0 : Int) ≤ o.toInt := ti_le.mp s2
          rw [if_pos s2, if_pos rfl, nm_is]
          refine go ?_
          unfold cX
          rw [if_neg (fun z => by have : o.toInt ≤ 0 := ti_le.mp z; omega), decide_eq_true (ti_lt.mpr (by rw [z0]; omega))]
          rfl
        · have s2' : ¬ (0 : Int) ≤ o.toInt := fun z => s2 (ti_le.mpr z)
          rw [if_neg s2, if_neg (by decide), stop ?_]
          unfold cX
          rw [if_pos (ti_le.mpr (by rw [z0]; omega)), decide_eq_false (fun z => by have : (p (t + 1)).toInt < 0 := ti_lt.mp z; omega)]
          rfl
      · have s1' : ¬ (0 : Int) ≤ (p (t + 1)).toInt := fun z => s1 (ti_le.mpr z)
        rw [if_neg s1, nm_is]
        by_cases s2 : 0 ≤ o
        · have s2' : (0 : Int) ≤ o.toInt := ti_le.mp s2
          rw [if_pos s2, if_neg (by decide), stop ?_]
          unfold cX
          rw [if_neg (fun z => by have : o.toInt ≤ 0 := ti_le.mp z; omega), decide_eq_false (fun z => by have : (0 : Int) < (p (t + 1)).toInt := ti_lt.mp z; omega)]
          rfl
        · have s2' : ¬ (0 : Int) ≤ o.toInt := fun z => s2 (ti_le.mpr z)
          rw [if_neg s2, if_pos rfl, nm_is]
          refine go ?_
          unfold cX
          rw [if_pos (ti_le.mpr (by rw [z0]; omega)), decide_eq_true (ti_lt.mpr (by rw [z0]; omega))]
          rfl
