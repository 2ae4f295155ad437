/-! swing, noUse -/
theorem M_crosses (p : Nat → Int32) (u : S2) (o : Int32) (ho : ¬ o = 0) (hp : ∀ j, j ≤ 600 → u 61 j = p j) (h0 : p 0 = o) : f_X12_crosses u = some (crS o p 600, u) := by
  unfold f_X12_crosses
  exact M_cross_l p u o ho hp h0 600 FUEL 0 1 rfl rfl rfl (by decide)
theorem cr_spec (o : Int32) (p : Nat → Int32) : ∀ T, T < 2147483648 → crS o p T = -1 ∨ ∃ c, 1 ≤ c ∧ c ≤ T ∧ crS o p T = nI c ∧ (∀ j, c ≤ j → j ≤ T → crS o p j = nI c) ∧ beS o p c = p c := by
  intro T
  induction T with
  | zero => intro _; exact Or.inl rfl
  | succ T ih =>
    intro hT
    have e : crS o p (T + 1) = if crS o p T = -1 then (if cX o (p (T + 1)) then nI (T + 1) else -1) else crS o p T := rfl
    rcases ih (by omega) with a | ⟨c, h1, h2, h3, h4, h5⟩
    · by_cases x : cX o (p (T + 1)) = true
      · refine Or.inr ⟨T + 1, by omega, Nat.le_refl _, by rw [e, if_pos a, if_pos x], ?_, ?_⟩
        · intro j g1 g2
          rw [show j = T + 1 by omega, e, if_pos a, if_pos x]
        · show (if crS o p T = -1 then (if cX o (p (T + 1)) then p (T + 1) else beS o p T) else _) = _
          rw [if_pos a, if_pos x]
      · exact Or.inl (by rw [e, if_pos a, if_neg x])
    · have hne : ¬ crS o p T = -1 := by rw [h3]; exact nI_ne _ (by omega)
      refine Or.inr ⟨c, h1, by omega, by rw [e, if_neg hne, h3], ?_, h5⟩
      intro j g1 g2
      by_cases q : j = T + 1
      · rw [q, e, if_neg hne, h3]
      · exact h4 j g1 (by omega)
theorem M_best_l (o : Int32) (p : Nat → Int32) (u : S2) (c : Nat) (hp : ∀ j, j ≤ 600 → u 61 j = p j) (hc : ∀ j, c ≤ j → j ≤ 600 → crS o p j = nI c) (hc6 : c ≤ 600) : ∀ (d N t b : Nat) (v6 v7 : Int32), v6 = nI b → v7 = nI (t + 1) → b ≤ 600 → c ≤ t → t + d = 600 → p b = beS o p t → d < N → f_X12_swing_112 N v6 v7 u = some (50000 + beS o p 600, u) := by
  intro d
  induction d with
  | zero =>
    intro N t b v6 v7 h6 h7 hb ht hd hpb hN
    obtain ⟨n2, rfl⟩ : ∃ n2, N = n2 + 1 := ⟨N - 1, by omega⟩
    have et : t = 600 := by omega
    subst et
    have h6i : v6.toInt = b := by rw [h6]; exact nI_toInt (by omega)
    have i6 : inb v6 601 = true := inb_of (by omega) (by omega)
    have x6 : Int32.toNatClampNeg v6 = b := by
      show v6.toInt.toNat = b
      omega
    rw [f_X12_swing_112_e, if_pos (by rw [h7]; decide)]
    unfold f_X12_swing_158
    rw [ck_y i6, nm_is, x6, hp b hb, hpb]
  | succ d ih =>
    intro N t b v6 v7 h6 h7 hb ht hd hpb hN
    obtain ⟨n2, rfl⟩ : ∃ n2, N = n2 + 1 := ⟨N - 1, by omega⟩
    have h6i : v6.toInt = b := by rw [h6]; exact nI_toInt (by omega)
    have h7i : v7.toInt = ((t + 1 : Nat) : Int) := by rw [h7]; exact nI_toInt (by omega)
    have i6 : inb v6 601 = true := inb_of (by omega) (by omega)
    have i7 : inb v7 601 = true := inb_of (by omega) (by omega)
    have x6 : Int32.toNatClampNeg v6 = b := by
      show v6.toInt.toNat = b
      omega
    have x7 : Int32.toNatClampNeg v7 = t + 1 := by
      show v7.toInt.toNat = t + 1
      omega
    have cc : ¬ 600 < v7 := fun z => by have : (600 : Int) < v7.toInt := ti_lt.mp z; omega
    have hne : ¬ crS o p t = -1 := by rw [hc t ht (by omega)]; exact nI_ne _ (by omega)
    have eb : beS o p (t + 1) = if siz (p (t + 1)) ≤ siz (beS o p t) then beS o p t else p (t + 1) := by
      show (if crS o p t = -1 then _ else (if siz (p (t + 1)) ≤ siz (beS o p t) then beS o p t else p (t + 1))) = _
      rw [if_neg hne]
    have e7 : v7 + 1 = nI (t + 1 + 1) := by rw [h7]; exact nI_1 (t + 1)
    rw [f_X12_swing_112_e, if_neg cc, ck_y i7, nm_is, x7, hp (t + 1) (by omega), M_size, bd_some, ck_y i6, nm_is, x6, hp b hb, M_size, bd_some]
    unfold f_X12_swing_150
    by_cases q : siz (p (t + 1)) ≤ siz (p b)
    · rw [if_pos q, nm_is]
      exact ih n2 (t + 1) b v6 (v7 + 1) h6 e7 hb (by omega) (by omega) (by rw [eb, ← hpb, if_pos q]) (by omega)
    · rw [if_neg q, nm_is]
      exact ih n2 (t + 1) (t + 1) v7 (v7 + 1) h7 e7 (by omega) (by omega) (by omega) (by rw [eb, ← hpb, if_neg q]) (by omega)
theorem swing_p (k i : Nat) (iv o dm w : Int32) (u : S2) (hh : Rel u) (hp : RP u k i) (hk : k ≠ 16) (hk2 : k ≠ 24) (pa : f_X7_pointerAt_5 iv u = some (some k, u)) (p : ¬ inR iv 0 2 = 0) (g3 : inb iv 3 = true) (e3 : Int32.toNatClampNeg iv = i) : ∃ r u1 u2, f_X11_swing iv o dm w u = some (r, u1) ∧ f_X12_swing iv o dm w u1 = some (r, u2) ∧ Rel u2 := by
  obtain ⟨e0, e1, e2, e3', e4, e5, e6, e7, g0, g1, g2, g3', g4, g5, g6, g7⟩ := hp
  have hpl := hh.1.1
  by_cases c1 : inR o (-9000) 9000 = 0
  · refine ⟨-3, u, u, ?_, ?_, hh⟩
    · unfold f_X11_swing
      rw [pa, bq_some]
      show bd (f_X11_isWithin o (-9000) 9000 u) _ = _
      rw [L_isWithin, bd_some, if_pos c1]
    · unfold f_X12_swing
      rw [M_isPointer, bd_some, if_neg p, L_in_m9000_9000, bd_some, if_pos c1]
  have ro : rg o (-9000) 9000 := inR_rg c1
  by_cases c2 : o = 0
  · refine ⟨-3, u, u, ?_, ?_, hh⟩
    · unfold f_X11_swing
      rw [pa, bq_some]
      show bd (f_X11_isWithin o (-9000) 9000 u) _ = _
      rw [L_isWithin, bd_some, if_neg c1, if_pos c2]
    · unfold f_X12_swing
      rw [M_isPointer, bd_some, if_neg p, L_in_m9000_9000, bd_some, if_neg c1, if_pos c2]
  by_cases c3 : inR w 0 2 = 0
  · refine ⟨-3, u, u, ?_, ?_, hh⟩
    · unfold f_X11_swing
      rw [pa, bq_some]
      show bd (f_X11_isWithin o (-9000) 9000 u) _ = _
      rw [L_isWithin, bd_some, if_neg c1, if_neg c2, L_isWithin, bd_some, if_pos c3]
    · unfold f_X12_swing
      rw [M_isPointer, bd_some, if_neg p, L_in_m9000_9000, bd_some, if_neg c1, if_neg c2, L_in_0_2, bd_some, if_pos c3]
  obtain ⟨v, x1, x2, x3, x4, x5⟩ := X_let k (hol (u 5 3)) o dm u hk ro
  have v45 : v 45 i = u k 1 := by rw [x5 45 (by decide) (by decide)]; exact e1
  have v46 : v 46 i = u k 2 := by rw [x5 46 (by decide) (by decide)]; exact e2
  have v39 : v 39 0 = u 5 3 := by rw [x5 39 (by decide) (by decide)]; exact hpl
  obtain ⟨m, y1, y2, y3⟩ := M_lay (u k 1) (u k 2) dm (u 5 3) o 600 v ⟨by decide, by decide⟩
  obtain ⟨P, eP⟩ : ∃ P : Nat → Int32, P = fun j => (pth (u k 1) (u k 2) (hol (u 5 3)) dm o j).1 := ⟨_, rfl⟩
  rw [← eP] at x2 x3 x4
  have hP : ∀ j, j ≤ 600 → m 61 j = P j := by
    intro j hj
    rw [eP]
    exact y2 j (by show (j : Int) ≤ 600; omega)
  have h0 : P 0 = o := by rw [eP]; rfl
  have fr : ∀ c, ¬ c ∈ [16, 24, 61] → m c = u c := by
    intro c hc
    simp at hc
    rw [y3 c hc.2.2, x5 c hc.1 hc.2.1]
  have hR : Rel m := Rel_c hh [16, 24, 61] fr (by decide) (by decide)
  have mr := M_rests P m hP
  have mc := M_crosses P m o c2 hP h0
  have X : ∀ r, (if w = 0 then some (v 24 1, v) else if w = 2 then some (v 24 3, v) else if v 24 1 = -1 then some ((-1 : Int32), v) else some (v 24 2 + 50000, v)) = some (r, v) → f_X11_swing iv o dm w u = some (r, v) := by
    intro r hr
    unfold f_X11_swing
    rw [pa, bq_some]
    show bd (f_X11_isWithin o (-9000) 9000 u) _ = _
    rw [L_isWithin, bd_some, if_neg c1, if_neg c2, L_isWithin, bd_some, if_neg c3, X_holdOf, bd_some, x1, bv_some]
    exact hr
  have M : ∀ r, (if w = 2 then bd (f_X12_rests m) (fun r4 u5 => some (r4, u5)) else bd (f_X12_crosses m) (fun r3 u4 => if w = 0 then some (r3, u4) else if r3 = -1 then some (r3, u4) else nm (r3 + 1) (fun x3 => f_X12_swing_112 FUEL r3 x3 u4))) = some (r, m) → f_X12_swing iv o dm w v = some (r, m) := by
    intro r hr
    unfold f_X12_swing
    rw [M_isPointer, bd_some, if_neg p, L_in_m9000_9000, bd_some, if_neg c1, if_neg c2, L_in_0_2, bd_some, if_neg c3, ck_y g3, nm_is, e3, ck_y g3, nm_is, nm_is, v45, v46, v39, y1, bv_some]
    exact hr
  rcases p3 c3 with rfl | rfl | rfl
  · exact ⟨v 24 1, v, m, X _ (if_pos rfl), M _ (by rw [if_neg (by decide), mc, bd_some, if_pos rfl, x2]), hR⟩
  · rcases cr_spec o P 600 (by decide) with a | ⟨c, h1, h2, h3, h4, h5⟩
    · refine ⟨-1, v, m, X _ (by rw [if_neg (by decide), if_neg (by decide), if_pos (x2.trans a)]), M _ (by rw [if_neg (by decide), mc, bd_some, if_neg (by decide), if_pos a, a]), hR⟩
    · have hne : ¬ crS o P 600 = -1 := by rw [h3]; exact nI_ne _ (by omega)
      refine ⟨v 24 2 + 50000, v, m, X _ (by rw [if_neg (by decide), if_neg (by decide), if_neg (by rw [x2]; exact hne)]), M _ ?_, hR⟩
      rw [if_neg (by decide), mc, bd_some, if_neg (by decide), if_neg hne, nm_is, h3]
      have q := M_best_l o P m c hP h4 h2 (600 - c) FUEL c c (nI c) (nI c + 1) rfl (nI_1 c) h2 (Nat.le_refl _) (by omega) h5.symm (by show _ < 1000; omega)
      rw [q, x3, Int32.add_comm]
  · exact ⟨v 24 3, v, m, X _ (by rw [if_neg (by decide), if_pos rfl]), M _ (by rw [if_pos rfl, mr, bd_some, x4]), hR⟩
theorem s_swing : St_4 f_X11_swing f_X12_swing Rel := by
  intro a o dm w u h
  by_cases p : inR a 0 2 = 0
  · exact ⟨-2, u, u, by unfold f_X11_swing; rw [X_pa a u p, bq_some], by unfold f_X12_swing; rw [M_isPointer, bd_some, if_pos p], h⟩
  · rcases p3 p with rfl | rfl | rfl
    · exact swing_p 10 0 0 o dm w u h h.2.1.1 (by decide) (by decide) (X_pa0 u) p (by decide) (by decide)
    · exact swing_p 11 1 1 o dm w u h h.2.1.2.1 (by decide) (by decide) (X_pa1 u) p (by decide) (by decide)
    · exact swing_p 12 2 2 o dm w u h h.2.1.2.2 (by decide) (by decide) (X_pa2 u) p (by decide) (by decide)
theorem noUse_l (k i : Nat) (iv : Int32) (pl dp : Int32) (hk : k ≠ 16) (hk2 : k ≠ 24) (g3 : inb iv 3 = true) (e3 : Int32.toNatClampNeg iv = i) : ∀ (d N : Nat) (v2 : Int32) (x m : S2), x k 1 = pl → x k 2 = dp → m 45 i = pl → m 46 i = dp → 0 ≤ v2.toInt → v2.toInt + d = 90 → d < N → ∃ r x' m', f_X8_firstPlaceWithoutRest_2 N k v2 x = some (r, x') ∧ f_X12_noUse_12 N iv v2 m = some (r, m') ∧ (∀ c, c ≠ 16 → c ≠ 24 → x' c = x c) ∧ ∀ c, c ≠ 61 → m' c = m c := by
  intro d
  induction d with
  | zero =>
    intro N v2 x m h1 h2 m1 m2 h0 hd hN
    obtain ⟨n2, rfl⟩ : ∃ n2, N = n2 + 1 := ⟨N - 1, by omega⟩
    refine ⟨-1, x, m, ?_, ?_, fun _ _ _ => rfl, fun _ _ => rfl⟩
    · rw [f_X8_firstPlaceWithoutRest_2_e, if_pos (ti_lt.mpr (by show (89 : Int) < _; omega))]
    · rw [f_X12_noUse_12_e, if_pos (ti_le.mpr (by show (90 : Int) ≤ _; omega))]
  | succ d ih =>
    intro N v2 x m h1 h2 m1 m2 h0 hd hN
    obtain ⟨n2, rfl⟩ : ∃ n2, N = n2 + 1 := ⟨N - 1, by omega⟩
    have c1 : ¬ 89 < v2 := fun z => by have : (89 : Int) < v2.toInt := ti_lt.mp z; omega
    have c2 : ¬ 90 ≤ v2 := fun z => by have : (90 : Int) ≤ v2.toInt := ti_le.mp z; omega
    have e2 : (v2 + 1).toInt = v2.toInt + 1 := ti_add (by show _ ≤ v2.toInt + (1 : Int); omega) (by show v2.toInt + (1 : Int) ≤ _; omega)
    obtain ⟨v, x1, x2, x3, x4, x5⟩ := X_let k (hol v2) 3000 1 x hk ⟨by decide, by decide⟩
    obtain ⟨m', y1, y2, y3⟩ := M_lay pl dp 1 v2 3000 600 m ⟨by decide, by decide⟩
    rw [h1, h2] at x4
    obtain ⟨P, eP⟩ : ∃ P : Nat → Int32, P = fun j => (pth pl dp (hol v2) 1 3000 j).1 := ⟨_, rfl⟩
    rw [← eP] at x4
    have hP : ∀ j, j ≤ 600 → m' 61 j = P j := by
      intro j hj
      rw [eP]
      exact y2 j (by show (j : Int) ≤ 600; omega)
    have mr := M_rests P m' hP
    have X0 : f_X8_firstPlaceWithoutRest_2 (n2 + 1) k v2 x = if v 24 3 = -1 then some (v2, v) else nm (v2 + 1) (fun x0 => f_X8_firstPlaceWithoutRest_2 n2 k x0 v) := by
      rw [f_X8_firstPlaceWithoutRest_2_e, if_neg c1, X_holdOf, bd_some, x1, bv_some]
    have M0 : f_X12_noUse_12 (n2 + 1) iv v2 m = if reS P 600 = -1 then some (v2, m') else nm (v2 + 1) (fun x0 => f_X12_noUse_12 n2 iv x0 m') := by
      rw [f_X12_noUse_12_e, if_neg c2, ck_y g3, nm_is, e3, ck_y g3, nm_is, m1, m2, y1, bv_some, mr, bd_some]
    by_cases q : reS P 600 = -1
    · exact ⟨v2, v, m', by rw [X0, x4, if_pos q], by rw [M0, if_pos q], x5, y3⟩
    · obtain ⟨r, x', m2', k1, k2, k3, k4⟩ := ih n2 (v2 + 1) v m' (by rw [x5 k hk hk2]; exact h1) (by rw [x5 k hk hk2]; exact h2) (by rw [y3 45 (by decide)]; exact m1) (by rw [y3 46 (by decide)]; exact m2) (by omega) (by omega) (by omega)
      exact ⟨r, x', m2', by rw [X0, x4, if_neg q, nm_is]; exact k1, by rw [M0, if_neg q, nm_is]; exact k2, fun c a b => (k3 c a b).trans (x5 c a b), fun c a => (k4 c a).trans (y3 c a)⟩
theorem noUse_p (k i : Nat) (iv : Int32) (u : S2) (hh : Rel u) (hp : RP u k i) (hk : k ≠ 16) (hk2 : k ≠ 24) (pa : f_X7_pointerAt_5 iv u = some (some k, u)) (p : ¬ inR iv 0 2 = 0) (g3 : inb iv 3 = true) (e3 : Int32.toNatClampNeg iv = i) : ∃ r u1 u2, f_X11_noUse iv u = some (r, u1) ∧ f_X12_noUse iv u1 = some (r, u2) ∧ Rel u2 := by
  obtain ⟨r, x', m0, k1, -, k3, -⟩ := noUse_l k i iv (u k 1) (u k 2) hk hk2 g3 e3 90 FUEL 0 u u rfl rfl hp.2.1 hp.2.2.1 (by decide) (by decide) (by decide)
  obtain ⟨r2, x2, m', j1, j2, -, j4⟩ := noUse_l k i iv (u k 1) (u k 2) hk hk2 g3 e3 90 FUEL 0 u x' rfl rfl (by rw [k3 45 (by decide) (by decide)]; exact hp.2.1) (by rw [k3 46 (by decide) (by decide)]; exact hp.2.2.1) (by decide) (by decide) (by decide)
  have er : r2 = r := pr1 (j1.symm.trans k1)
  subst er
  refine ⟨r2, x', m', ?_, ?_, Rel_c hh [16, 24, 61] (fun c hc => ?_) (by decide) (by decide)⟩
  · unfold f_X11_noUse f_X8_firstPlaceWithoutRest
    rw [pa, bq_some]
    show bd (f_X8_firstPlaceWithoutRest_2 FUEL k 0 u) _ = _
    rw [k1, bd_some]
  · unfold f_X12_noUse
    rw [M_isPointer, bd_some, if_neg p]
    exact j2
  · simp at hc
    rw [j4 c hc.2.2, k3 c hc.1 hc.2.1]
theorem s_noUse : St_1 f_X11_noUse f_X12_noUse Rel := by
  intro a u h
  by_cases p : inR a 0 2 = 0
  · exact ⟨-2, u, u, by unfold f_X11_noUse; rw [X_pa a u p, bq_some], by unfold f_X12_noUse; rw [M_isPointer, bd_some, if_pos p], h⟩
  · rcases p3 p with rfl | rfl | rfl
    · exact noUse_p 10 0 0 u h h.2.1.1 (by decide) (by decide) (X_pa0 u) p (by decide) (by decide)
    · exact noUse_p 11 1 1 u h h.2.1.2.1 (by decide) (by decide) (X_pa1 u) p (by decide) (by decide)
    · exact noUse_p 12 2 2 u h h.2.1.2.2 (by decide) (by decide) (X_pa2 u) p (by decide) (by decide)
