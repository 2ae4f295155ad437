/-! what the relation does not look at may change; turned, bestPull -/
def FCl : List Nat := [1, 2, 4, 5, 9, 10, 11, 12, 18, 22, 26, 27, 28, 29, 30, 31, 33, 34, 43, 44, 45, 46, 47, 50, 51, 52, 53, 54, 56, 57, 58, 59, 60]
def SCl : List (Nat × Nat) := [(38, 5), (38, 16), (38, 20), (38, 22), (38, 25), (38, 28), (39, 0), (39, 1), (39, 2), (39, 3), (40, 0), (41, 0), (42, 0), (48, 0), (48, 1), (48, 2), (49, 0), (49, 1), (49, 2), (21, 1), (32, 2)]
theorem Rel_fr {u v : S2} (h : Rel u) (f : ∀ c, c ∈ FCl → v c = u c) (g : ∀ q, q ∈ SCl → v q.1 q.2 = u q.1 q.2) : Rel v := by
  obtain ⟨h1, h2, h3, h4, h5, h6, h7, h8, h9⟩ := h
  have F : ∀ c, FCl.contains c = true → v c = u c := fun c hc => f c (by simpa using hc)
  have G : ∀ c j, SCl.contains (c, j) = true → v c j = u c j := fun c j hc => g (c, j) (by simpa using hc)
  have z : ∀ i, i < 3 → v 48 i = u 48 i := by
    intro i hi
    rcases (show i = 0 ∨ i = 1 ∨ i = 2 by omega) with rfl | rfl | rfl
    · exact G 48 0 (by decide)
    · exact G 48 1 (by decide)
    · exact G 48 2 (by decide)
  have z2 : ∀ i, i < 3 → v 49 i = u 49 i := by
    intro i hi
    rcases (show i = 0 ∨ i = 1 ∨ i = 2 by omega) with rfl | rfl | rfl
    · exact G 49 0 (by decide)
    · exact G 49 1 (by decide)
    · exact G 49 2 (by decide)
  exact ⟨R1_of h1 (F 5 (by decide)) (G 39 0 (by decide)) (G 39 1 (by decide)) (G 39 2 (by decide)) (G 39 3 (by decide)) (G 40 0 (by decide)) (G 41 0 (by decide)),
    R2_of h2 (F 10 (by decide)) (F 11 (by decide)) (F 12 (by decide)) (F 44 (by decide)) (F 45 (by decide)) (F 46 (by decide)) (F 47 (by decide)) (F 50 (by decide)) (F 51 (by decide)) z z2,
    R3_of h3 (F 43 (by decide)) (F 2 (by decide)) (G 38 5 (by decide)) (by rw [F 1 (by decide)]),
    R4_of h4 (F 52 (by decide)) (F 4 (by decide)),
    R5_of h5 (F 54 (by decide)) (F 18 (by decide)) (G 38 20 (by decide)) (F 9 (by decide)) (G 42 0 (by decide)),
    R6_of h6 (F 53 (by decide)) (F 22 (by decide)) (G 38 16 (by decide)) (G 21 1 (by decide)),
    R7_of h7 (F 56 (by decide)) (F 27 (by decide)) (G 38 22 (by decide)) (by rw [F 26 (by decide)]),
    R8_of h8 (F 57 (by decide)) (F 58 (by decide)) (G 38 25 (by decide)) (by rw [F 28 (by decide)]) (F 29 (by decide)) (F 30 (by decide)) (F 31 (by decide)),
    R9_of h9 (F 59 (by decide)) (F 60 (by decide)) (G 38 28 (by decide)) (G 32 2 (by decide)) (F 33 (by decide)) (F 34 (by decide))⟩
/-- only cells that the relation does not look at differ -/
theorem Rel_c {u v : S2} (h : Rel u) (cs : List Nat) (hc : ∀ c, ¬ c ∈ cs → v c = u c) (d1 : FCl.all (fun c => !cs.contains c) = true) (d2 : SCl.all (fun q => !cs.contains q.1) = true) : Rel v := by
  refine Rel_fr h (fun c hm => hc c ?_) (fun q hm => congrFun (hc q.1 ?_) q.2)
  · have := List.all_eq_true.mp d1 c hm
    simpa using this
  · have := List.all_eq_true.mp d2 q hm
    simpa using this
theorem qt (n k t : Int32) (u : S2) : (∃ r, f_X11_isQuickTurn n k t u = some (r, u) ∧ f_X12_isTurn n k t u = some (r, u) ∧ (¬ r = 0 → rg n 1 300)) := by
  unfold f_X11_isQuickTurn f_X12_isTurn
  rw [X_isTrial, L_in_1_300, bd_some, bd_some]
  by_cases c1 : inR n 1 300 = 0
  · rw [if_pos c1, if_pos c1]
    exact ⟨0, rfl, rfl, fun z => absurd rfl z⟩
  · rw [if_neg c1, if_neg c1, L_isWithin, bd_some]
    have e : f_X12_in (Int32.toInt64 k) (0 : Int64) (Int32.toInt64 n) u = some (inR k 0 n, u) := L_in k 0 n u
    rw [e, bd_some]
    by_cases c2 : inR k 0 n = 0
    · rw [if_pos c2, if_pos c2]
      exact ⟨0, rfl, rfl, fun z => absurd rfl z⟩
    · rw [if_neg c2, if_neg c2, X_isTurn, L_in_m999_999, bd_some]
      by_cases c3 : inR t (-999) 999 = 0
      · rw [if_pos c3]
        exact ⟨0, rfl, rfl, fun z => absurd rfl z⟩
      · rw [if_neg c3]
        exact ⟨1, rfl, rfl, fun _ => inR_rg c1⟩
theorem qtM {n k t : Int32} {u v : S2} {r : Int32} (h : f_X12_isTurn n k t u = some (r, u)) : f_X12_isTurn n k t v = some (r, v) := by
  obtain ⟨r1, -, e1, -⟩ := qt n k t u
  obtain ⟨r2, -, e2, -⟩ := qt n k t v
  have q1 : r1 = r := pr1 (e1.symm.trans h)
  have key : ∀ w : S2, ∃ b, f_X12_isTurn n k t w = some (b, w) ∧ b = (if inR n 1 300 = 0 then 0 else if inR k 0 n = 0 then 0 else if inR t (-999) 999 = 0 then 0 else 1) := by
    intro w
    unfold f_X12_isTurn
    rw [L_in_1_300, bd_some]
    have e : f_X12_in (Int32.toInt64 k) (0 : Int64) (Int32.toInt64 n) w = some (inR k 0 n, w) := L_in k 0 n w
    by_cases c1 : inR n 1 300 = 0
    · exact ⟨0, by rw [if_pos c1], by rw [if_pos c1]⟩
    · rw [if_neg c1, e, bd_some, if_neg c1]
      by_cases c2 : inR k 0 n = 0
      · exact ⟨0, by rw [if_pos c2], by rw [if_pos c2]⟩
      · rw [if_neg c2, L_in_m999_999, bd_some, if_neg c2]
        by_cases c3 : inR t (-999) 999 = 0
        · exact ⟨0, by rw [if_pos c3], by rw [if_pos c3]⟩
        · exact ⟨1, by rw [if_neg c3], by rw [if_neg c3]⟩
  obtain ⟨b1, f1, g1⟩ := key u
  obtain ⟨b2, f2, g2⟩ := key v
  have : b1 = r := pr1 (f1.symm.trans h)
  rw [f2, g2, ← g1, this]
theorem turned_p (k i : Nat) (iv n kk t : Int32) (u : S2) (hh : Rel u) (hp : RP u k i) (hk : k ≠ 16) (pa : f_X7_pointerAt_5 iv u = some (some k, u)) (p : ¬ inR iv 0 2 = 0) (g3 : inb iv 3 = true) (e3 : Int32.toNatClampNeg iv = i) (hi : i < 3) : ∃ r u1 u2, f_X11_turned iv n kk t u = some (r, u1) ∧ f_X12_turned iv n kk t u1 = some (r, u2) ∧ Rel u2 := by
  obtain ⟨e0, e1, e2, e3', e4, e5, e6, e7, g0, g1, g2, g3', g4, g5, g6, g7⟩ := hp
  obtain ⟨q, x1, m1, hq⟩ := qt n kk t u
  by_cases z : q = 0
  · refine ⟨-3, u, u, ?_, ?_, hh⟩
    · unfold f_X11_turned
      rw [pa, bq_some]
      show bd (f_X11_isQuickTurn n kk t u) _ = _
      rw [x1, bd_some, if_pos z]
    · unfold f_X12_turned
      rw [M_isPointer, bd_some, if_neg p, m1, bd_some, if_pos z]
  · have hn := hq z
    obtain ⟨u', d1, d2⟩ := X_disturbed k (u k 1) (hol (u 5 3)) n kk t u hk hn
    have m2 := M_turnedOf iv (u' 45 i) n kk t i u' g3 e3 hn
    have a45 : u' 45 i = u k 1 := by rw [d2 45 (by decide)]; exact e1
    have a46 : u' 46 i = u k 2 := by rw [d2 46 (by decide)]; exact e2
    have a47 : u' 47 i = u k 3 := by rw [d2 47 (by decide)]; exact e3'
    have a39 : u' 39 0 = u 5 3 := by rw [d2 39 (by decide)]; exact hh.1.1
    rw [a46, a47, a39] at m2
    refine ⟨mxs (u k 1) (u k 2) (u k 3) (hol (u 5 3)) kk t n.toInt.toNat, u', u', ?_, ?_, Rel_c hh [16] (fun c hc => d2 c (by simpa using hc)) (by decide) (by decide)⟩
    · unfold f_X11_turned
      rw [pa, bq_some]
      show bd (f_X11_isQuickTurn n kk t u) _ = _
      rw [x1, bd_some, if_neg z, X_holdOf, bd_some, d1, bd_some]
    · unfold f_X12_turned
      rw [M_isPointer, bd_some, if_neg p, qtM m1, bd_some, if_neg z, ck_y g3, nm_is, e3, m2, bd_some, a45]
theorem s_turned : St_4 f_X11_turned f_X12_turned Rel := by
  intro a n kk t u h
  by_cases p : inR a 0 2 = 0
  · exact ⟨-2, u, u, by unfold f_X11_turned; rw [X_pa a u p, bq_some], by unfold f_X12_turned; rw [M_isPointer, bd_some, if_pos p], h⟩
  · rcases p3 p with rfl | rfl | rfl
    · exact turned_p 10 0 0 n kk t u h h.2.1.1 (by decide) (X_pa0 u) p (by decide) (by decide) (by decide)
    · exact turned_p 11 1 1 n kk t u h h.2.1.2.1 (by decide) (X_pa1 u) p (by decide) (by decide) (by decide)
    · exact turned_p 12 2 2 n kk t u h h.2.1.2.2 (by decide) (X_pa2 u) p (by decide) (by decide) (by decide)
theorem calm_l (k i : Nat) (iv n kk t : Int32) (hk : k ≠ 16) (g3 : inb iv 3 = true) (e3 : Int32.toNatClampNeg iv = i) (hn : rg n 1 300) (dp kc h : Int32) : ∀ (d N : Nat) (v8 best least : Int32) (x m : S2), x k 2 = dp → x k 3 = kc → m 46 i = dp → m 47 i = kc → hol (m 39 0) = h → least = mxs best dp kc h kk t n.toInt.toNat → 2 ≤ v8.toInt → v8.toInt + d = 100 → d < N → ∃ r x', f_X8_calmestPull_21 N k h n kk t best least v8 x = some (r, x') ∧ f_X12_bestPull_29 N iv n kk t best v8 m = some (r, m) ∧ ∀ c, c ≠ 16 → x' c = x c := by
  intro d
  induction d with
  | zero =>
    intro N v8 best least x m h2 h3 m2 m3 m0 hl hv hd hN
    obtain ⟨n2, rfl⟩ : ∃ n2, N = n2 + 1 := ⟨N - 1, by omega⟩
    refine ⟨best, x, ?_, ?_, fun _ _ => rfl⟩
    · rw [f_X8_calmestPull_21_e, if_pos (ti_lt.mpr (by show (99 : Int) < _; omega))]
    · rw [f_X12_bestPull_29_e, if_pos (ti_le.mpr (by show (100 : Int) ≤ _; omega))]
  | succ d ih =>
    intro N v8 best least x m h2 h3 m2 m3 m0 hl hv hd hN
    obtain ⟨n2, rfl⟩ : ∃ n2, N = n2 + 1 := ⟨N - 1, by omega⟩
    have c1 : ¬ 99 < v8 := fun z => by have : (99 : Int) < v8.toInt := ti_lt.mp z; omega
    have c2 : ¬ 100 ≤ v8 := fun z => by have : (100 : Int) ≤ v8.toInt := ti_le.mp z; omega
    have e8 : (v8 + 1).toInt = v8.toInt + 1 := ti_add (by show _ ≤ v8.toInt + (1 : Int); omega) (by show v8.toInt + (1 : Int) ≤ _; omega)
    obtain ⟨x1, d1, d2⟩ := X_disturbed k v8 h n kk t x hk hn
    rw [h2, h3] at d1
    have q1 := M_turnedOf iv v8 n kk t i m g3 e3 hn
    have q2 := M_turnedOf iv best n kk t i m g3 e3 hn
    rw [m2, m3, m0] at q1 q2
    rw [← hl] at q2
    by_cases q : least ≤ mxs v8 dp kc h kk t n.toInt.toNat
    · obtain ⟨r, x', k1, k2, k3⟩ := ih n2 (v8 + 1) best least x1 m (by rw [d2 k hk]; exact h2) (by rw [d2 k hk]; exact h3) m2 m3 m0 hl (by omega) (by omega) (by omega)
      refine ⟨r, x', ?_, ?_, fun c hc => (k3 c hc).trans (d2 c hc)⟩
      · rw [f_X8_calmestPull_21_e, if_neg c1, d1, bd_some, if_pos q]
        unfold f_X8_calmestPull_58
        rw [nm_is]
        exact k1
      · rw [f_X12_bestPull_29_e, if_neg c2, q1, bd_some, q2, bd_some, if_pos q]
        unfold f_X12_bestPull_68
        rw [nm_is]
        exact k2
    · obtain ⟨r, x', k1, k2, k3⟩ := ih n2 (v8 + 1) v8 (mxs v8 dp kc h kk t n.toInt.toNat) x1 m (by rw [d2 k hk]; exact h2) (by rw [d2 k hk]; exact h3) m2 m3 m0 rfl (by omega) (by omega) (by omega)
      refine ⟨r, x', ?_, ?_, fun c hc => (k3 c hc).trans (d2 c hc)⟩
      · rw [f_X8_calmestPull_21_e, if_neg c1, d1, bd_some, if_neg q]
        unfold f_X8_calmestPull_58
        rw [nm_is]
        exact k1
      · rw [f_X12_bestPull_29_e, if_neg c2, q1, bd_some, q2, bd_some, if_neg q]
        unfold f_X12_bestPull_68
        rw [nm_is]
        exact k2
theorem best_p (k i : Nat) (iv n kk t : Int32) (u : S2) (hh : Rel u) (hp : RP u k i) (hk : k ≠ 16) (pa : f_X7_pointerAt_5 iv u = some (some k, u)) (p : ¬ inR iv 0 2 = 0) (g3 : inb iv 3 = true) (e3 : Int32.toNatClampNeg iv = i) : ∃ r u1 u2, f_X11_bestPull iv n kk t u = some (r, u1) ∧ f_X12_bestPull iv n kk t u1 = some (r, u2) ∧ Rel u2 := by
  obtain ⟨e0, e1, e2, e3', e4, e5, e6, e7, g0, g1, g2, g3', g4, g5, g6, g7⟩ := hp
  obtain ⟨q, x1, m1, hq⟩ := qt n kk t u
  by_cases z : q = 0
  · refine ⟨-3, u, u, ?_, ?_, hh⟩
    · unfold f_X11_bestPull
      rw [pa, bq_some]
      show bd (f_X11_isQuickTurn n kk t u) _ = _
      rw [x1, bd_some, if_pos z]
    · unfold f_X12_bestPull
      rw [M_isPointer, bd_some, if_neg p, m1, bd_some, if_pos z]
  · have hn := hq z
    obtain ⟨ua, d1, d2⟩ := X_disturbed k 1 (hol (u 5 3)) n kk t u hk hn
    have core : ∀ m : S2, m 46 i = u k 2 → m 47 i = u k 3 → hol (m 39 0) = hol (u 5 3) → ∃ r x', f_X8_calmestPull_21 FUEL k (hol (u 5 3)) n kk t 1 (mxs 1 (u k 2) (u k 3) (hol (u 5 3)) kk t n.toInt.toNat) 2 ua = some (r, x') ∧ f_X12_bestPull_29 FUEL iv n kk t 1 2 m = some (r, m) ∧ ∀ c, c ≠ 16 → x' c = ua c := fun m a b c => calm_l k i iv n kk t hk g3 e3 hn (u k 2) (u k 3) (hol (u 5 3)) 98 FUEL 2 1 _ ua m (by rw [d2 k hk]) (by rw [d2 k hk]) a b c rfl (by decide) (by decide) (by decide)
    obtain ⟨r, x', k1, -, k3⟩ := core u e2 e3' (by rw [hh.1.1])
    have fr : ∀ c, c ≠ 16 → x' c = u c := fun c hc => (k3 c hc).trans (d2 c hc)
    obtain ⟨r2, x2, j1, j2, -⟩ := core x' (by rw [fr 46 (by decide)]; exact e2) (by rw [fr 47 (by decide)]; exact e3') (by rw [fr 39 (by decide), hh.1.1])
    have er : r2 = r := pr1 (j1.symm.trans k1)
    subst er
    refine ⟨r2, x', x', ?_, ?_, Rel_c hh [16] (fun c hc => fr c (by simpa using hc)) (by decide) (by decide)⟩
    · unfold f_X11_bestPull f_X8_calmestPull
      rw [pa, bq_some]
      show bd (f_X11_isQuickTurn n kk t u) _ = _
      rw [x1, bd_some, if_neg z, X_holdOf, bd_some, d1, bd_some, k1, bd_some]
    · unfold f_X12_bestPull
      rw [M_isPointer, bd_some, if_neg p, qtM m1, bd_some, if_neg z, j2]
theorem s_bestPull : St_4 f_X11_bestPull f_X12_bestPull Rel := by
  intro a n kk t u h
  by_cases p : inR a 0 2 = 0
  · exact ⟨-2, u, u, by unfold f_X11_bestPull; rw [X_pa a u p, bq_some], by unfold f_X12_bestPull; rw [M_isPointer, bd_some, if_pos p], h⟩
  · rcases p3 p with rfl | rfl | rfl
    · exact best_p 10 0 0 n kk t u h h.2.1.1 (by decide) (X_pa0 u) p (by decide) (by decide)
    · exact best_p 11 1 1 n kk t u h h.2.1.2.1 (by decide) (X_pa1 u) p (by decide) (by decide)
    · exact best_p 12 2 2 n kk t u h h.2.1.2.2 (by decide) (X_pa2 u) p (by decide) (by decide)
