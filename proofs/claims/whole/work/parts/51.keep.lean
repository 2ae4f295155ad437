/-! a trial on copies -/
theorem wr_ne {σ : S2} {k i c j : Nat} {v : Int32} (h : c = k → j ≠ i) : wr σ k i v c j = σ c j := by
  by_cases e : c = k
  · rw [e, wr_s, upd_n (h e)]
  · rw [wr_c e]
theorem rudr_3 {f g : Nat → Int32} (h1 : f 1 = g 1) (h2 : f 2 = g 2) (h3 : f 3 = g 3) (dead out goes : Int32) : rudr f dead out goes = rudr g dead out goes := by
  unfold rudr
  rw [h1, h2, h3]
def TW (c i : Nat) : Prop := (c = 39 ∧ 4 ≤ i) ∨ (c = 40 ∧ 1 ≤ i) ∨ (c = 41 ∧ 1 ≤ i) ∨ (c = 42 ∧ 1 ≤ i) ∨ (c = 48 ∧ 3 ≤ i) ∨ (c = 49 ∧ 3 ≤ i) ∨ (c = 38 ∧ (i = 33 ∨ i = 34))
def KW (c : Nat) : Prop := c = 7 ∨ c = 13 ∨ c = 14 ∨ c = 15 ∨ c = 19 ∨ c = 20 ∨ c = 25
def FrT (x y : S2) : Prop := ∀ c i, ¬ TW c i → y c i = x c i
def FrK (x y : S2) : Prop := ∀ c, ¬ KW c → y c = x c
theorem FrT.tr {x y z : S2} (h : FrT x y) (k : FrT y z) : FrT x z := fun c i hc => (k c i hc).trans (h c i hc)
theorem FrK.tr {x y z : S2} (h : FrK x y) (k : FrK y z) : FrK x z := fun c hc => (k c hc).trans (h c hc)
theorem FrT.refl (x : S2) : FrT x x := fun _ _ _ => rfl
theorem FrK.refl (x : S2) : FrK x x := fun _ _ => rfl
theorem FrT.cell {x y : S2} (h : FrT x y) (c : Nat) (hc : ∀ i, ¬ TW c i) : y c = x c := funext (fun i => h c i (hc i))
theorem mx_c {a r : Int32} : jmax a r = if r ≤ a then a else r := by
  unfold jmax
  by_cases c : a < r
  · rw [if_pos c, if_neg (Int32.not_le.mpr c)]
  · rw [if_neg c, if_pos (Int32.not_lt.mp c)]
def RT_0 (x m : S2) (T : Int) (dead : Int32) : Prop := (m 39 4 = x 7 3 ∧ m 39 5 = x 7 5 ∧ m 39 6 = x 7 7 ∧ m 39 7 = x 7 6 ∧ m 40 1 = x 7 4 ∧ m 41 1 = x 7 8) ∧ (rg (x 7 3) (-89) 89 ∧ rg (x 7 5) 0 40 ∧ rg (x 7 7) 0 99 ∧ rg (x 7 6) (-35) 35 ∧ rg (x 7 4) 0 35999 ∧ rg (x 7 8) 0 T) ∧ PX x m 13 0 3 ∧ (rg (x 13 4) (-18000) 17999 ∧ rg (x 14 4) (-18000) 17999 ∧ rg (x 15 4) (-18000) 17999) ∧ (rg (m 44 0) 0 5 ∧ rg (m 44 1) 0 5 ∧ rg (m 44 2) 0 5) ∧ (m 43 = x 2 ∧ m 38 5 = x 1 1 ∧ rg (x 1 1) 0 24) ∧ m 52 = x 4 ∧ ((m 54 1 = x 20 1 ∧ m 54 2 = x 20 2 ∧ m 54 3 = x 20 3 ∧ m 54 4 = x 20 4 ∧ m 54 5 = x 20 5) ∧ RN (x 20) ∧ x 20 0 = dead ∧ x 20 5 = 0 ∧ m 38 20 = x 19 1 ∧ rg (x 19 1) 0 35999) ∧ ((x 19 2 = 0 ∧ m 42 1 = -1) ∨ (x 19 2 = 1 ∧ m 42 1 = x 19 3 ∧ rg (x 19 3) 0 35999)) ∧ (m 38 33 = x 25 2 ∧ m 38 34 = x 25 3)
theorem tickT_0 {x m : S2} {T : Int} {dead : Int32} (h : RT_0 x m T dead) (hT : T ≤ 1000000) : f_X7_tick_7 x = some (tkX_7 x) ∧ f_X12_tick 1 m = some (tkM_1 m) ∧ RT_0 (tkX_7 x) (tkM_1 m) (T + 1) dead ∧ FrK x (tkX_7 x) ∧ FrT m (tkM_1 m) ∧ (tkX_7 x) 25 = x 25 := by
  obtain ⟨⟨a0, a1, a2, a3, a4, a5⟩, ⟨r0, r1, r2, r3, r4, r5⟩, p0, ⟨o0, o1, o2⟩, ⟨k0, k1, k2⟩, ⟨s0, s1, s2⟩, d0, n0, l0, c0⟩ := h
  have ht : (m 39 7 * m 39 6 + yw (m 43) (m 41 1) (m 38 5)) = (x 7 6 * x 7 7 + yw (x 2) (x 7 8) (x 1 1)) := by rw [a2, a3, s0, a5, s1]
  have hh : (rnd (m 40 1 + (m 39 7 * m 39 6 + yw (m 43) (m 41 1) (m 38 5)))) = (rnd (x 7 4 + (x 7 6 * x 7 7 + yw (x 2) (x 7 8) (x 1 1)))) := by rw [ht, a4]
  have P0 : PX (tkX_7 x) (tkM_1 m) 13 0 3 := by
    obtain ⟨e0, e1, e2, e3, e4, e5, e6, e7, g0, g1, g2, g3, g4, g5, g6, g7⟩ := p0
    have ho : nO (m 44 0) (m 45 0) (m 46 0) (m 47 0) (m 48 3) (m 49 3) (m 39 4) (m 39 5) (rnd (m 40 1 + (m 39 7 * m 39 6 + yw (m 43) (m 41 1) (m 38 5)))) (m 39 7 * m 39 6 + yw (m 43) (m 41 1) (m 38 5)) = nO (x 13 0) (x 13 1) (x 13 2) (x 13 3) (x 13 4) (x 13 5) (x 7 3) (x 7 5) (rnd (x 7 4 + (x 7 6 * x 7 7 + yw (x 2) (x 7 8) (x 1 1)))) (x 7 6 * x 7 7 + yw (x 2) (x 7 8) (x 1 1)) := by rw [e0, e1, e2, e3, e4, e5, a0, a1, hh, ht]
    have hr : nR (m 44 0) (m 45 0) (m 46 0) (m 47 0) (m 48 3) (m 49 3) (m 39 4) (m 39 5) (rnd (m 40 1 + (m 39 7 * m 39 6 + yw (m 43) (m 41 1) (m 38 5)))) (m 39 7 * m 39 6 + yw (m 43) (m 41 1) (m 38 5)) = nR (x 13 0) (x 13 1) (x 13 2) (x 13 3) (x 13 4) (x 13 5) (x 7 3) (x 7 5) (rnd (x 7 4 + (x 7 6 * x 7 7 + yw (x 2) (x 7 8) (x 1 1)))) (x 7 6 * x 7 7 + yw (x 2) (x 7 8) (x 1 1)) := by rw [e0, e1, e2, e3, e4, e5, a0, a1, hh, ht]
    exact ⟨e0, e1, e2, e3, ho, hr, e6, e7, g0, g1, g2, g3, nO_rg g4, nR_rg g5, g6, g7⟩
  have htk : (x 7 8 + 1).toInt = (x 7 8).toInt + 1 := ti_add (by have := r5.1; show _ ≤ (x 7 8).toInt + 1; omega) (by have := r5.2; show (x 7 8).toInt + 1 ≤ _; omega)
  refine ⟨X_tick_7 x r0 r1 r5.1 s2 o0 o1 o2, M_tick_1 m (by rw [a0]; exact r0) (by rw [a5]; exact r5.1) (by rw [s1]; exact s2) k0 k1 k2, ⟨⟨a0, a1, a2, a3, hh, ?_⟩, ⟨r0, r1, r2, r3, rnd_rg _, ⟨?_, ?_⟩⟩, P0, ⟨nO_rg o0, nO_rg o1, nO_rg o2⟩, ⟨k0, k1, k2⟩, ⟨s0, s1, s2⟩, d0, n0, l0, c0⟩, ?_, ?_, rfl⟩
  · show m 41 1 + 1 = x 7 8 + 1
    rw [a5]
  · show 0 ≤ (x 7 8 + 1).toInt
    have := r5.1
    omega
  · show (x 7 8 + 1).toInt ≤ T + 1
    have := r5.2
    omega
  · intro c hc
    unfold KW at hc
    unfold tkX_7 pst
    rw [wr_c (by omega), up_c (by omega), up_c (by omega), up_c (by omega), wr_c (by omega)]
  · intro c i hc
    unfold TW at hc
    unfold tkM_1 mst
    rw [wr_ne (by omega), wr_ne (by omega), wr_ne (by omega), wr_ne (by omega), wr_ne (by omega), wr_ne (by omega), wr_ne (by omega), wr_ne (by omega)]
theorem steerTc_0 {x m : S2} {T : Int} {dead : Int32} (h : RT_0 x m T dead) {s s2 r r2 : Int32} (es : s2 = s) (er : r2 = r) (hs : rg s 0 35999) (hr : rg r (-35) 35) : RT_0 (wr (wr (wr x 19 2 1) 19 3 s) 7 6 r) (wr (wr m 42 1 s2) 39 7 r2) T dead := by
  obtain ⟨⟨a0, a1, a2, a3, a4, a5⟩, ⟨r0, r1, r2, r3, r4, r5⟩, p0, o0, k0, s0, d0, n0, l0, c0⟩ := h
  exact ⟨⟨a0, a1, a2, er, a4, a5⟩, ⟨r0, r1, r2, hr, r4, r5⟩, p0, o0, k0, s0, d0, n0, Or.inr ⟨rfl, es, hs⟩, c0⟩
theorem steerT_0 {x m : S2} {T : Int} {dead : Int32} (h : RT_0 x m T dead) : ∃ x' m', f_X0_steerShip_19_7 x = some x' ∧ f_X12_steer 1 dead m = some m' ∧ RT_0 x' m' T dead ∧ FrK x x' ∧ FrT m m' ∧ x' 25 = x 25 := by
  have hh0 := h
  obtain ⟨⟨a0, a1, a2, a3, a4, a5⟩, ⟨r0, r1, r2, r3, r4, r5⟩, p0, o0, k0, s0, d0, ⟨⟨n1, n2, n3, n4, n5⟩, nr, nd, nb, nc, nk⟩, l0, c0⟩ := h
  have pj := p0
  obtain ⟨e0, e1, e2, e3, e4, e5, e6, e7, g0, g1, g2, g3, g4, g5, g6, g7⟩ := pj
  have hX := X_steer_7_0 x nb r4 g7 nr nk (l0.elim (fun z => Or.inl z.1) (fun z => Or.inr z.2.2))
  have hM := M_steer_1_0 m dead (n5.trans nb) (by rw [a4]; exact r4) (by rw [e7]; exact g7) (by rw [n4]; exact nr.2.2.2.2.1.1)
  have hc : (m 41 1 - m 41 1 / m 54 4 * m 54 4 = 0) = (x 7 8 - x 7 8 / x 20 4 * x 20 4 = 0) := by rw [a5, n4]
  by_cases r : x 7 8 - x 7 8 / x 20 4 * x 20 4 = 0
  · rw [if_pos r] at hX
    rw [if_pos (by rw [hc]; exact r)] at hM
    have hs : (shw (m 44 0) (m 48 3) (m 50 0) (m 51 0) (m 40 1) (m 52)) = (shw (x 13 0) (x 13 4) (x 13 6) (x 13 7) (x 7 4) (x 4)) := by rw [e0, e4, e6, e7, a4, d0]
    have hr : rudr (m 54) dead (wrp (m 38 20 - (shw (m 44 0) (m 48 3) (m 50 0) (m 51 0) (m 40 1) (m 52)))) (if m 42 1 = -1 then 0 else wrp ((shw (m 44 0) (m 48 3) (m 50 0) (m 51 0) (m 40 1) (m 52)) - m 42 1)) = rudr (x 20) (x 20 0) (wrp (x 19 1 - (shw (x 13 0) (x 13 4) (x 13 6) (x 13 7) (x 7 4) (x 4)))) (if x 19 2 = 0 then 0 else wrp ((shw (x 13 0) (x 13 4) (x 13 6) (x 13 7) (x 7 4) (x 4)) - x 19 3)) := by
      rw [rudr_3 n1 n2 n3, nd, hs, nc]
      rcases l0 with ⟨z1, z2⟩ | ⟨z1, z2, z3⟩
      · rw [if_pos z2, if_pos z1]
      · rw [if_neg (by intro q; rw [z2] at q; rw [q] at z3; exact absurd z3.1 (by decide)), if_neg (by rw [z1]; decide), z2]
    unfold stX_7_0 at hX
    unfold stM_1_0 at hM
    refine ⟨_, _, hX, hM, steerTc_0 hh0 hs hr (shw_rg _ _ _ _ _ _) (rudr_rg nr.2.2.2.1), ?_, ?_, rfl⟩
    · intro c hc
      unfold KW at hc
      rw [wr_c (by omega), wr_c (by omega), wr_c (by omega)]
    · intro c i hc
      unfold TW at hc
      rw [wr_ne (by omega), wr_ne (by omega)]
  · rw [if_neg r] at hX
    rw [if_neg (by rw [hc]; exact r)] at hM
    exact ⟨x, m, hX, hM, hh0, FrK.refl _, FrT.refl _, rfl⟩
theorem RTd_0 {x m : S2} {T : Int} {dead s s2 : Int32} (h : RT_0 x m T dead) (es : s2 = s) : RT_0 (wr x 25 3 s) (wr m 38 34 s2) T dead := by
  obtain ⟨a, b, p0, o0, k0, s0, d0, n0, l0, c0⟩ := h
  exact ⟨a, b, p0, o0, k0, s0, d0, n0, l0, ⟨c0.1, es⟩⟩
theorem RTw_0 {x m : S2} {T : Int} {dead s s2 : Int32} (h : RT_0 x m T dead) (es : s2 = s) : RT_0 (wr x 25 2 s) (wr m 38 33 s2) T dead := by
  obtain ⟨a, b, p0, o0, k0, s0, d0, n0, l0, c0⟩ := h
  exact ⟨a, b, p0, o0, k0, s0, d0, n0, l0, ⟨es, c0.2⟩⟩
theorem keepT_0 (n dead : Int32) (hn : n.toInt ≤ 300) : ∀ (d N : Nat) (v5 : Int32) (x m : S2) (T : Int), RT_0 x m T dead → T + d ≤ 1000000 → 1 ≤ v5.toInt → v5.toInt + d = n.toInt + 1 → 0 ≤ (x 25 3).toInt → (x 25 3).toInt + 35 * d ≤ 10500 → d < N → ∃ x' m', f_X1_keep_5_9_56 N n v5 x = some x' ∧ f_X12_keep_116 N n dead v5 m = some m' ∧ m' 38 33 = x' 25 2 ∧ m' 38 34 = x' 25 3 ∧ rg (x' 25 3) 0 10500 ∧ FrK x x' ∧ FrT m m' := by
  intro d
  induction d with
  | zero =>
    intro N v5 x m T h hT h0 hv d1 d2 hN
    obtain ⟨n2, rfl⟩ : ∃ n2, N = n2 + 1 := ⟨N - 1, by omega⟩
    have c : n < v5 := ti_lt.mpr (by omega)
    have c0 := h.2.2.2.2.2.2.2.2.2
    refine ⟨x, m, ?_, ?_, c0.1, c0.2, ⟨d1, by omega⟩, FrK.refl _, FrT.refl _⟩
    · rw [f_X1_keep_5_9_56_e, if_pos c]
    · rw [f_X12_keep_116_e, if_pos c]
  | succ d ih =>
    intro N v5 x m T h hT h0 hv d1 d2 hN
    obtain ⟨n2, rfl⟩ : ∃ n2, N = n2 + 1 := ⟨N - 1, by omega⟩
    have hb := ti_rg n
    have c : ¬ n < v5 := fun z => by have := ti_lt.mp z; omega
    have e1 : (v5 + 1).toInt = v5.toInt + 1 := ti_add (by show _ ≤ v5.toInt + (1 : Int); omega) (by show v5.toInt + (1 : Int) ≤ _; omega)
    obtain ⟨y, w, s1, s2, s3, s4, s5, s6⟩ := steerT_0 h
    obtain ⟨t1, t2, t3, t4, t5, t6⟩ := tickT_0 s3 (by omega)
    obtain ⟨p, ep⟩ : ∃ p, p = tkX_7 y := ⟨_, rfl⟩
    obtain ⟨q, eq⟩ : ∃ q, q = tkM_1 w := ⟨_, rfl⟩
    rw [← ep] at t1 t3 t4 t6
    rw [← eq] at t2 t3 t5
    have p25 : p 25 = x 25 := t6.trans s6
    obtain ⟨⟨b0, b1, b2, b3, b4, b5⟩, ⟨g0, g1, g2, g3, g4, g5⟩, -, -, -, -, -, ⟨-, -, -, -, nc, nk⟩, -, ⟨c1, c2⟩⟩ := id t3
    obtain ⟨s, es⟩ : ∃ s, s = p 25 3 + siz (p 7 6) := ⟨_, rfl⟩
    have sz : 0 ≤ (siz (p 7 6)).toInt ∧ (siz (p 7 6)).toInt ≤ 35 := by
      have h1 := g3.1
      have h2 := g3.2
      rw [siz_ti (by omega)]
      split <;> omega
    have ts : s.toInt = (x 25 3).toInt + (siz (p 7 6)).toInt := by
      rw [es, p25]
      exact ti_add (by omega) (by omega)
    have es2 : q 38 34 + siz (q 39 7) = s := by rw [c2, b3, es]
    have R1 := RTd_0 (s := s) (s2 := s) t3 rfl
    have hsteps : ∀ (x3 m3 : S2), RT_0 x3 m3 (T + 1) dead → x3 25 3 = s → FrK p x3 → FrT q m3 → ∃ x' m', f_X1_keep_5_9_56 n2 n (v5 + 1) x3 = some x' ∧ f_X12_keep_116 n2 n dead (v5 + 1) m3 = some m' ∧ m' 38 33 = x' 25 2 ∧ m' 38 34 = x' 25 3 ∧ rg (x' 25 3) 0 10500 ∧ FrK x x' ∧ FrT m m' := by
      intro x3 m3 hR h3 f1 f2
      obtain ⟨x', m', k1, k2, k3, k4, k5, k6, k7⟩ := ih n2 (v5 + 1) x3 m3 (T + 1) hR (by omega) (by omega) (by omega) (by rw [h3]; omega) (by rw [h3]; omega) (by omega)
      exact ⟨x', m', k1, k2, k3, k4, k5, s4.tr (t4.tr (f1.tr k6)), s5.tr (t5.tr (f2.tr k7))⟩
    have fk3 : FrK p (wr p 25 3 s) := fun cc hc => wr_c (by unfold KW at hc; omega)
    have ft3 : FrT q (wr q 38 34 s) := fun cc i hc => wr_ne (by unfold TW at hc; omega)
    have nk' : rg (p 19 1) 0 35999 := nk
    have hcm : q 38 20 = p 19 1 := nc
    have hap : siz (wrp (q 38 20 - q 40 1)) = ap (p 19 1) (p 7 4) := by rw [hcm, b4]; rfl
    have M1 : ∀ z, f_X12_keep_116 (n2 + 1) n dead v5 m = z ↔ (if v5 ≤ n / 2 then f_X12_keep_192 (fun v1 v2 v3 u => f_X12_keep_116 n2 v1 v2 v3 u) n dead v5 (wr q 38 34 s) else (if ap (p 19 1) (p 7 4) ≤ p 25 2 then f_X12_keep_192 (fun v1 v2 v3 u => f_X12_keep_116 n2 v1 v2 v3 u) n dead v5 (wr q 38 34 s) else f_X12_keep_196 (fun v1 v2 v3 u => f_X12_keep_116 n2 v1 v2 v3 u) n dead v5 (ap (p 19 1) (p 7 4)) (wr q 38 34 s))) = z := by
      intro z
      rw [f_X12_keep_116_e, if_neg c, s2, bv_some, t2, bv_some, nm_is, M_size, bd_some, es2, nm_is, nm_is, nm_is]
      have q20 : (wr q 38 34 s) 38 20 = q 38 20 := rfl
      have q40 : (wr q 38 34 s) 40 1 = q 40 1 := rfl
      have q33 : (wr q 38 34 s) 38 33 = p 25 2 := c1
      rw [M_wrapped, bd_some, M_size, bd_some, q20, q40, hap, q33]
    have X1 : ∀ z, f_X1_keep_5_9_56 (n2 + 1) n v5 x = z ↔ (if v5 ≤ n / 2 then f_X1_keep_5_9_56 n2 n (v5 + 1) (wr p 25 3 s) else f_X1_keep_5_9_56 n2 n (v5 + 1) (wr (wr p 25 3 s) 25 2 (jmax (p 25 2) (ap (p 19 1) (p 7 4))))) = z := by
      intro z
      rw [f_X1_keep_5_9_56_e, if_neg c, s1, bv_some, t1, bv_some, nm_is, jabs_siz, nm_is, ← es, nm_is]
      have q19 : (wr p 25 3 s) 19 1 = p 19 1 := rfl
      have q7 : (wr p 25 3 s) 7 4 = p 7 4 := rfl
      have q2 : (wr p 25 3 s) 25 2 = p 25 2 := rfl
      rw [q19, q7, q2, X_apart _ _ _ nk' g4, bd_some, nm_is, nm_is]
      unfold f_X1_keep_5_9_135
      rw [nm_is, nm_is]
    by_cases z : v5 ≤ n / 2
    · obtain ⟨x', m', k1, k2, k3⟩ := hsteps (wr p 25 3 s) (wr q 38 34 s) R1 rfl fk3 ft3
      refine ⟨x', m', (X1 _).mpr ?_, (M1 _).mpr ?_, k3⟩
      · rw [if_pos z]
        exact k1
      · rw [if_pos z]
        unfold f_X12_keep_192 f_X12_keep_196
        rw [nm_is, nm_is, wr_self]
        exact k2
    · by_cases z2 : ap (p 19 1) (p 7 4) ≤ p 25 2
      · have em : jmax (p 25 2) (ap (p 19 1) (p 7 4)) = p 25 2 := by rw [mx_c, if_pos z2]
        have ew : wr (wr p 25 3 s) 25 2 (p 25 2) = wr p 25 3 s := wr_self (wr p 25 3 s) 25 2
        obtain ⟨x', m', k1, k2, k3⟩ := hsteps (wr p 25 3 s) (wr q 38 34 s) R1 rfl fk3 ft3
        refine ⟨x', m', (X1 _).mpr ?_, (M1 _).mpr ?_, k3⟩
        · rw [if_neg z, em, ew]
          exact k1
        · rw [if_neg z, if_pos z2]
          unfold f_X12_keep_192 f_X12_keep_196
          rw [nm_is, nm_is, wr_self]
          exact k2
      · have em : jmax (p 25 2) (ap (p 19 1) (p 7 4)) = ap (p 19 1) (p 7 4) := by rw [mx_c, if_neg z2]
        obtain ⟨av, eav⟩ : ∃ av, av = ap (p 19 1) (p 7 4) := ⟨_, rfl⟩
        rw [← eav] at em z2 X1 M1
        obtain ⟨x', m', k1, k2, k3⟩ := hsteps (wr (wr p 25 3 s) 25 2 av) (wr (wr q 38 34 s) 38 33 av) (RTw_0 R1 rfl) rfl (fk3.tr (fun cc hc => wr_c (by unfold KW at hc; omega))) (ft3.tr (fun cc i hc => wr_ne (by unfold TW at hc; omega)))
        refine ⟨x', m', (X1 _).mpr ?_, (M1 _).mpr ?_, k3⟩
        · rw [if_neg z, em]
          exact k1
        · rw [if_neg z, if_neg z2]
          unfold f_X12_keep_196
          rw [nm_is, nm_is]
          exact k2
def RT_1 (x m : S2) (T : Int) (dead : Int32) : Prop := (m 39 4 = x 7 3 ∧ m 39 5 = x 7 5 ∧ m 39 6 = x 7 7 ∧ m 39 7 = x 7 6 ∧ m 40 1 = x 7 4 ∧ m 41 1 = x 7 8) ∧ (rg (x 7 3) (-89) 89 ∧ rg (x 7 5) 0 40 ∧ rg (x 7 7) 0 99 ∧ rg (x 7 6) (-35) 35 ∧ rg (x 7 4) 0 35999 ∧ rg (x 7 8) 0 T) ∧ PX x m 14 1 4 ∧ (rg (x 13 4) (-18000) 17999 ∧ rg (x 14 4) (-18000) 17999 ∧ rg (x 15 4) (-18000) 17999) ∧ (rg (m 44 0) 0 5 ∧ rg (m 44 1) 0 5 ∧ rg (m 44 2) 0 5) ∧ (m 43 = x 2 ∧ m 38 5 = x 1 1 ∧ rg (x 1 1) 0 24) ∧ m 52 = x 4 ∧ ((m 54 1 = x 20 1 ∧ m 54 2 = x 20 2 ∧ m 54 3 = x 20 3 ∧ m 54 4 = x 20 4 ∧ m 54 5 = x 20 5) ∧ RN (x 20) ∧ x 20 0 = dead ∧ x 20 5 = 1 ∧ m 38 20 = x 19 1 ∧ rg (x 19 1) 0 35999) ∧ ((x 19 2 = 0 ∧ m 42 1 = -1) ∨ (x 19 2 = 1 ∧ m 42 1 = x 19 3 ∧ rg (x 19 3) 0 35999)) ∧ (m 38 33 = x 25 2 ∧ m 38 34 = x 25 3)
theorem tickT_1 {x m : S2} {T : Int} {dead : Int32} (h : RT_1 x m T dead) (hT : T ≤ 1000000) : f_X7_tick_7 x = some (tkX_7 x) ∧ f_X12_tick 1 m = some (tkM_1 m) ∧ RT_1 (tkX_7 x) (tkM_1 m) (T + 1) dead ∧ FrK x (tkX_7 x) ∧ FrT m (tkM_1 m) ∧ (tkX_7 x) 25 = x 25 := by
  obtain ⟨⟨a0, a1, a2, a3, a4, a5⟩, ⟨r0, r1, r2, r3, r4, r5⟩, p0, ⟨o0, o1, o2⟩, ⟨k0, k1, k2⟩, ⟨s0, s1, s2⟩, d0, n0, l0, c0⟩ := h
  have ht : (m 39 7 * m 39 6 + yw (m 43) (m 41 1) (m 38 5)) = (x 7 6 * x 7 7 + yw (x 2) (x 7 8) (x 1 1)) := by rw [a2, a3, s0, a5, s1]
  have hh : (rnd (m 40 1 + (m 39 7 * m 39 6 + yw (m 43) (m 41 1) (m 38 5)))) = (rnd (x 7 4 + (x 7 6 * x 7 7 + yw (x 2) (x 7 8) (x 1 1)))) := by rw [ht, a4]
  have P0 : PX (tkX_7 x) (tkM_1 m) 14 1 4 := by
    obtain ⟨e0, e1, e2, e3, e4, e5, e6, e7, g0, g1, g2, g3, g4, g5, g6, g7⟩ := p0
    have ho : nO (m 44 1) (m 45 1) (m 46 1) (m 47 1) (m 48 4) (m 49 4) (m 39 4) (m 39 5) (rnd (m 40 1 + (m 39 7 * m 39 6 + yw (m 43) (m 41 1) (m 38 5)))) (m 39 7 * m 39 6 + yw (m 43) (m 41 1) (m 38 5)) = nO (x 14 0) (x 14 1) (x 14 2) (x 14 3) (x 14 4) (x 14 5) (x 7 3) (x 7 5) (rnd (x 7 4 + (x 7 6 * x 7 7 + yw (x 2) (x 7 8) (x 1 1)))) (x 7 6 * x 7 7 + yw (x 2) (x 7 8) (x 1 1)) := by rw [e0, e1, e2, e3, e4, e5, a0, a1, hh, ht]
    have hr : nR (m 44 1) (m 45 1) (m 46 1) (m 47 1) (m 48 4) (m 49 4) (m 39 4) (m 39 5) (rnd (m 40 1 + (m 39 7 * m 39 6 + yw (m 43) (m 41 1) (m 38 5)))) (m 39 7 * m 39 6 + yw (m 43) (m 41 1) (m 38 5)) = nR (x 14 0) (x 14 1) (x 14 2) (x 14 3) (x 14 4) (x 14 5) (x 7 3) (x 7 5) (rnd (x 7 4 + (x 7 6 * x 7 7 + yw (x 2) (x 7 8) (x 1 1)))) (x 7 6 * x 7 7 + yw (x 2) (x 7 8) (x 1 1)) := by rw [e0, e1, e2, e3, e4, e5, a0, a1, hh, ht]
    exact ⟨e0, e1, e2, e3, ho, hr, e6, e7, g0, g1, g2, g3, nO_rg g4, nR_rg g5, g6, g7⟩
  have htk : (x 7 8 + 1).toInt = (x 7 8).toInt + 1 := ti_add (by have := r5.1; show _ ≤ (x 7 8).toInt + 1; omega) (by have := r5.2; show (x 7 8).toInt + 1 ≤ _; omega)
  refine ⟨X_tick_7 x r0 r1 r5.1 s2 o0 o1 o2, M_tick_1 m (by rw [a0]; exact r0) (by rw [a5]; exact r5.1) (by rw [s1]; exact s2) k0 k1 k2, ⟨⟨a0, a1, a2, a3, hh, ?_⟩, ⟨r0, r1, r2, r3, rnd_rg _, ⟨?_, ?_⟩⟩, P0, ⟨nO_rg o0, nO_rg o1, nO_rg o2⟩, ⟨k0, k1, k2⟩, ⟨s0, s1, s2⟩, d0, n0, l0, c0⟩, ?_, ?_, rfl⟩
  · show m 41 1 + 1 = x 7 8 + 1
    rw [a5]
  · show 0 ≤ (x 7 8 + 1).toInt
    have := r5.1
    omega
  · show (x 7 8 + 1).toInt ≤ T + 1
    have := r5.2
    omega
  · intro c hc
    unfold KW at hc
    unfold tkX_7 pst
    rw [wr_c (by omega), up_c (by omega), up_c (by omega), up_c (by omega), wr_c (by omega)]
  · intro c i hc
    unfold TW at hc
    unfold tkM_1 mst
    rw [wr_ne (by omega), wr_ne (by omega), wr_ne (by omega), wr_ne (by omega), wr_ne (by omega), wr_ne (by omega), wr_ne (by omega), wr_ne (by omega)]
theorem steerTc_1 {x m : S2} {T : Int} {dead : Int32} (h : RT_1 x m T dead) {s s2 r r2 : Int32} (es : s2 = s) (er : r2 = r) (hs : rg s 0 35999) (hr : rg r (-35) 35) : RT_1 (wr (wr (wr x 19 2 1) 19 3 s) 7 6 r) (wr (wr m 42 1 s2) 39 7 r2) T dead := by
  obtain ⟨⟨a0, a1, a2, a3, a4, a5⟩, ⟨r0, r1, r2, r3, r4, r5⟩, p0, o0, k0, s0, d0, n0, l0, c0⟩ := h
  exact ⟨⟨a0, a1, a2, er, a4, a5⟩, ⟨r0, r1, r2, hr, r4, r5⟩, p0, o0, k0, s0, d0, n0, Or.inr ⟨rfl, es, hs⟩, c0⟩
theorem steerT_1 {x m : S2} {T : Int} {dead : Int32} (h : RT_1 x m T dead) : ∃ x' m', f_X0_steerShip_19_7 x = some x' ∧ f_X12_steer 1 dead m = some m' ∧ RT_1 x' m' T dead ∧ FrK x x' ∧ FrT m m' ∧ x' 25 = x 25 := by
  have hh0 := h
  obtain ⟨⟨a0, a1, a2, a3, a4, a5⟩, ⟨r0, r1, r2, r3, r4, r5⟩, p0, o0, k0, s0, d0, ⟨⟨n1, n2, n3, n4, n5⟩, nr, nd, nb, nc, nk⟩, l0, c0⟩ := h
  have pj := p0
  obtain ⟨e0, e1, e2, e3, e4, e5, e6, e7, g0, g1, g2, g3, g4, g5, g6, g7⟩ := pj
  have hX := X_steer_7_1 x nb r4 g7 nr nk (l0.elim (fun z => Or.inl z.1) (fun z => Or.inr z.2.2))
  have hM := M_steer_1_1 m dead (n5.trans nb) (by rw [a4]; exact r4) (by rw [e7]; exact g7) (by rw [n4]; exact nr.2.2.2.2.1.1)
  have hc : (m 41 1 - m 41 1 / m 54 4 * m 54 4 = 0) = (x 7 8 - x 7 8 / x 20 4 * x 20 4 = 0) := by rw [a5, n4]
  by_cases r : x 7 8 - x 7 8 / x 20 4 * x 20 4 = 0
  · rw [if_pos r] at hX
    rw [if_pos (by rw [hc]; exact r)] at hM
    have hs : (shw (m 44 1) (m 48 4) (m 50 1) (m 51 1) (m 40 1) (m 52)) = (shw (x 14 0) (x 14 4) (x 14 6) (x 14 7) (x 7 4) (x 4)) := by rw [e0, e4, e6, e7, a4, d0]
    have hr : rudr (m 54) dead (wrp (m 38 20 - (shw (m 44 1) (m 48 4) (m 50 1) (m 51 1) (m 40 1) (m 52)))) (if m 42 1 = -1 then 0 else wrp ((shw (m 44 1) (m 48 4) (m 50 1) (m 51 1) (m 40 1) (m 52)) - m 42 1)) = rudr (x 20) (x 20 0) (wrp (x 19 1 - (shw (x 14 0) (x 14 4) (x 14 6) (x 14 7) (x 7 4) (x 4)))) (if x 19 2 = 0 then 0 else wrp ((shw (x 14 0) (x 14 4) (x 14 6) (x 14 7) (x 7 4) (x 4)) - x 19 3)) := by
      rw [rudr_3 n1 n2 n3, nd, hs, nc]
      rcases l0 with ⟨z1, z2⟩ | ⟨z1, z2, z3⟩
      · rw [if_pos z2, if_pos z1]
      · rw [if_neg (by intro q; rw [z2] at q; rw [q] at z3; exact absurd z3.1 (by decide)), if_neg (by rw [z1]; decide), z2]
    unfold stX_7_1 at hX
    unfold stM_1_1 at hM
    refine ⟨_, _, hX, hM, steerTc_1 hh0 hs hr (shw_rg _ _ _ _ _ _) (rudr_rg nr.2.2.2.1), ?_, ?_, rfl⟩
    · intro c hc
      unfold KW at hc
      rw [wr_c (by omega), wr_c (by omega), wr_c (by omega)]
    · intro c i hc
      unfold TW at hc
      rw [wr_ne (by omega), wr_ne (by omega)]
  · rw [if_neg r] at hX
    rw [if_neg (by rw [hc]; exact r)] at hM
    exact ⟨x, m, hX, hM, hh0, FrK.refl _, FrT.refl _, rfl⟩
theorem RTd_1 {x m : S2} {T : Int} {dead s s2 : Int32} (h : RT_1 x m T dead) (es : s2 = s) : RT_1 (wr x 25 3 s) (wr m 38 34 s2) T dead := by
  obtain ⟨a, b, p0, o0, k0, s0, d0, n0, l0, c0⟩ := h
  exact ⟨a, b, p0, o0, k0, s0, d0, n0, l0, ⟨c0.1, es⟩⟩
theorem RTw_1 {x m : S2} {T : Int} {dead s s2 : Int32} (h : RT_1 x m T dead) (es : s2 = s) : RT_1 (wr x 25 2 s) (wr m 38 33 s2) T dead := by
  obtain ⟨a, b, p0, o0, k0, s0, d0, n0, l0, c0⟩ := h
  exact ⟨a, b, p0, o0, k0, s0, d0, n0, l0, ⟨es, c0.2⟩⟩
theorem keepT_1 (n dead : Int32) (hn : n.toInt ≤ 300) : ∀ (d N : Nat) (v5 : Int32) (x m : S2) (T : Int), RT_1 x m T dead → T + d ≤ 1000000 → 1 ≤ v5.toInt → v5.toInt + d = n.toInt + 1 → 0 ≤ (x 25 3).toInt → (x 25 3).toInt + 35 * d ≤ 10500 → d < N → ∃ x' m', f_X1_keep_5_9_56 N n v5 x = some x' ∧ f_X12_keep_116 N n dead v5 m = some m' ∧ m' 38 33 = x' 25 2 ∧ m' 38 34 = x' 25 3 ∧ rg (x' 25 3) 0 10500 ∧ FrK x x' ∧ FrT m m' := by
  intro d
  induction d with
  | zero =>
    intro N v5 x m T h hT h0 hv d1 d2 hN
    obtain ⟨n2, rfl⟩ : ∃ n2, N = n2 + 1 := ⟨N - 1, by omega⟩
    have c : n < v5 := ti_lt.mpr (by omega)
    have c0 := h.2.2.2.2.2.2.2.2.2
    refine ⟨x, m, ?_, ?_, c0.1, c0.2, ⟨d1, by omega⟩, FrK.refl _, FrT.refl _⟩
    · rw [f_X1_keep_5_9_56_e, if_pos c]
    · rw [f_X12_keep_116_e, if_pos c]
  | succ d ih =>
    intro N v5 x m T h hT h0 hv d1 d2 hN
    obtain ⟨n2, rfl⟩ : ∃ n2, N = n2 + 1 := ⟨N - 1, by omega⟩
    have hb := ti_rg n
    have c : ¬ n < v5 := fun z => by have := ti_lt.mp z; omega
    have e1 : (v5 + 1).toInt = v5.toInt + 1 := ti_add (by show _ ≤ v5.toInt + (1 : Int); omega) (by show v5.toInt + (1 : Int) ≤ _; omega)
    obtain ⟨y, w, s1, s2, s3, s4, s5, s6⟩ := steerT_1 h
    obtain ⟨t1, t2, t3, t4, t5, t6⟩ := tickT_1 s3 (by omega)
    obtain ⟨p, ep⟩ : ∃ p, p = tkX_7 y := ⟨_, rfl⟩
    obtain ⟨q, eq⟩ : ∃ q, q = tkM_1 w := ⟨_, rfl⟩
    rw [← ep] at t1 t3 t4 t6
    rw [← eq] at t2 t3 t5
    have p25 : p 25 = x 25 := t6.trans s6
    obtain ⟨⟨b0, b1, b2, b3, b4, b5⟩, ⟨g0, g1, g2, g3, g4, g5⟩, -, -, -, -, -, ⟨-, -, -, -, nc, nk⟩, -, ⟨c1, c2⟩⟩ := id t3
    obtain ⟨s, es⟩ : ∃ s, s = p 25 3 + siz (p 7 6) := ⟨_, rfl⟩
    have sz : 0 ≤ (siz (p 7 6)).toInt ∧ (siz (p 7 6)).toInt ≤ 35 := by
      have h1 := g3.1
      have h2 := g3.2
      rw [siz_ti (by omega)]
      split <;> omega
    have ts : s.toInt = (x 25 3).toInt + (siz (p 7 6)).toInt := by
      rw [es, p25]
      exact ti_add (by omega) (by omega)
    have es2 : q 38 34 + siz (q 39 7) = s := by rw [c2, b3, es]
    have R1 := RTd_1 (s := s) (s2 := s) t3 rfl
    have hsteps : ∀ (x3 m3 : S2), RT_1 x3 m3 (T + 1) dead → x3 25 3 = s → FrK p x3 → FrT q m3 → ∃ x' m', f_X1_keep_5_9_56 n2 n (v5 + 1) x3 = some x' ∧ f_X12_keep_116 n2 n dead (v5 + 1) m3 = some m' ∧ m' 38 33 = x' 25 2 ∧ m' 38 34 = x' 25 3 ∧ rg (x' 25 3) 0 10500 ∧ FrK x x' ∧ FrT m m' := by
      intro x3 m3 hR h3 f1 f2
      obtain ⟨x', m', k1, k2, k3, k4, k5, k6, k7⟩ := ih n2 (v5 + 1) x3 m3 (T + 1) hR (by omega) (by omega) (by omega) (by rw [h3]; omega) (by rw [h3]; omega) (by omega)
      exact ⟨x', m', k1, k2, k3, k4, k5, s4.tr (t4.tr (f1.tr k6)), s5.tr (t5.tr (f2.tr k7))⟩
    have fk3 : FrK p (wr p 25 3 s) := fun cc hc => wr_c (by unfold KW at hc; omega)
    have ft3 : FrT q (wr q 38 34 s) := fun cc i hc => wr_ne (by unfold TW at hc; omega)
    have nk' : rg (p 19 1) 0 35999 := nk
    have hcm : q 38 20 = p 19 1 := nc
    have hap : siz (wrp (q 38 20 - q 40 1)) = ap (p 19 1) (p 7 4) := by rw [hcm, b4]; rfl
    have M1 : ∀ z, f_X12_keep_116 (n2 + 1) n dead v5 m = z ↔ (if v5 ≤ n / 2 then f_X12_keep_192 (fun v1 v2 v3 u => f_X12_keep_116 n2 v1 v2 v3 u) n dead v5 (wr q 38 34 s) else (if ap (p 19 1) (p 7 4) ≤ p 25 2 then f_X12_keep_192 (fun v1 v2 v3 u => f_X12_keep_116 n2 v1 v2 v3 u) n dead v5 (wr q 38 34 s) else f_X12_keep_196 (fun v1 v2 v3 u => f_X12_keep_116 n2 v1 v2 v3 u) n dead v5 (ap (p 19 1) (p 7 4)) (wr q 38 34 s))) = z := by
      intro z
      rw [f_X12_keep_116_e, if_neg c, s2, bv_some, t2, bv_some, nm_is, M_size, bd_some, es2, nm_is, nm_is, nm_is]
      have q20 : (wr q 38 34 s) 38 20 = q 38 20 := rfl
      have q40 : (wr q 38 34 s) 40 1 = q 40 1 := rfl
      have q33 : (wr q 38 34 s) 38 33 = p 25 2 := c1
      rw [M_wrapped, bd_some, M_size, bd_some, q20, q40, hap, q33]
    have X1 : ∀ z, f_X1_keep_5_9_56 (n2 + 1) n v5 x = z ↔ (if v5 ≤ n / 2 then f_X1_keep_5_9_56 n2 n (v5 + 1) (wr p 25 3 s) else f_X1_keep_5_9_56 n2 n (v5 + 1) (wr (wr p 25 3 s) 25 2 (jmax (p 25 2) (ap (p 19 1) (p 7 4))))) = z := by
      intro z
      rw [f_X1_keep_5_9_56_e, if_neg c, s1, bv_some, t1, bv_some, nm_is, jabs_siz, nm_is, ← es, nm_is]
      have q19 : (wr p 25 3 s) 19 1 = p 19 1 := rfl
      have q7 : (wr p 25 3 s) 7 4 = p 7 4 := rfl
      have q2 : (wr p 25 3 s) 25 2 = p 25 2 := rfl
      rw [q19, q7, q2, X_apart _ _ _ nk' g4, bd_some, nm_is, nm_is]
      unfold f_X1_keep_5_9_135
      rw [nm_is, nm_is]
    by_cases z : v5 ≤ n / 2
    · obtain ⟨x', m', k1, k2, k3⟩ := hsteps (wr p 25 3 s) (wr q 38 34 s) R1 rfl fk3 ft3
      refine ⟨x', m', (X1 _).mpr ?_, (M1 _).mpr ?_, k3⟩
      · rw [if_pos z]
        exact k1
      · rw [if_pos z]
        unfold f_X12_keep_192 f_X12_keep_196
        rw [nm_is, nm_is, wr_self]
        exact k2
    · by_cases z2 : ap (p 19 1) (p 7 4) ≤ p 25 2
      · have em : jmax (p 25 2) (ap (p 19 1) (p 7 4)) = p 25 2 := by rw [mx_c, if_pos z2]
        have ew : wr (wr p 25 3 s) 25 2 (p 25 2) = wr p 25 3 s := wr_self (wr p 25 3 s) 25 2
        obtain ⟨x', m', k1, k2, k3⟩ := hsteps (wr p 25 3 s) (wr q 38 34 s) R1 rfl fk3 ft3
        refine ⟨x', m', (X1 _).mpr ?_, (M1 _).mpr ?_, k3⟩
        · rw [if_neg z, em, ew]
          exact k1
        · rw [if_neg z, if_pos z2]
          unfold f_X12_keep_192 f_X12_keep_196
          rw [nm_is, nm_is, wr_self]
          exact k2
      · have em : jmax (p 25 2) (ap (p 19 1) (p 7 4)) = ap (p 19 1) (p 7 4) := by rw [mx_c, if_neg z2]
        obtain ⟨av, eav⟩ : ∃ av, av = ap (p 19 1) (p 7 4) := ⟨_, rfl⟩
        rw [← eav] at em z2 X1 M1
        obtain ⟨x', m', k1, k2, k3⟩ := hsteps (wr (wr p 25 3 s) 25 2 av) (wr (wr q 38 34 s) 38 33 av) (RTw_1 R1 rfl) rfl (fk3.tr (fun cc hc => wr_c (by unfold KW at hc; omega))) (ft3.tr (fun cc i hc => wr_ne (by unfold TW at hc; omega)))
        refine ⟨x', m', (X1 _).mpr ?_, (M1 _).mpr ?_, k3⟩
        · rw [if_neg z, em]
          exact k1
        · rw [if_neg z, if_neg z2]
          unfold f_X12_keep_196
          rw [nm_is, nm_is]
          exact k2
def RT_2 (x m : S2) (T : Int) (dead : Int32) : Prop := (m 39 4 = x 7 3 ∧ m 39 5 = x 7 5 ∧ m 39 6 = x 7 7 ∧ m 39 7 = x 7 6 ∧ m 40 1 = x 7 4 ∧ m 41 1 = x 7 8) ∧ (rg (x 7 3) (-89) 89 ∧ rg (x 7 5) 0 40 ∧ rg (x 7 7) 0 99 ∧ rg (x 7 6) (-35) 35 ∧ rg (x 7 4) 0 35999 ∧ rg (x 7 8) 0 T) ∧ PX x m 15 2 5 ∧ (rg (x 13 4) (-18000) 17999 ∧ rg (x 14 4) (-18000) 17999 ∧ rg (x 15 4) (-18000) 17999) ∧ (rg (m 44 0) 0 5 ∧ rg (m 44 1) 0 5 ∧ rg (m 44 2) 0 5) ∧ (m 43 = x 2 ∧ m 38 5 = x 1 1 ∧ rg (x 1 1) 0 24) ∧ m 52 = x 4 ∧ ((m 54 1 = x 20 1 ∧ m 54 2 = x 20 2 ∧ m 54 3 = x 20 3 ∧ m 54 4 = x 20 4 ∧ m 54 5 = x 20 5) ∧ RN (x 20) ∧ x 20 0 = dead ∧ x 20 5 = 2 ∧ m 38 20 = x 19 1 ∧ rg (x 19 1) 0 35999) ∧ ((x 19 2 = 0 ∧ m 42 1 = -1) ∨ (x 19 2 = 1 ∧ m 42 1 = x 19 3 ∧ rg (x 19 3) 0 35999)) ∧ (m 38 33 = x 25 2 ∧ m 38 34 = x 25 3)
theorem tickT_2 {x m : S2} {T : Int} {dead : Int32} (h : RT_2 x m T dead) (hT : T ≤ 1000000) : f_X7_tick_7 x = some (tkX_7 x) ∧ f_X12_tick 1 m = some (tkM_1 m) ∧ RT_2 (tkX_7 x) (tkM_1 m) (T + 1) dead ∧ FrK x (tkX_7 x) ∧ FrT m (tkM_1 m) ∧ (tkX_7 x) 25 = x 25 := by
  obtain ⟨⟨a0, a1, a2, a3, a4, a5⟩, ⟨r0, r1, r2, r3, r4, r5⟩, p0, ⟨o0, o1, o2⟩, ⟨k0, k1, k2⟩, ⟨s0, s1, s2⟩, d0, n0, l0, c0⟩ := h
  have ht : (m 39 7 * m 39 6 + yw (m 43) (m 41 1) (m 38 5)) = (x 7 6 * x 7 7 + yw (x 2) (x 7 8) (x 1 1)) := by rw [a2, a3, s0, a5, s1]
  have hh : (rnd (m 40 1 + (m 39 7 * m 39 6 + yw (m 43) (m 41 1) (m 38 5)))) = (rnd (x 7 4 + (x 7 6 * x 7 7 + yw (x 2) (x 7 8) (x 1 1)))) := by rw [ht, a4]
  have P0 : PX (tkX_7 x) (tkM_1 m) 15 2 5 := by
    obtain ⟨e0, e1, e2, e3, e4, e5, e6, e7, g0, g1, g2, g3, g4, g5, g6, g7⟩ := p0
    have ho : nO (m 44 2) (m 45 2) (m 46 2) (m 47 2) (m 48 5) (m 49 5) (m 39 4) (m 39 5) (rnd (m 40 1 + (m 39 7 * m 39 6 + yw (m 43) (m 41 1) (m 38 5)))) (m 39 7 * m 39 6 + yw (m 43) (m 41 1) (m 38 5)) = nO (x 15 0) (x 15 1) (x 15 2) (x 15 3) (x 15 4) (x 15 5) (x 7 3) (x 7 5) (rnd (x 7 4 + (x 7 6 * x 7 7 + yw (x 2) (x 7 8) (x 1 1)))) (x 7 6 * x 7 7 + yw (x 2) (x 7 8) (x 1 1)) := by rw [e0, e1, e2, e3, e4, e5, a0, a1, hh, ht]
    have hr : nR (m 44 2) (m 45 2) (m 46 2) (m 47 2) (m 48 5) (m 49 5) (m 39 4) (m 39 5) (rnd (m 40 1 + (m 39 7 * m 39 6 + yw (m 43) (m 41 1) (m 38 5)))) (m 39 7 * m 39 6 + yw (m 43) (m 41 1) (m 38 5)) = nR (x 15 0) (x 15 1) (x 15 2) (x 15 3) (x 15 4) (x 15 5) (x 7 3) (x 7 5) (rnd (x 7 4 + (x 7 6 * x 7 7 + yw (x 2) (x 7 8) (x 1 1)))) (x 7 6 * x 7 7 + yw (x 2) (x 7 8) (x 1 1)) := by rw [e0, e1, e2, e3, e4, e5, a0, a1, hh, ht]
    exact ⟨e0, e1, e2, e3, ho, hr, e6, e7, g0, g1, g2, g3, nO_rg g4, nR_rg g5, g6, g7⟩
  have htk : (x 7 8 + 1).toInt = (x 7 8).toInt + 1 := ti_add (by have := r5.1; show _ ≤ (x 7 8).toInt + 1; omega) (by have := r5.2; show (x 7 8).toInt + 1 ≤ _; omega)
  refine ⟨X_tick_7 x r0 r1 r5.1 s2 o0 o1 o2, M_tick_1 m (by rw [a0]; exact r0) (by rw [a5]; exact r5.1) (by rw [s1]; exact s2) k0 k1 k2, ⟨⟨a0, a1, a2, a3, hh, ?_⟩, ⟨r0, r1, r2, r3, rnd_rg _, ⟨?_, ?_⟩⟩, P0, ⟨nO_rg o0, nO_rg o1, nO_rg o2⟩, ⟨k0, k1, k2⟩, ⟨s0, s1, s2⟩, d0, n0, l0, c0⟩, ?_, ?_, rfl⟩
  · show m 41 1 + 1 = x 7 8 + 1
    rw [a5]
  · show 0 ≤ (x 7 8 + 1).toInt
    have := r5.1
    omega
  · show (x 7 8 + 1).toInt ≤ T + 1
    have := r5.2
    omega
  · intro c hc
    unfold KW at hc
    unfold tkX_7 pst
    rw [wr_c (by omega), up_c (by omega), up_c (by omega), up_c (by omega), wr_c (by omega)]
  · intro c i hc
    unfold TW at hc
    unfold tkM_1 mst
    rw [wr_ne (by omega), wr_ne (by omega), wr_ne (by omega), wr_ne (by omega), wr_ne (by omega), wr_ne (by omega), wr_ne (by omega), wr_ne (by omega)]
theorem steerTc_2 {x m : S2} {T : Int} {dead : Int32} (h : RT_2 x m T dead) {s s2 r r2 : Int32} (es : s2 = s) (er : r2 = r) (hs : rg s 0 35999) (hr : rg r (-35) 35) : RT_2 (wr (wr (wr x 19 2 1) 19 3 s) 7 6 r) (wr (wr m 42 1 s2) 39 7 r2) T dead := by
  obtain ⟨⟨a0, a1, a2, a3, a4, a5⟩, ⟨r0, r1, r2, r3, r4, r5⟩, p0, o0, k0, s0, d0, n0, l0, c0⟩ := h
  exact ⟨⟨a0, a1, a2, er, a4, a5⟩, ⟨r0, r1, r2, hr, r4, r5⟩, p0, o0, k0, s0, d0, n0, Or.inr ⟨rfl, es, hs⟩, c0⟩
theorem steerT_2 {x m : S2} {T : Int} {dead : Int32} (h : RT_2 x m T dead) : ∃ x' m', f_X0_steerShip_19_7 x = some x' ∧ f_X12_steer 1 dead m = some m' ∧ RT_2 x' m' T dead ∧ FrK x x' ∧ FrT m m' ∧ x' 25 = x 25 := by
  have hh0 := h
  obtain ⟨⟨a0, a1, a2, a3, a4, a5⟩, ⟨r0, r1, r2, r3, r4, r5⟩, p0, o0, k0, s0, d0, ⟨⟨n1, n2, n3, n4, n5⟩, nr, nd, nb, nc, nk⟩, l0, c0⟩ := h
  have pj := p0
  obtain ⟨e0, e1, e2, e3, e4, e5, e6, e7, g0, g1, g2, g3, g4, g5, g6, g7⟩ := pj
  have hX := X_steer_7_2 x nb r4 g7 nr nk (l0.elim (fun z => Or.inl z.1) (fun z => Or.inr z.2.2))
  have hM := M_steer_1_2 m dead (n5.trans nb) (by rw [a4]; exact r4) (by rw [e7]; exact g7) (by rw [n4]; exact nr.2.2.2.2.1.1)
  have hc : (m 41 1 - m 41 1 / m 54 4 * m 54 4 = 0) = (x 7 8 - x 7 8 / x 20 4 * x 20 4 = 0) := by rw [a5, n4]
  by_cases r : x 7 8 - x 7 8 / x 20 4 * x 20 4 = 0
  · rw [if_pos r] at hX
    rw [if_pos (by rw [hc]; exact r)] at hM
    have hs : (shw (m 44 2) (m 48 5) (m 50 2) (m 51 2) (m 40 1) (m 52)) = (shw (x 15 0) (x 15 4) (x 15 6) (x 15 7) (x 7 4) (x 4)) := by rw [e0, e4, e6, e7, a4, d0]
    have hr : rudr (m 54) dead (wrp (m 38 20 - (shw (m 44 2) (m 48 5) (m 50 2) (m 51 2) (m 40 1) (m 52)))) (if m 42 1 = -1 then 0 else wrp ((shw (m 44 2) (m 48 5) (m 50 2) (m 51 2) (m 40 1) (m 52)) - m 42 1)) = rudr (x 20) (x 20 0) (wrp (x 19 1 - (shw (x 15 0) (x 15 4) (x 15 6) (x 15 7) (x 7 4) (x 4)))) (if x 19 2 = 0 then 0 else wrp ((shw (x 15 0) (x 15 4) (x 15 6) (x 15 7) (x 7 4) (x 4)) - x 19 3)) := by
      rw [rudr_3 n1 n2 n3, nd, hs, nc]
      rcases l0 with ⟨z1, z2⟩ | ⟨z1, z2, z3⟩
      · rw [if_pos z2, if_pos z1]
      · rw [if_neg (by intro q; rw [z2] at q; rw [q] at z3; exact absurd z3.1 (by decide)), if_neg (by rw [z1]; decide), z2]
    unfold stX_7_2 at hX
    unfold stM_1_2 at hM
    refine ⟨_, _, hX, hM, steerTc_2 hh0 hs hr (shw_rg _ _ _ _ _ _) (rudr_rg nr.2.2.2.1), ?_, ?_, rfl⟩
    · intro c hc
      unfold KW at hc
      rw [wr_c (by omega), wr_c (by omega), wr_c (by omega)]
    · intro c i hc
      unfold TW at hc
      rw [wr_ne (by omega), wr_ne (by omega)]
  · rw [if_neg r] at hX
    rw [if_neg (by rw [hc]; exact r)] at hM
    exact ⟨x, m, hX, hM, hh0, FrK.refl _, FrT.refl _, rfl⟩
theorem RTd_2 {x m : S2} {T : Int} {dead s s2 : Int32} (h : RT_2 x m T dead) (es : s2 = s) : RT_2 (wr x 25 3 s) (wr m 38 34 s2) T dead := by
  obtain ⟨a, b, p0, o0, k0, s0, d0, n0, l0, c0⟩ := h
  exact ⟨a, b, p0, o0, k0, s0, d0, n0, l0, ⟨c0.1, es⟩⟩
theorem RTw_2 {x m : S2} {T : Int} {dead s s2 : Int32} (h : RT_2 x m T dead) (es : s2 = s) : RT_2 (wr x 25 2 s) (wr m 38 33 s2) T dead := by
  obtain ⟨a, b, p0, o0, k0, s0, d0, n0, l0, c0⟩ := h
  exact ⟨a, b, p0, o0, k0, s0, d0, n0, l0, ⟨es, c0.2⟩⟩
theorem keepT_2 (n dead : Int32) (hn : n.toInt ≤ 300) : ∀ (d N : Nat) (v5 : Int32) (x m : S2) (T : Int), RT_2 x m T dead → T + d ≤ 1000000 → 1 ≤ v5.toInt → v5.toInt + d = n.toInt + 1 → 0 ≤ (x 25 3).toInt → (x 25 3).toInt + 35 * d ≤ 10500 → d < N → ∃ x' m', f_X1_keep_5_9_56 N n v5 x = some x' ∧ f_X12_keep_116 N n dead v5 m = some m' ∧ m' 38 33 = x' 25 2 ∧ m' 38 34 = x' 25 3 ∧ rg (x' 25 3) 0 10500 ∧ FrK x x' ∧ FrT m m' := by
  intro d
  induction d with
  | zero =>
    intro N v5 x m T h hT h0 hv d1 d2 hN
    obtain ⟨n2, rfl⟩ : ∃ n2, N = n2 + 1 := ⟨N - 1, by omega⟩
    have c : n < v5 := ti_lt.mpr (by omega)
    have c0 := h.2.2.2.2.2.2.2.2.2
    refine ⟨x, m, ?_, ?_, c0.1, c0.2, ⟨d1, by omega⟩, FrK.refl _, FrT.refl _⟩
    · rw [f_X1_keep_5_9_56_e, if_pos c]
    · rw [f_X12_keep_116_e, if_pos c]
  | succ d ih =>
    intro N v5 x m T h hT h0 hv d1 d2 hN
    obtain ⟨n2, rfl⟩ : ∃ n2, N = n2 + 1 := ⟨N - 1, by omega⟩
    have hb := ti_rg n
    have c : ¬ n < v5 := fun z => by have := ti_lt.mp z; omega
    have e1 : (v5 + 1).toInt = v5.toInt + 1 := ti_add (by show _ ≤ v5.toInt + (1 : Int); omega) (by show v5.toInt + (1 : Int) ≤ _; omega)
    obtain ⟨y, w, s1, s2, s3, s4, s5, s6⟩ := steerT_2 h
    obtain ⟨t1, t2, t3, t4, t5, t6⟩ := tickT_2 s3 (by omega)
    obtain ⟨p, ep⟩ : ∃ p, p = tkX_7 y := ⟨_, rfl⟩
    obtain ⟨q, eq⟩ : ∃ q, q = tkM_1 w := ⟨_, rfl⟩
    rw [← ep] at t1 t3 t4 t6
    rw [← eq] at t2 t3 t5
    have p25 : p 25 = x 25 := t6.trans s6
    obtain ⟨⟨b0, b1, b2, b3, b4, b5⟩, ⟨g0, g1, g2, g3, g4, g5⟩, -, -, -, -, -, ⟨-, -, -, -, nc, nk⟩, -, ⟨c1, c2⟩⟩ := id t3
    obtain ⟨s, es⟩ : ∃ s, s = p 25 3 + siz (p 7 6) := ⟨_, rfl⟩
    have sz : 0 ≤ (siz (p 7 6)).toInt ∧ (siz (p 7 6)).toInt ≤ 35 := by
      have h1 := g3.1
      have h2 := g3.2
      rw [siz_ti (by omega)]
      split <;> omega
    have ts : s.toInt = (x 25 3).toInt + (siz (p 7 6)).toInt := by
      rw [es, p25]
      exact ti_add (by omega) (by omega)
    have es2 : q 38 34 + siz (q 39 7) = s := by rw [c2, b3, es]
    have R1 := RTd_2 (s := s) (s2 := s) t3 rfl
    have hsteps : ∀ (x3 m3 : S2), RT_2 x3 m3 (T + 1) dead → x3 25 3 = s → FrK p x3 → FrT q m3 → ∃ x' m', f_X1_keep_5_9_56 n2 n (v5 + 1) x3 = some x' ∧ f_X12_keep_116 n2 n dead (v5 + 1) m3 = some m' ∧ m' 38 33 = x' 25 2 ∧ m' 38 34 = x' 25 3 ∧ rg (x' 25 3) 0 10500 ∧ FrK x x' ∧ FrT m m' := by
      intro x3 m3 hR h3 f1 f2
      obtain ⟨x', m', k1, k2, k3, k4, k5, k6, k7⟩ := ih n2 (v5 + 1) x3 m3 (T + 1) hR (by omega) (by omega) (by omega) (by rw [h3]; omega) (by rw [h3]; omega) (by omega)
      exact ⟨x', m', k1, k2, k3, k4, k5, s4.tr (t4.tr (f1.tr k6)), s5.tr (t5.tr (f2.tr k7))⟩
    have fk3 : FrK p (wr p 25 3 s) := fun cc hc => wr_c (by unfold KW at hc; omega)
    have ft3 : FrT q (wr q 38 34 s) := fun cc i hc => wr_ne (by unfold TW at hc; omega)
    have nk' : rg (p 19 1) 0 35999 := nk
    have hcm : q 38 20 = p 19 1 := nc
    have hap : siz (wrp (q 38 20 - q 40 1)) = ap (p 19 1) (p 7 4) := by rw [hcm, b4]; rfl
    have M1 : ∀ z, f_X12_keep_116 (n2 + 1) n dead v5 m = z ↔ (if v5 ≤ n / 2 then f_X12_keep_192 (fun v1 v2 v3 u => f_X12_keep_116 n2 v1 v2 v3 u) n dead v5 (wr q 38 34 s) else (if ap (p 19 1) (p 7 4) ≤ p 25 2 then f_X12_keep_192 (fun v1 v2 v3 u => f_X12_keep_116 n2 v1 v2 v3 u) n dead v5 (wr q 38 34 s) else f_X12_keep_196 (fun v1 v2 v3 u => f_X12_keep_116 n2 v1 v2 v3 u) n dead v5 (ap (p 19 1) (p 7 4)) (wr q 38 34 s))) = z := by
      intro z
      rw [f_X12_keep_116_e, if_neg c, s2, bv_some, t2, bv_some, nm_is, M_size, bd_some, es2, nm_is, nm_is, nm_is]
      have q20 : (wr q 38 34 s) 38 20 = q 38 20 := rfl
      have q40 : (wr q 38 34 s) 40 1 = q 40 1 := rfl
      have q33 : (wr q 38 34 s) 38 33 = p 25 2 := c1
      rw [M_wrapped, bd_some, M_size, bd_some, q20, q40, hap, q33]
    have X1 : ∀ z, f_X1_keep_5_9_56 (n2 + 1) n v5 x = z ↔ (if v5 ≤ n / 2 then f_X1_keep_5_9_56 n2 n (v5 + 1) (wr p 25 3 s) else f_X1_keep_5_9_56 n2 n (v5 + 1) (wr (wr p 25 3 s) 25 2 (jmax (p 25 2) (ap (p 19 1) (p 7 4))))) = z := by
      intro z
      rw [f_X1_keep_5_9_56_e, if_neg c, s1, bv_some, t1, bv_some, nm_is, jabs_siz, nm_is, ← es, nm_is]
      have q19 : (wr p 25 3 s) 19 1 = p 19 1 := rfl
      have q7 : (wr p 25 3 s) 7 4 = p 7 4 := rfl
      have q2 : (wr p 25 3 s) 25 2 = p 25 2 := rfl
      rw [q19, q7, q2, X_apart _ _ _ nk' g4, bd_some, nm_is, nm_is]
      unfold f_X1_keep_5_9_135
      rw [nm_is, nm_is]
    by_cases z : v5 ≤ n / 2
    · obtain ⟨x', m', k1, k2, k3⟩ := hsteps (wr p 25 3 s) (wr q 38 34 s) R1 rfl fk3 ft3
      refine ⟨x', m', (X1 _).mpr ?_, (M1 _).mpr ?_, k3⟩
      · rw [if_pos z]
        exact k1
      · rw [if_pos z]
        unfold f_X12_keep_192 f_X12_keep_196
        rw [nm_is, nm_is, wr_self]
        exact k2
    · by_cases z2 : ap (p 19 1) (p 7 4) ≤ p 25 2
      · have em : jmax (p 25 2) (ap (p 19 1) (p 7 4)) = p 25 2 := by rw [mx_c, if_pos z2]
        have ew : wr (wr p 25 3 s) 25 2 (p 25 2) = wr p 25 3 s := wr_self (wr p 25 3 s) 25 2
        obtain ⟨x', m', k1, k2, k3⟩ := hsteps (wr p 25 3 s) (wr q 38 34 s) R1 rfl fk3 ft3
        refine ⟨x', m', (X1 _).mpr ?_, (M1 _).mpr ?_, k3⟩
        · rw [if_neg z, em, ew]
          exact k1
        · rw [if_neg z, if_pos z2]
          unfold f_X12_keep_192 f_X12_keep_196
          rw [nm_is, nm_is, wr_self]
          exact k2
      · have em : jmax (p 25 2) (ap (p 19 1) (p 7 4)) = ap (p 19 1) (p 7 4) := by rw [mx_c, if_neg z2]
        obtain ⟨av, eav⟩ : ∃ av, av = ap (p 19 1) (p 7 4) := ⟨_, rfl⟩
        rw [← eav] at em z2 X1 M1
        obtain ⟨x', m', k1, k2, k3⟩ := hsteps (wr (wr p 25 3 s) 25 2 av) (wr (wr q 38 34 s) 38 33 av) (RTw_2 R1 rfl) rfl (fk3.tr (fun cc hc => wr_c (by unfold KW at hc; omega))) (ft3.tr (fun cc i hc => wr_ne (by unfold TW at hc; omega)))
        refine ⟨x', m', (X1 _).mpr ?_, (M1 _).mpr ?_, k3⟩
        · rw [if_neg z, em]
          exact k1
        · rw [if_neg z, if_neg z2]
          unfold f_X12_keep_196
          rw [nm_is, nm_is]
          exact k2
