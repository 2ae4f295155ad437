def PX (x m : S2) (k i a : Nat) : Prop := m 44 i = x k 0 ∧ m 45 i = x k 1 ∧ m 46 i = x k 2 ∧ m 47 i = x k 3 ∧ m 48 a = x k 4 ∧ m 49 a = x k 5 ∧ m 50 i = x k 6 ∧ m 51 i = x k 7 ∧ rg (x k 0) 0 5 ∧ rg (x k 1) 0 99 ∧ rg (x k 2) 0 99 ∧ rg (x k 3) 0 99 ∧ rg (x k 4) (-18000) 17999 ∧ rg (x k 5) (-9999) 9999 ∧ rg (x k 6) 0 40 ∧ rg (x k 7) (-89) 89
def RX (x m : S2) (T : Int) : Prop := (m 39 0 = x 5 3 ∧ m 39 1 = x 5 5 ∧ m 39 2 = x 5 7 ∧ m 39 3 = x 5 6 ∧ m 40 0 = x 5 4 ∧ m 41 0 = x 5 8) ∧ (rg (x 5 3) (-89) 89 ∧ rg (x 5 5) 0 40 ∧ rg (x 5 7) 0 99 ∧ rg (x 5 6) (-35) 35 ∧ rg (x 5 4) 0 35999 ∧ rg (x 5 8) 0 T) ∧ (PX x m 10 0 0 ∧ PX x m 11 1 1 ∧ PX x m 12 2 2) ∧ (m 43 = x 2 ∧ m 38 5 = x 1 1 ∧ rg (x 1 1) 0 24) ∧ m 52 = x 4 ∧ ((∀ j, j < 6 → m 54 j = x 18 j) ∧ RN (x 18) ∧ m 38 20 = x 9 1 ∧ rg (x 9 1) 0 35999) ∧ ((x 9 2 = 0 ∧ m 42 0 = -1) ∨ (x 9 2 = 1 ∧ m 42 0 = x 9 3 ∧ rg (x 9 3) 0 35999))
theorem RX_of {u : S2} (h : Rel u) : RX u u 5000 := by
  obtain ⟨h1, h2, h3, h4, h5, h6, h7, h8, h9⟩ := h
  obtain ⟨a1, a2, a3, a4, a5, a6, b1, b2, b3, b4, b5, b6⟩ := h1
  exact ⟨⟨a1, a2, a3, a4, a5, a6⟩, ⟨b1, b2, b3, b4, b5, b6⟩, h2, ⟨h3.1, h3.2.1, h3.2.2.1⟩, h4.1, ⟨h5.1, h5.2.1, h5.2.2.1, h5.2.2.2.1⟩, h5.2.2.2.2⟩
/-- cells of the reference that a run may write -/
def MW (c : Nat) : Prop := c = 39 ∨ c = 40 ∨ c = 41 ∨ c = 42 ∨ c = 48 ∨ c = 49
def XW (c : Nat) : Prop := c = 5 ∨ c = 9 ∨ c = 10 ∨ c = 11 ∨ c = 12
def FrX (x y : S2) : Prop := ∀ c, ¬ XW c → y c = x c
def FrM (x y : S2) : Prop := ∀ c, ¬ MW c → y c = x c
theorem RX_m {x m n : S2} {T : Int} (h : RX x m T) (e39 : n 39 = m 39) (e40 : n 40 = m 40) (e41 : n 41 = m 41) (e42 : n 42 = m 42) (e48 : n 48 = m 48) (e49 : n 49 = m 49) (e38 : n 38 = m 38) (e43 : n 43 = m 43) (e44 : n 44 = m 44) (e45 : n 45 = m 45) (e46 : n 46 = m 46) (e47 : n 47 = m 47) (e50 : n 50 = m 50) (e51 : n 51 = m 51) (e52 : n 52 = m 52) (e54 : n 54 = m 54) : RX x n T := by
  unfold RX PX
  rw [e39, e40, e41, e42, e48, e49, e38, e43, e44, e45, e46, e47, e50, e51, e52, e54]
  exact h
theorem RX_x {x y m : S2} {T : Int} (h : RX x m T) (e5 : y 5 = x 5) (e9 : y 9 = x 9) (e10 : y 10 = x 10) (e11 : y 11 = x 11) (e12 : y 12 = x 12) (e1 : y 1 = x 1) (e2 : y 2 = x 2) (e4 : y 4 = x 4) (e18 : y 18 = x 18) : RX y m T := by
  unfold RX PX
  rw [e5, e9, e10, e11, e12, e1, e2, e4, e18]
  exact h
theorem tick_rel {x m : S2} {T : Int} (h : RX x m T) (hT : T ≤ 1000000) : f_X7_tick_5 x = some (tkX_5 x) ∧ f_X12_tick 0 m = some (tkM_0 m) ∧ RX (tkX_5 x) (tkM_0 m) (T + 1) ∧ (tkX_5 x) 5 8 = x 5 8 + 1 ∧ FrX x (tkX_5 x) ∧ FrM m (tkM_0 m) := by
  obtain ⟨⟨a0, a1, a2, a3, a4, a5⟩, ⟨r0, r1, r2, r3, r4, r5⟩, ⟨p0, p1, p2⟩, ⟨s0, s1, s2⟩, d0, n0, l0⟩ := h
  have ht : (m 39 3 * m 39 2 + yw (m 43) (m 41 0) (m 38 5)) = (x 5 6 * x 5 7 + yw (x 2) (x 5 8) (x 1 1)) := by rw [a2, a3, s0, a5, s1]
  have hh : (rnd (m 40 0 + (m 39 3 * m 39 2 + yw (m 43) (m 41 0) (m 38 5)))) = (rnd (x 5 4 + (x 5 6 * x 5 7 + yw (x 2) (x 5 8) (x 1 1)))) := by rw [ht, a4]
  have P0 : PX (tkX_5 x) (tkM_0 m) 10 0 0 := by
    obtain ⟨e0, e1, e2, e3, e4, e5, e6, e7, g0, g1, g2, g3, g4, g5, g6, g7⟩ := p0
    have ho : nO (m 44 0) (m 45 0) (m 46 0) (m 47 0) (m 48 0) (m 49 0) (m 39 0) (m 39 1) (rnd (m 40 0 + (m 39 3 * m 39 2 + yw (m 43) (m 41 0) (m 38 5)))) (m 39 3 * m 39 2 + yw (m 43) (m 41 0) (m 38 5)) = nO (x 10 0) (x 10 1) (x 10 2) (x 10 3) (x 10 4) (x 10 5) (x 5 3) (x 5 5) (rnd (x 5 4 + (x 5 6 * x 5 7 + yw (x 2) (x 5 8) (x 1 1)))) (x 5 6 * x 5 7 + yw (x 2) (x 5 8) (x 1 1)) := by rw [e0, e1, e2, e3, e4, e5, a0, a1, hh, ht]
    have hr : nR (m 44 0) (m 45 0) (m 46 0) (m 47 0) (m 48 0) (m 49 0) (m 39 0) (m 39 1) (rnd (m 40 0 + (m 39 3 * m 39 2 + yw (m 43) (m 41 0) (m 38 5)))) (m 39 3 * m 39 2 + yw (m 43) (m 41 0) (m 38 5)) = nR (x 10 0) (x 10 1) (x 10 2) (x 10 3) (x 10 4) (x 10 5) (x 5 3) (x 5 5) (rnd (x 5 4 + (x 5 6 * x 5 7 + yw (x 2) (x 5 8) (x 1 1)))) (x 5 6 * x 5 7 + yw (x 2) (x 5 8) (x 1 1)) := by rw [e0, e1, e2, e3, e4, e5, a0, a1, hh, ht]
    exact ⟨e0, e1, e2, e3, ho, hr, e6, e7, g0, g1, g2, g3, nO_rg g4, nR_rg g5, g6, g7⟩
  have P1 : PX (tkX_5 x) (tkM_0 m) 11 1 1 := by
    obtain ⟨e0, e1, e2, e3, e4, e5, e6, e7, g0, g1, g2, g3, g4, g5, g6, g7⟩ := p1
    have ho : nO (m 44 1) (m 45 1) (m 46 1) (m 47 1) (m 48 1) (m 49 1) (m 39 0) (m 39 1) (rnd (m 40 0 + (m 39 3 * m 39 2 + yw (m 43) (m 41 0) (m 38 5)))) (m 39 3 * m 39 2 + yw (m 43) (m 41 0) (m 38 5)) = nO (x 11 0) (x 11 1) (x 11 2) (x 11 3) (x 11 4) (x 11 5) (x 5 3) (x 5 5) (rnd (x 5 4 + (x 5 6 * x 5 7 + yw (x 2) (x 5 8) (x 1 1)))) (x 5 6 * x 5 7 + yw (x 2) (x 5 8) (x 1 1)) := by rw [e0, e1, e2, e3, e4, e5, a0, a1, hh, ht]
    have hr : nR (m 44 1) (m 45 1) (m 46 1) (m 47 1) (m 48 1) (m 49 1) (m 39 0) (m 39 1) (rnd (m 40 0 + (m 39 3 * m 39 2 + yw (m 43) (m 41 0) (m 38 5)))) (m 39 3 * m 39 2 + yw (m 43) (m 41 0) (m 38 5)) = nR (x 11 0) (x 11 1) (x 11 2) (x 11 3) (x 11 4) (x 11 5) (x 5 3) (x 5 5) (rnd (x 5 4 + (x 5 6 * x 5 7 + yw (x 2) (x 5 8) (x 1 1)))) (x 5 6 * x 5 7 + yw (x 2) (x 5 8) (x 1 1)) := by rw [e0, e1, e2, e3, e4, e5, a0, a1, hh, ht]
    exact ⟨e0, e1, e2, e3, ho, hr, e6, e7, g0, g1, g2, g3, nO_rg g4, nR_rg g5, g6, g7⟩
  have P2 : PX (tkX_5 x) (tkM_0 m) 12 2 2 := by
    obtain ⟨e0, e1, e2, e3, e4, e5, e6, e7, g0, g1, g2, g3, g4, g5, g6, g7⟩ := p2
    have ho : nO (m 44 2) (m 45 2) (m 46 2) (m 47 2) (m 48 2) (m 49 2) (m 39 0) (m 39 1) (rnd (m 40 0 + (m 39 3 * m 39 2 + yw (m 43) (m 41 0) (m 38 5)))) (m 39 3 * m 39 2 + yw (m 43) (m 41 0) (m 38 5)) = nO (x 12 0) (x 12 1) (x 12 2) (x 12 3) (x 12 4) (x 12 5) (x 5 3) (x 5 5) (rnd (x 5 4 + (x 5 6 * x 5 7 + yw (x 2) (x 5 8) (x 1 1)))) (x 5 6 * x 5 7 + yw (x 2) (x 5 8) (x 1 1)) := by rw [e0, e1, e2, e3, e4, e5, a0, a1, hh, ht]
    have hr : nR (m 44 2) (m 45 2) (m 46 2) (m 47 2) (m 48 2) (m 49 2) (m 39 0) (m 39 1) (rnd (m 40 0 + (m 39 3 * m 39 2 + yw (m 43) (m 41 0) (m 38 5)))) (m 39 3 * m 39 2 + yw (m 43) (m 41 0) (m 38 5)) = nR (x 12 0) (x 12 1) (x 12 2) (x 12 3) (x 12 4) (x 12 5) (x 5 3) (x 5 5) (rnd (x 5 4 + (x 5 6 * x 5 7 + yw (x 2) (x 5 8) (x 1 1)))) (x 5 6 * x 5 7 + yw (x 2) (x 5 8) (x 1 1)) := by rw [e0, e1, e2, e3, e4, e5, a0, a1, hh, ht]
    exact ⟨e0, e1, e2, e3, ho, hr, e6, e7, g0, g1, g2, g3, nO_rg g4, nR_rg g5, g6, g7⟩
  have htk : (x 5 8 + 1).toInt = (x 5 8).toInt + 1 := ti_add (by have := r5.1; show _ ≤ (x 5 8).toInt + 1; omega) (by have := r5.2; show (x 5 8).toInt + 1 ≤ _; omega)
  refine ⟨X_tick_5 x r0 r1 r5.1 s2 p0.2.2.2.2.2.2.2.2.2.2.2.2.1 p1.2.2.2.2.2.2.2.2.2.2.2.2.1 p2.2.2.2.2.2.2.2.2.2.2.2.2.1, M_tick_0 m (by rw [a0]; exact r0) (by rw [a5]; exact r5.1) (by rw [s1]; exact s2) (by rw [p0.1]; exact p0.2.2.2.2.2.2.2.2.1) (by rw [p1.1]; exact p1.2.2.2.2.2.2.2.2.1) (by rw [p2.1]; exact p2.2.2.2.2.2.2.2.2.1), ⟨⟨a0, a1, a2, a3, hh, ?_⟩, ⟨r0, r1, r2, r3, rnd_rg _, ⟨?_, ?_⟩⟩, ⟨P0, P1, P2⟩, ⟨s0, s1, s2⟩, d0, n0, l0⟩, rfl, ?_, ?_⟩
  · show m 41 0 + 1 = x 5 8 + 1
    rw [a5]
  · show 0 ≤ (x 5 8 + 1).toInt
    have := r5.1
    omega
  · show (x 5 8 + 1).toInt ≤ T + 1
    have := r5.2
    omega
  · intro c hc
    unfold XW at hc
    unfold tkX_5 pst
    rw [wr_c (by omega), up_c (by omega), up_c (by omega), up_c (by omega), wr_c (by omega)]
  · intro c hc
    unfold MW at hc
    unfold tkM_0 mst
    rw [wr_c (by omega), wr_c (by omega), wr_c (by omega), wr_c (by omega), wr_c (by omega), wr_c (by omega), wr_c (by omega), wr_c (by omega)]
theorem steer_core {x m : S2} {T : Int} (h : RX x m T) {s s2 r r2 : Int32} (es : s2 = s) (er : r2 = r) (hs : rg s 0 35999) (hr : rg r (-35) 35) : RX (wr (wr (wr x 9 2 1) 9 3 s) 5 6 r) (wr (wr m 42 0 s2) 39 3 r2) T := by
  obtain ⟨⟨a0, a1, a2, a3, a4, a5⟩, ⟨r0, r1, r2, r3, r4, r5⟩, ⟨p0, p1, p2⟩, ⟨s0, s1, s2⟩, d0, ⟨n0, n1, n2, n3⟩, l0⟩ := h
  exact ⟨⟨a0, a1, a2, er, a4, a5⟩, ⟨r0, r1, r2, hr, r4, r5⟩, ⟨p0, p1, p2⟩, ⟨s0, s1, s2⟩, d0, ⟨n0, n1, n2, n3⟩, Or.inr ⟨rfl, es, hs⟩⟩
theorem steer_rel_0 {x m : S2} {T : Int} (h : RX x m T) (e : x 18 5 = 0) : ∃ x' m', f_X0_steerShip_9_5 x = some x' ∧ f_X12_steer 0 (m 54 0) m = some m' ∧ RX x' m' T ∧ x' 5 8 = x 5 8 ∧ FrX x x' ∧ FrM m m' := by
  have hh0 := h
  obtain ⟨⟨a0, a1, a2, a3, a4, a5⟩, ⟨r0, r1, r2, r3, r4, r5⟩, ⟨p0, p1, p2⟩, ⟨s0, s1, s2⟩, d0, ⟨n0, n1, n2, n3⟩, l0⟩ := h
  have pj := p0
  obtain ⟨e0, e1, e2, e3, e4, e5, e6, e7, g0, g1, g2, g3, g4, g5, g6, g7⟩ := pj
  have hX := X_steer_5_0 x e r4 g7 n1 n3 (l0.elim (fun z => Or.inl z.1) (fun z => Or.inr z.2.2))
  have hM := M_steer_0_0 m (m 54 0) ((n0 5 (by decide)).trans e) (by rw [a4]; exact r4) (by rw [e7]; exact g7) (by rw [n0 4 (by decide)]; exact n1.2.2.2.2.1.1)
  have hc : (m 41 0 - m 41 0 / m 54 4 * m 54 4 = 0) = (x 5 8 - x 5 8 / x 18 4 * x 18 4 = 0) := by rw [a5, n0 4 (by decide)]
  by_cases r : x 5 8 - x 5 8 / x 18 4 * x 18 4 = 0
  · rw [if_pos r] at hX
    rw [if_pos (by rw [hc]; exact r)] at hM
    have hs : (shw (m 44 0) (m 48 0) (m 50 0) (m 51 0) (m 40 0) (m 52)) = (shw (x 10 0) (x 10 4) (x 10 6) (x 10 7) (x 5 4) (x 4)) := by rw [e0, e4, e6, e7, a4, d0]
    have hr : rudr (m 54) (m 54 0) (wrp (m 38 20 - (shw (m 44 0) (m 48 0) (m 50 0) (m 51 0) (m 40 0) (m 52)))) (if m 42 0 = -1 then 0 else wrp ((shw (m 44 0) (m 48 0) (m 50 0) (m 51 0) (m 40 0) (m 52)) - m 42 0)) = rudr (x 18) (x 18 0) (wrp (x 9 1 - (shw (x 10 0) (x 10 4) (x 10 6) (x 10 7) (x 5 4) (x 4)))) (if x 9 2 = 0 then 0 else wrp ((shw (x 10 0) (x 10 4) (x 10 6) (x 10 7) (x 5 4) (x 4)) - x 9 3)) := by
      rw [rudr_c n0, n0 0 (by decide), hs, n2]
      rcases l0 with ⟨z1, z2⟩ | ⟨z1, z2, z3⟩
      · rw [if_pos z2, if_pos z1]
      · rw [if_neg (by intro q; rw [z2] at q; rw [q] at z3; exact absurd z3.1 (by decide)), if_neg (by rw [z1]; decide), z2]
    unfold stX_5_0 at hX
    unfold stM_0_0 at hM
    refine ⟨_, _, hX, hM, steer_core hh0 hs hr (shw_rg _ _ _ _ _ _) (rudr_rg n1.2.2.2.1), rfl, ?_, ?_⟩
    · intro c hc
      unfold XW at hc
      rw [wr_c (by omega), wr_c (by omega), wr_c (by omega)]
    · intro c hc
      unfold MW at hc
      rw [wr_c (by omega), wr_c (by omega)]
  · rw [if_neg r] at hX
    rw [if_neg (by rw [hc]; exact r)] at hM
    exact ⟨x, m, hX, hM, hh0, rfl, fun _ _ => rfl, fun _ _ => rfl⟩
theorem steer_rel_1 {x m : S2} {T : Int} (h : RX x m T) (e : x 18 5 = 1) : ∃ x' m', f_X0_steerShip_9_5 x = some x' ∧ f_X12_steer 0 (m 54 0) m = some m' ∧ RX x' m' T ∧ x' 5 8 = x 5 8 ∧ FrX x x' ∧ FrM m m' := by
  have hh0 := h
  obtain ⟨⟨a0, a1, a2, a3, a4, a5⟩, ⟨r0, r1, r2, r3, r4, r5⟩, ⟨p0, p1, p2⟩, ⟨s0, s1, s2⟩, d0, ⟨n0, n1, n2, n3⟩, l0⟩ := h
  have pj := p1
  obtain ⟨e0, e1, e2, e3, e4, e5, e6, e7, g0, g1, g2, g3, g4, g5, g6, g7⟩ := pj
  have hX := X_steer_5_1 x e r4 g7 n1 n3 (l0.elim (fun z => Or.inl z.1) (fun z => Or.inr z.2.2))
  have hM := M_steer_0_1 m (m 54 0) ((n0 5 (by decide)).trans e) (by rw [a4]; exact r4) (by rw [e7]; exact g7) (by rw [n0 4 (by decide)]; exact n1.2.2.2.2.1.1)
  have hc : (m 41 0 - m 41 0 / m 54 4 * m 54 4 = 0) = (x 5 8 - x 5 8 / x 18 4 * x 18 4 = 0) := by rw [a5, n0 4 (by decide)]
  by_cases r : x 5 8 - x 5 8 / x 18 4 * x 18 4 = 0
  · rw [if_pos r] at hX
    rw [if_pos (by rw [hc]; exact r)] at hM
    have hs : (shw (m 44 1) (m 48 1) (m 50 1) (m 51 1) (m 40 0) (m 52)) = (shw (x 11 0) (x 11 4) (x 11 6) (x 11 7) (x 5 4) (x 4)) := by rw [e0, e4, e6, e7, a4, d0]
    have hr : rudr (m 54) (m 54 0) (wrp (m 38 20 - (shw (m 44 1) (m 48 1) (m 50 1) (m 51 1) (m 40 0) (m 52)))) (if m 42 0 = -1 then 0 else wrp ((shw (m 44 1) (m 48 1) (m 50 1) (m 51 1) (m 40 0) (m 52)) - m 42 0)) = rudr (x 18) (x 18 0) (wrp (x 9 1 - (shw (x 11 0) (x 11 4) (x 11 6) (x 11 7) (x 5 4) (x 4)))) (if x 9 2 = 0 then 0 else wrp ((shw (x 11 0) (x 11 4) (x 11 6) (x 11 7) (x 5 4) (x 4)) - x 9 3)) := by
      rw [rudr_c n0, n0 0 (by decide), hs, n2]
      rcases l0 with ⟨z1, z2⟩ | ⟨z1, z2, z3⟩
      · rw [if_pos z2, if_pos z1]
      · rw [if_neg (by intro q; rw [z2] at q; rw [q] at z3; exact absurd z3.1 (by decide)), if_neg (by rw [z1]; decide), z2]
    unfold stX_5_1 at hX
    unfold stM_0_1 at hM
    refine ⟨_, _, hX, hM, steer_core hh0 hs hr (shw_rg _ _ _ _ _ _) (rudr_rg n1.2.2.2.1), rfl, ?_, ?_⟩
    · intro c hc
      unfold XW at hc
      rw [wr_c (by omega), wr_c (by omega), wr_c (by omega)]
    · intro c hc
      unfold MW at hc
      rw [wr_c (by omega), wr_c (by omega)]
  · rw [if_neg r] at hX
    rw [if_neg (by rw [hc]; exact r)] at hM
    exact ⟨x, m, hX, hM, hh0, rfl, fun _ _ => rfl, fun _ _ => rfl⟩
theorem steer_rel_2 {x m : S2} {T : Int} (h : RX x m T) (e : x 18 5 = 2) : ∃ x' m', f_X0_steerShip_9_5 x = some x' ∧ f_X12_steer 0 (m 54 0) m = some m' ∧ RX x' m' T ∧ x' 5 8 = x 5 8 ∧ FrX x x' ∧ FrM m m' := by
  have hh0 := h
  obtain ⟨⟨a0, a1, a2, a3, a4, a5⟩, ⟨r0, r1, r2, r3, r4, r5⟩, ⟨p0, p1, p2⟩, ⟨s0, s1, s2⟩, d0, ⟨n0, n1, n2, n3⟩, l0⟩ := h
  have pj := p2
  obtain ⟨e0, e1, e2, e3, e4, e5, e6, e7, g0, g1, g2, g3, g4, g5, g6, g7⟩ := pj
  have hX := X_steer_5_2 x e r4 g7 n1 n3 (l0.elim (fun z => Or.inl z.1) (fun z => Or.inr z.2.2))
  have hM := M_steer_0_2 m (m 54 0) ((n0 5 (by decide)).trans e) (by rw [a4]; exact r4) (by rw [e7]; exact g7) (by rw [n0 4 (by decide)]; exact n1.2.2.2.2.1.1)
  have hc : (m 41 0 - m 41 0 / m 54 4 * m 54 4 = 0) = (x 5 8 - x 5 8 / x 18 4 * x 18 4 = 0) := by rw [a5, n0 4 (by decide)]
  by_cases r : x 5 8 - x 5 8 / x 18 4 * x 18 4 = 0
  · rw [if_pos r] at hX
    rw [if_pos (by rw [hc]; exact r)] at hM
    have hs : (shw (m 44 2) (m 48 2) (m 50 2) (m 51 2) (m 40 0) (m 52)) = (shw (x 12 0) (x 12 4) (x 12 6) (x 12 7) (x 5 4) (x 4)) := by rw [e0, e4, e6, e7, a4, d0]
    have hr : rudr (m 54) (m 54 0) (wrp (m 38 20 - (shw (m 44 2) (m 48 2) (m 50 2) (m 51 2) (m 40 0) (m 52)))) (if m 42 0 = -1 then 0 else wrp ((shw (m 44 2) (m 48 2) (m 50 2) (m 51 2) (m 40 0) (m 52)) - m 42 0)) = rudr (x 18) (x 18 0) (wrp (x 9 1 - (shw (x 12 0) (x 12 4) (x 12 6) (x 12 7) (x 5 4) (x 4)))) (if x 9 2 = 0 then 0 else wrp ((shw (x 12 0) (x 12 4) (x 12 6) (x 12 7) (x 5 4) (x 4)) - x 9 3)) := by
      rw [rudr_c n0, n0 0 (by decide), hs, n2]
      rcases l0 with ⟨z1, z2⟩ | ⟨z1, z2, z3⟩
      · rw [if_pos z2, if_pos z1]
      · rw [if_neg (by intro q; rw [z2] at q; rw [q] at z3; exact absurd z3.1 (by decide)), if_neg (by rw [z1]; decide), z2]
    unfold stX_5_2 at hX
    unfold stM_0_2 at hM
    refine ⟨_, _, hX, hM, steer_core hh0 hs hr (shw_rg _ _ _ _ _ _) (rudr_rg n1.2.2.2.1), rfl, ?_, ?_⟩
    · intro c hc
      unfold XW at hc
      rw [wr_c (by omega), wr_c (by omega), wr_c (by omega)]
    · intro c hc
      unfold MW at hc
      rw [wr_c (by omega), wr_c (by omega)]
  · rw [if_neg r] at hX
    rw [if_neg (by rw [hc]; exact r)] at hM
    exact ⟨x, m, hX, hM, hh0, rfl, fun _ _ => rfl, fun _ _ => rfl⟩
theorem by3 {v : Int32} (h : rg v 0 2) : v = 0 ∨ v = 1 ∨ v = 2 := by
  obtain ⟨a, b⟩ := h
  rcases (show v.toInt = 0 ∨ v.toInt = 1 ∨ v.toInt = 2 by omega) with e | e | e
  · exact Or.inl (ti_ext e)
  · exact Or.inr (Or.inl (ti_ext e))
  · exact Or.inr (Or.inr (ti_ext e))
theorem steer_rel {x m : S2} {T : Int} (h : RX x m T) : ∃ x' m', f_X0_steerShip_9_5 x = some x' ∧ f_X12_steer 0 (m 54 0) m = some m' ∧ RX x' m' T ∧ x' 5 8 = x 5 8 ∧ FrX x x' ∧ FrM m m' := by
  have n1 := h.2.2.2.2.2.1.2.1
  rcases by3 n1.2.2.2.2.2 with e | e | e
  · exact steer_rel_0 h e
  · exact steer_rel_1 h e
  · exact steer_rel_2 h e
theorem FrX.tr {x y z : S2} (h : FrX x y) (h2 : FrX y z) : FrX x z := fun c hc => (h2 c hc).trans (h c hc)
theorem FrM.tr {x y z : S2} (h : FrM x y) (h2 : FrM y z) : FrM x z := fun c hc => (h2 c hc).trans (h c hc)
theorem run_rel (v1 v2 : Int32) : ∀ (d N : Nat) (v3 : Int32) (x m : S2) (T : Int), RX x m T → T + d ≤ 1000000 → 0 ≤ v3.toInt → v3.toInt + d = v1.toInt → d < N → ∃ x' m', f_X11_run_31 N v1 v2 v3 x = some (x' 5 4, x') ∧ f_X12_run_31 N v1 v2 v3 m = some (m' 40 0, m') ∧ RX x' m' (T + d) ∧ (x' 5 8).toInt = (x 5 8).toInt + d ∧ FrX x x' ∧ FrM m m' := by
  intro d
  induction d with
  | zero =>
    intro N v3 x m T h hT h0 hv hN
    obtain ⟨n, rfl⟩ : ∃ n, N = n + 1 := ⟨N - 1, by omega⟩
    have c : v1 ≤ v3 := ti_le.mpr (by omega)
    refine ⟨x, m, ?_, ?_, ?_, by omega, fun _ _ => rfl, fun _ _ => rfl⟩
    · rw [f_X11_run_31_e, if_pos c]
      rfl
    · rw [f_X12_run_31_e, if_pos c]
      rfl
    · have e : T + ((0 : Nat) : Int) = T := by omega
      rw [e]
      exact h
  | succ d ih =>
    intro N v3 x m T h hT h0 hv hN
    obtain ⟨n, rfl⟩ : ∃ n, N = n + 1 := ⟨N - 1, by omega⟩
    have hb := ti_rg v1
    have c : ¬ v1 ≤ v3 := fun z => by have := ti_le.mp z; omega
    have e1 : (v3 + 1).toInt = v3.toInt + 1 := ti_add (by show _ ≤ v3.toInt + (1 : Int); omega) (by show v3.toInt + (1 : Int) ≤ _; omega)
    have one : ∀ (y n2 : S2), RX y n2 T → (y 5 8).toInt = (x 5 8).toInt → FrX x y → FrM m n2 → ∃ x' m', f_X11_run_51 (fun v1 v2 v3 u => f_X11_run_31 n v1 v2 v3 u) v1 v2 v3 y = some (x' 5 4, x') ∧ f_X12_run_51 (fun v1 v2 v3 u => f_X12_run_31 n v1 v2 v3 u) v1 v2 v3 n2 = some (m' 40 0, m') ∧ RX x' m' (T + ((d + 1 : Nat) : Int)) ∧ (x' 5 8).toInt = (x 5 8).toInt + ((d + 1 : Nat) : Int) ∧ FrX x x' ∧ FrM m m' := by
      intro y n2 hy h8 f1 f2
      obtain ⟨t1, t2, t3, t4, t5, t6⟩ := tick_rel hy (by omega)
      obtain ⟨x', m', k1, k2, k3, k4, k5, k6⟩ := ih n (v3 + 1) _ _ _ t3 (by omega) (by omega) (by omega) (by omega)
      refine ⟨x', m', ?_, ?_, ?_, ?_, f1.tr (t5.tr k5), f2.tr (t6.tr k6)⟩
      · unfold f_X11_run_51
        rw [t1, bv_some, nm_is]
        exact k1
      · unfold f_X12_run_51
        rw [t2, bv_some, nm_is]
        exact k2
      · have e : T + ((d + 1 : Nat) : Int) = T + 1 + (d : Int) := by omega
        rw [e]
        exact k3
      · have r5 := hy.2.1.2.2.2.2.2
        have e8 : (y 5 8 + 1).toInt = (y 5 8).toInt + 1 := ti_add (by have := r5.1; show _ ≤ _ + (1 : Int); omega) (by have := r5.2; show _ + (1 : Int) ≤ _; omega)
        rw [k4, t4, e8, h8]
        omega
    by_cases z : v2 = 0
    · obtain ⟨x', m', k1, k2, k3, k4, k5, k6⟩ := one x m h rfl (fun _ _ => rfl) (fun _ _ => rfl)
      refine ⟨x', m', ?_, ?_, k3, k4, k5, k6⟩
      · rw [f_X11_run_31_e, if_neg c, if_pos z]
        exact k1
      · rw [f_X12_run_31_e, if_neg c, if_pos z]
        exact k2
    · obtain ⟨y, n2, s1, s2, s3, s4, s5, s6⟩ := steer_rel h
      obtain ⟨x', m', k1, k2, k3, k4, k5, k6⟩ := one y n2 s3 (by rw [s4]) s5 s6
      refine ⟨x', m', ?_, ?_, k3, k4, k5, k6⟩
      · rw [f_X11_run_31_e, if_neg c, if_neg z, s1, bv_some]
        exact k1
      · rw [f_X12_run_31_e, if_neg c, if_neg z, nm_is, s2, bv_some]
        exact k2
theorem xw_no {c : Nat} (h : ¬ (c = 5 ∨ c = 9 ∨ c = 10 ∨ c = 11 ∨ c = 12)) : ¬ XW c := h
theorem mw_no {c : Nat} (h : ¬ (c = 39 ∨ c = 40 ∨ c = 41 ∨ c = 42 ∨ c = 48 ∨ c = 49)) : ¬ MW c := h
theorem s_run : St_2 f_X11_run f_X12_run Rel := by
  intro a b u h
  have hh := h
  by_cases c : inR a 1 500 = 0
  · exact ⟨-3, u, u, by unfold f_X11_run; rw [L_isWithin, bd_some, if_pos c], by unfold f_X12_run; rw [L_in_1_500, bd_some, if_pos c], hh⟩
  have ra : rg a 1 500 := inR_rg c
  have hx := RX_of h
  have e41 : u 41 0 = u 5 8 := hx.1.2.2.2.2.2
  by_cases c5 : u 5 8 + a ≤ 5000
  · obtain ⟨d, hd⟩ : ∃ d : Nat, (d : Int) = a.toInt := ⟨a.toInt.toNat, by have := ra.1; omega⟩
    have hd5 : d ≤ 500 := by have := ra.2; omega
    have r5 := hx.2.1.2.2.2.2.2
    have c5' : (u 5 8).toInt + d ≤ 5000 := by
      have e := ti_add (a := u 5 8) (b := a) (by have := r5.1; have := ra.1; omega) (by have := r5.2; have := ra.2; omega)
      have q : (u 5 8 + a).toInt ≤ 5000 := ti_le.mp c5
      omega
    obtain ⟨x', m0, k1, -, -, -, k5, -⟩ := run_rel a b d FUEL 0 u u 5000 hx (by omega) (by decide) (by show (0 : Int) + _ = _; omega) (by show d < 1000; omega)
    have hxm : RX u x' 5000 := RX_m hx (k5 39 (by unfold XW; decide)) (k5 40 (by unfold XW; decide)) (k5 41 (by unfold XW; decide)) (k5 42 (by unfold XW; decide)) (k5 48 (by unfold XW; decide)) (k5 49 (by unfold XW; decide)) (k5 38 (by unfold XW; decide)) (k5 43 (by unfold XW; decide)) (k5 44 (by unfold XW; decide)) (k5 45 (by unfold XW; decide)) (k5 46 (by unfold XW; decide)) (k5 47 (by unfold XW; decide)) (k5 50 (by unfold XW; decide)) (k5 51 (by unfold XW; decide)) (k5 52 (by unfold XW; decide)) (k5 54 (by unfold XW; decide))
    obtain ⟨x2, m', j1, j2, j3, j4, -, j6⟩ := run_rel a b d FUEL 0 u x' 5000 hxm (by omega) (by decide) (by show (0 : Int) + _ = _; omega) (by show d < 1000; omega)
    have ex : x2 = x' := pr2 (j1.symm.trans k1)
    subst ex
    have fin : RX m' m' (5000 + d) := RX_x j3 (j6 5 (by unfold MW; decide)) (j6 9 (by unfold MW; decide)) (j6 10 (by unfold MW; decide)) (j6 11 (by unfold MW; decide)) (j6 12 (by unfold MW; decide)) (j6 1 (by unfold MW; decide)) (j6 2 (by unfold MW; decide)) (j6 4 (by unfold MW; decide)) (j6 18 (by unfold MW; decide))
    have fr : ∀ cc, ¬ XW cc → ¬ MW cc → m' cc = u cc := fun cc p q => (j6 cc q).trans (k5 cc p)
    have ft : ∀ cc, ¬ (cc = 5 ∨ cc = 9 ∨ cc = 10 ∨ cc = 11 ∨ cc = 12 ∨ cc = 39 ∨ cc = 40 ∨ cc = 41 ∨ cc = 42 ∨ cc = 48 ∨ cc = 49) → m' cc = u cc := fun cc p => fr cc (by unfold XW; omega) (by unfold MW; omega)
    obtain ⟨h1, h2, h3, h4, h5, h6, h7, h8, h9⟩ := h
    obtain ⟨⟨a0, a1, a2, a3, a4, a5⟩, ⟨r0, r1, r2, r3, r4, r6⟩, pp, ss, dd, ⟨n0, n1, n2, n3⟩, l0⟩ := fin
    have t8 : (m' 5 8).toInt ≤ 5000 := by
      rw [j6 5 (by unfold MW; decide), j4]
      omega
    refine ⟨x2 5 4, x2, m', ?_, ?_, ⟨⟨a0, a1, a2, a3, a4, a5, r0, r1, r2, r3, r4, ⟨r6.1, t8⟩⟩, pp, R3_of h3 (ft 43 (by decide)) (ft 2 (by decide)) (by rw [ft 38 (by decide)]) (by rw [ft 1 (by decide)]), R4_of h4 (ft 52 (by decide)) (ft 4 (by decide)), ⟨n0, n1, n2, n3, l0⟩, R6_of h6 (ft 53 (by decide)) (ft 22 (by decide)) (by rw [ft 38 (by decide)]) (by rw [ft 21 (by decide)]), R7_of h7 (ft 56 (by decide)) (ft 27 (by decide)) (by rw [ft 38 (by decide)]) (by rw [ft 26 (by decide)]), R8_of h8 (ft 57 (by decide)) (ft 58 (by decide)) (by rw [ft 38 (by decide)]) (by rw [ft 28 (by decide)]) (ft 29 (by decide)) (ft 30 (by decide)) (ft 31 (by decide)), R9_of h9 (ft 59 (by decide)) (ft 60 (by decide)) (by rw [ft 38 (by decide)]) (by rw [ft 32 (by decide)]) (ft 33 (by decide)) (ft 34 (by decide))⟩⟩
    · unfold f_X11_run
      rw [L_isWithin, bd_some, if_neg c, if_pos c5]
      exact k1
    · unfold f_X12_run
      have q : x2 41 0 = u 5 8 := by rw [k5 41 (by unfold XW; decide)]; exact e41
      rw [L_in_1_500, bd_some, if_neg c, nm_is, q, if_pos c5, j2]
      have e : m' 40 0 = x2 5 4 := j3.1.2.2.2.2.1
      rw [e]
  · refine ⟨-3, u, u, ?_, ?_, hh⟩
    · unfold f_X11_run
      rw [L_isWithin, bd_some, if_neg c, if_neg c5]
    · unfold f_X12_run
      rw [L_in_1_500, bd_some, if_neg c, nm_is, e41, if_neg c5]
