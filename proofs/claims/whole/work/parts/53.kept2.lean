theorem keepR_0 (n dead : Int32) (u m : S2) (h : RX u m 5000) (hn : rg n 1 300) (hd : rg dead 0 999) (e5 : u 18 5 = 0) : ∃ x' m', f_X1_keep_5_9 n dead u = some x' ∧ f_X12_keep n dead m = some m' ∧ m' 38 33 = x' 25 2 ∧ m' 38 34 = x' 25 3 ∧ rg (x' 25 3) 0 10500 ∧ FrK u x' ∧ FrT m m' := by
  obtain ⟨⟨a0, a1, a2, a3, a4, a5⟩, ⟨r0, r1, r2, r3, r4, r5⟩, ⟨p0, p1, p2⟩, ⟨s0, s1, s2⟩, d0, ⟨n0, n1, n2, n3⟩, l0⟩ := h
  have hb : isB (u 9 2) = true := by
    rcases l0 with ⟨z, -⟩ | ⟨z, -⟩
    · rw [z]
      rfl
    · rw [z]
      rfl
  obtain ⟨x, x1, ⟨x2, x3, x4, x5, x6, x7⟩, xp, ⟨xo0, xo1, xo2⟩, ⟨xd, xn⟩, ⟨xh1, xh2, xh3⟩, xw, xe, fk⟩ := X_keep0 n dead u hb 0 (by decide) e5
  obtain ⟨w, w1, ⟨w2, w3, w4, w5, w6, w7⟩, ⟨v0, v1, v2⟩, ⟨y0, y1, y2⟩, w42, w33, w34, ft⟩ := M_keep0 n dead m
  have cm : ∀ c, c ≠ 38 → c ≠ 39 → c ≠ 40 → c ≠ 41 → c ≠ 42 → c ≠ 48 → c ≠ 49 → w c = m c := fun c q1 q2 q3 q4 q5 q6 q7 => ft.cell c (fun i => by unfold TW; omega)
  have cx : ∀ c, c ≠ 7 → c ≠ 13 → c ≠ 14 → c ≠ 15 → c ≠ 19 → c ≠ 20 → c ≠ 25 → x c = u c := fun c q1 q2 q3 q4 q5 q6 q7 => fk c (by unfold KW; omega)
  have w44 : w 44 = m 44 := cm 44 (by decide) (by decide) (by decide) (by decide) (by decide) (by decide) (by decide)
  have w45 : w 45 = m 45 := cm 45 (by decide) (by decide) (by decide) (by decide) (by decide) (by decide) (by decide)
  have w46 : w 46 = m 46 := cm 46 (by decide) (by decide) (by decide) (by decide) (by decide) (by decide) (by decide)
  have w47 : w 47 = m 47 := cm 47 (by decide) (by decide) (by decide) (by decide) (by decide) (by decide) (by decide)
  have w50 : w 50 = m 50 := cm 50 (by decide) (by decide) (by decide) (by decide) (by decide) (by decide) (by decide)
  have w51 : w 51 = m 51 := cm 51 (by decide) (by decide) (by decide) (by decide) (by decide) (by decide) (by decide)
  have w52 : w 52 = m 52 := cm 52 (by decide) (by decide) (by decide) (by decide) (by decide) (by decide) (by decide)
  have w43 : w 43 = m 43 := cm 43 (by decide) (by decide) (by decide) (by decide) (by decide) (by decide) (by decide)
  have w54 : w 54 = m 54 := cm 54 (by decide) (by decide) (by decide) (by decide) (by decide) (by decide) (by decide)
  have w385 : w 38 5 = m 38 5 := ft 38 5 (by unfold TW; omega)
  have w3820 : w 38 20 = m 38 20 := ft 38 20 (by unfold TW; omega)
  have cx1 : x 1 = u 1 := cx 1 (by decide) (by decide) (by decide) (by decide) (by decide) (by decide) (by decide)
  have cx2 : x 2 = u 2 := cx 2 (by decide) (by decide) (by decide) (by decide) (by decide) (by decide) (by decide)
  have cx4 : x 4 = u 4 := cx 4 (by decide) (by decide) (by decide) (by decide) (by decide) (by decide) (by decide)
  have xp' : ∀ j, j < 8 → x 13 j = u 10 j := xp
  have g40 := p0.2.2.2.2.2.2.2.2.2.2.2.2.1
  have g41 := p1.2.2.2.2.2.2.2.2.2.2.2.2.1
  have g42 := p2.2.2.2.2.2.2.2.2.2.2.2.2.1
  have k0 : rg (m 44 0) 0 5 := by rw [p0.1]; exact p0.2.2.2.2.2.2.2.2.1
  have k1 : rg (m 44 1) 0 5 := by rw [p1.1]; exact p1.2.2.2.2.2.2.2.2.1
  have k2 : rg (m 44 2) 0 5 := by rw [p2.1]; exact p2.2.2.2.2.2.2.2.2.1
  obtain ⟨f0, f1, f2, f3, f4, f5, f6, f7, g0, g1, g2, g3, g4, g5, g6, g7⟩ := p0
  have hP : PX x w 13 0 3 := by
    unfold PX
    rw [w44, w45, w46, w47, w50, w51, v0, y0, xp' 0 (by decide), xp' 1 (by decide), xp' 2 (by decide), xp' 3 (by decide), xp' 4 (by decide), xp' 5 (by decide), xp' 6 (by decide), xp' 7 (by decide)]
    exact ⟨f0, f1, f2, f3, f4, f5, f6, f7, g0, g1, g2, g3, g4, g5, g6, g7⟩
  obtain ⟨t0, t1, t2, t3, t4, t5⟩ := n1
  have hR : RT_0 x w 5000 dead := by
    refine ⟨⟨?_, ?_, ?_, ?_, ?_, ?_⟩, ⟨?_, ?_, ?_, ?_, ?_, ?_⟩, hP, ⟨?_, ?_, ?_⟩, ⟨?_, ?_, ?_⟩, ⟨?_, ?_, ?_⟩, ?_, ⟨⟨?_, ?_, ?_, ?_, ?_⟩, ⟨?_, ?_, ?_, ?_, ?_, ?_⟩, xd, ?_, ?_, ?_⟩, ?_, ⟨?_, ?_⟩⟩
    · rw [w2, x2]; exact a0
    · rw [w3, x4]; exact a1
    · rw [w4, x6]; exact a2
    · rw [w5, x5]; exact a3
    · rw [w6, x3]; exact a4
    · rw [w7, x7]; exact a5
    · rw [x2]; exact r0
    · rw [x4]; exact r1
    · rw [x6]; exact r2
    · rw [x5]; exact r3
    · rw [x3]; exact r4
    · rw [x7]; exact r5
    · rw [xo0]; exact g40
    · rw [xo1]; exact g41
    · rw [xo2]; exact g42
    · rw [w44]; exact k0
    · rw [w44]; exact k1
    · rw [w44]; exact k2
    · rw [w43, cx2]; exact s0
    · rw [w385, cx1]; exact s1
    · rw [cx1]; exact s2
    · rw [w52, cx4]; exact d0
    · rw [w54, xn 1 (by decide) (by decide)]; exact n0 1 (by decide)
    · rw [w54, xn 2 (by decide) (by decide)]; exact n0 2 (by decide)
    · rw [w54, xn 3 (by decide) (by decide)]; exact n0 3 (by decide)
    · rw [w54, xn 4 (by decide) (by decide)]; exact n0 4 (by decide)
    · rw [w54, xn 5 (by decide) (by decide)]; exact n0 5 (by decide)
    · rw [xd]; exact hd
    · rw [xn 1 (by decide) (by decide)]; exact t1
    · rw [xn 2 (by decide) (by decide)]; exact t2
    · rw [xn 3 (by decide) (by decide)]; exact t3
    · rw [xn 4 (by decide) (by decide)]; exact t4
    · rw [xn 5 (by decide) (by decide)]; exact t5
    · rw [xn 5 (by decide) (by decide)]; exact e5
    · rw [w3820, xh1]; exact n2
    · rw [xh1]; exact n3
    · rw [xh2, xh3, w42]; exact l0
    · rw [w33, xw]
    · rw [w34, xe]
  have h1 := hn.1
  have h2 := hn.2
  obtain ⟨x', m', q1, q2, q3, q4, q5, q6, q7⟩ := keepT_0 n dead h2 n.toInt.toNat FUEL 1 x w 5000 hR (by omega) (by decide) (by show (1 : Int) + _ = _; omega) (by rw [xe]; decide) (by rw [xe]; show (0 : Int) + _ ≤ _; omega) (by show _ < 1000; omega)
  exact ⟨x', m', x1.trans q1, w1.trans q2, q3, q4, q5, fk.tr q6, ft.tr q7⟩
theorem keepR_1 (n dead : Int32) (u m : S2) (h : RX u m 5000) (hn : rg n 1 300) (hd : rg dead 0 999) (e5 : u 18 5 = 1) : ∃ x' m', f_X1_keep_5_9 n dead u = some x' ∧ f_X12_keep n dead m = some m' ∧ m' 38 33 = x' 25 2 ∧ m' 38 34 = x' 25 3 ∧ rg (x' 25 3) 0 10500 ∧ FrK u x' ∧ FrT m m' := by
  obtain ⟨⟨a0, a1, a2, a3, a4, a5⟩, ⟨r0, r1, r2, r3, r4, r5⟩, ⟨p0, p1, p2⟩, ⟨s0, s1, s2⟩, d0, ⟨n0, n1, n2, n3⟩, l0⟩ := h
  have hb : isB (u 9 2) = true := by
    rcases l0 with ⟨z, -⟩ | ⟨z, -⟩
    · rw [z]
      rfl
    · rw [z]
      rfl
  obtain ⟨x, x1, ⟨x2, x3, x4, x5, x6, x7⟩, xp, ⟨xo0, xo1, xo2⟩, ⟨xd, xn⟩, ⟨xh1, xh2, xh3⟩, xw, xe, fk⟩ := X_keep0 n dead u hb 1 (by decide) e5
  obtain ⟨w, w1, ⟨w2, w3, w4, w5, w6, w7⟩, ⟨v0, v1, v2⟩, ⟨y0, y1, y2⟩, w42, w33, w34, ft⟩ := M_keep0 n dead m
  have cm : ∀ c, c ≠ 38 → c ≠ 39 → c ≠ 40 → c ≠ 41 → c ≠ 42 → c ≠ 48 → c ≠ 49 → w c = m c := fun c q1 q2 q3 q4 q5 q6 q7 => ft.cell c (fun i => by unfold TW; omega)
  have cx : ∀ c, c ≠ 7 → c ≠ 13 → c ≠ 14 → c ≠ 15 → c ≠ 19 → c ≠ 20 → c ≠ 25 → x c = u c := fun c q1 q2 q3 q4 q5 q6 q7 => fk c (by unfold KW; omega)
  have w44 : w 44 = m 44 := cm 44 (by decide) (by decide) (by decide) (by decide) (by decide) (by decide) (by decide)
  have w45 : w 45 = m 45 := cm 45 (by decide) (by decide) (by decide) (by decide) (by decide) (by decide) (by decide)
  have w46 : w 46 = m 46 := cm 46 (by decide) (by decide) (by decide) (by decide) (by decide) (by decide) (by decide)
  have w47 : w 47 = m 47 := cm 47 (by decide) (by decide) (by decide) (by decide) (by decide) (by decide) (by decide)
  have w50 : w 50 = m 50 := cm 50 (by decide) (by decide) (by decide) (by decide) (by decide) (by decide) (by decide)
  have w51 : w 51 = m 51 := cm 51 (by decide) (by decide) (by decide) (by decide) (by decide) (by decide) (by decide)
  have w52 : w 52 = m 52 := cm 52 (by decide) (by decide) (by decide) (by decide) (by decide) (by decide) (by decide)
  have w43 : w 43 = m 43 := cm 43 (by decide) (by decide) (by decide) (by decide) (by decide) (by decide) (by decide)
  have w54 : w 54 = m 54 := cm 54 (by decide) (by decide) (by decide) (by decide) (by decide) (by decide) (by decide)
  have w385 : w 38 5 = m 38 5 := ft 38 5 (by unfold TW; omega)
  have w3820 : w 38 20 = m 38 20 := ft 38 20 (by unfold TW; omega)
  have cx1 : x 1 = u 1 := cx 1 (by decide) (by decide) (by decide) (by decide) (by decide) (by decide) (by decide)
  have cx2 : x 2 = u 2 := cx 2 (by decide) (by decide) (by decide) (by decide) (by decide) (by decide) (by decide)
  have cx4 : x 4 = u 4 := cx 4 (by decide) (by decide) (by decide) (by decide) (by decide) (by decide) (by decide)
  have xp' : ∀ j, j < 8 → x 14 j = u 11 j := xp
  have g40 := p0.2.2.2.2.2.2.2.2.2.2.2.2.1
  have g41 := p1.2.2.2.2.2.2.2.2.2.2.2.2.1
  have g42 := p2.2.2.2.2.2.2.2.2.2.2.2.2.1
  have k0 : rg (m 44 0) 0 5 := by rw [p0.1]; exact p0.2.2.2.2.2.2.2.2.1
  have k1 : rg (m 44 1) 0 5 := by rw [p1.1]; exact p1.2.2.2.2.2.2.2.2.1
  have k2 : rg (m 44 2) 0 5 := by rw [p2.1]; exact p2.2.2.2.2.2.2.2.2.1
  obtain ⟨f0, f1, f2, f3, f4, f5, f6, f7, g0, g1, g2, g3, g4, g5, g6, g7⟩ := p1
  have hP : PX x w 14 1 4 := by
    unfold PX
    rw [w44, w45, w46, w47, w50, w51, v1, y1, xp' 0 (by decide), xp' 1 (by decide), xp' 2 (by decide), xp' 3 (by decide), xp' 4 (by decide), xp' 5 (by decide), xp' 6 (by decide), xp' 7 (by decide)]
    exact ⟨f0, f1, f2, f3, f4, f5, f6, f7, g0, g1, g2, g3, g4, g5, g6, g7⟩
  obtain ⟨t0, t1, t2, t3, t4, t5⟩ := n1
  have hR : RT_1 x w 5000 dead := by
    refine ⟨⟨?_, ?_, ?_, ?_, ?_, ?_⟩, ⟨?_, ?_, ?_, ?_, ?_, ?_⟩, hP, ⟨?_, ?_, ?_⟩, ⟨?_, ?_, ?_⟩, ⟨?_, ?_, ?_⟩, ?_, ⟨⟨?_, ?_, ?_, ?_, ?_⟩, ⟨?_, ?_, ?_, ?_, ?_, ?_⟩, xd, ?_, ?_, ?_⟩, ?_, ⟨?_, ?_⟩⟩
    · rw [w2, x2]; exact a0
    · rw [w3, x4]; exact a1
    · rw [w4, x6]; exact a2
    · rw [w5, x5]; exact a3
    · rw [w6, x3]; exact a4
    · rw [w7, x7]; exact a5
    · rw [x2]; exact r0
    · rw [x4]; exact r1
    · rw [x6]; exact r2
    · rw [x5]; exact r3
    · rw [x3]; exact r4
    · rw [x7]; exact r5
    · rw [xo0]; exact g40
    · rw [xo1]; exact g41
    · rw [xo2]; exact g42
    · rw [w44]; exact k0
    · rw [w44]; exact k1
    · rw [w44]; exact k2
    · rw [w43, cx2]; exact s0
    · rw [w385, cx1]; exact s1
    · rw [cx1]; exact s2
    · rw [w52, cx4]; exact d0
    · rw [w54, xn 1 (by decide) (by decide)]; exact n0 1 (by decide)
    · rw [w54, xn 2 (by decide) (by decide)]; exact n0 2 (by decide)
    · rw [w54, xn 3 (by decide) (by decide)]; exact n0 3 (by decide)
    · rw [w54, xn 4 (by decide) (by decide)]; exact n0 4 (by decide)
    · rw [w54, xn 5 (by decide) (by decide)]; exact n0 5 (by decide)
    · rw [xd]; exact hd
    · rw [xn 1 (by decide) (by decide)]; exact t1
    · rw [xn 2 (by decide) (by decide)]; exact t2
    · rw [xn 3 (by decide) (by decide)]; exact t3
    · rw [xn 4 (by decide) (by decide)]; exact t4
    · rw [xn 5 (by decide) (by decide)]; exact t5
    · rw [xn 5 (by decide) (by decide)]; exact e5
    · rw [w3820, xh1]; exact n2
    · rw [xh1]; exact n3
    · rw [xh2, xh3, w42]; exact l0
    · rw [w33, xw]
    · rw [w34, xe]
  have h1 := hn.1
  have h2 := hn.2
  obtain ⟨x', m', q1, q2, q3, q4, q5, q6, q7⟩ := keepT_1 n dead h2 n.toInt.toNat FUEL 1 x w 5000 hR (by omega) (by decide) (by show (1 : Int) + _ = _; omega) (by rw [xe]; decide) (by rw [xe]; show (0 : Int) + _ ≤ _; omega) (by show _ < 1000; omega)
  exact ⟨x', m', x1.trans q1, w1.trans q2, q3, q4, q5, fk.tr q6, ft.tr q7⟩
theorem keepR_2 (n dead : Int32) (u m : S2) (h : RX u m 5000) (hn : rg n 1 300) (hd : rg dead 0 999) (e5 : u 18 5 = 2) : ∃ x' m', f_X1_keep_5_9 n dead u = some x' ∧ f_X12_keep n dead m = some m' ∧ m' 38 33 = x' 25 2 ∧ m' 38 34 = x' 25 3 ∧ rg (x' 25 3) 0 10500 ∧ FrK u x' ∧ FrT m m' := by
  obtain ⟨⟨a0, a1, a2, a3, a4, a5⟩, ⟨r0, r1, r2, r3, r4, r5⟩, ⟨p0, p1, p2⟩, ⟨s0, s1, s2⟩, d0, ⟨n0, n1, n2, n3⟩, l0⟩ := h
  have hb : isB (u 9 2) = true := by
    rcases l0 with ⟨z, -⟩ | ⟨z, -⟩
    · rw [z]
      rfl
    · rw [z]
      rfl
  obtain ⟨x, x1, ⟨x2, x3, x4, x5, x6, x7⟩, xp, ⟨xo0, xo1, xo2⟩, ⟨xd, xn⟩, ⟨xh1, xh2, xh3⟩, xw, xe, fk⟩ := X_keep0 n dead u hb 2 (by decide) e5
  obtain ⟨w, w1, ⟨w2, w3, w4, w5, w6, w7⟩, ⟨v0, v1, v2⟩, ⟨y0, y1, y2⟩, w42, w33, w34, ft⟩ := M_keep0 n dead m
  have cm : ∀ c, c ≠ 38 → c ≠ 39 → c ≠ 40 → c ≠ 41 → c ≠ 42 → c ≠ 48 → c ≠ 49 → w c = m c := fun c q1 q2 q3 q4 q5 q6 q7 => ft.cell c (fun i => by unfold TW; omega)
  have cx : ∀ c, c ≠ 7 → c ≠ 13 → c ≠ 14 → c ≠ 15 → c ≠ 19 → c ≠ 20 → c ≠ 25 → x c = u c := fun c q1 q2 q3 q4 q5 q6 q7 => fk c (by unfold KW; omega)
  have w44 : w 44 = m 44 := cm 44 (by decide) (by decide) (by decide) (by decide) (by decide) (by decide) (by decide)
  have w45 : w 45 = m 45 := cm 45 (by decide) (by decide) (by decide) (by decide) (by decide) (by decide) (by decide)
  have w46 : w 46 = m 46 := cm 46 (by decide) (by decide) (by decide) (by decide) (by decide) (by decide) (by decide)
  have w47 : w 47 = m 47 := cm 47 (by decide) (by decide) (by decide) (by decide) (by decide) (by decide) (by decide)
  have w50 : w 50 = m 50 := cm 50 (by decide) (by decide) (by decide) (by decide) (by decide) (by decide) (by decide)
  have w51 : w 51 = m 51 := cm 51 (by decide) (by decide) (by decide) (by decide) (by decide) (by decide) (by decide)
  have w52 : w 52 = m 52 := cm 52 (by decide) (by decide) (by decide) (by decide) (by decide) (by decide) (by decide)
  have w43 : w 43 = m 43 := cm 43 (by decide) (by decide) (by decide) (by decide) (by decide) (by decide) (by decide)
  have w54 : w 54 = m 54 := cm 54 (by decide) (by decide) (by decide) (by decide) (by decide) (by decide) (by decide)
  have w385 : w 38 5 = m 38 5 := ft 38 5 (by unfold TW; omega)
  have w3820 : w 38 20 = m 38 20 := ft 38 20 (by unfold TW; omega)
  have cx1 : x 1 = u 1 := cx 1 (by decide) (by decide) (by decide) (by decide) (by decide) (by decide) (by decide)
  have cx2 : x 2 = u 2 := cx 2 (by decide) (by decide) (by decide) (by decide) (by decide) (by decide) (by decide)
  have cx4 : x 4 = u 4 := cx 4 (by decide) (by decide) (by decide) (by decide) (by decide) (by decide) (by decide)
  have xp' : ∀ j, j < 8 → x 15 j = u 12 j := xp
  have g40 := p0.2.2.2.2.2.2.2.2.2.2.2.2.1
  have g41 := p1.2.2.2.2.2.2.2.2.2.2.2.2.1
  have g42 := p2.2.2.2.2.2.2.2.2.2.2.2.2.1
  have k0 : rg (m 44 0) 0 5 := by rw [p0.1]; exact p0.2.2.2.2.2.2.2.2.1
  have k1 : rg (m 44 1) 0 5 := by rw [p1.1]; exact p1.2.2.2.2.2.2.2.2.1
  have k2 : rg (m 44 2) 0 5 := by rw [p2.1]; exact p2.2.2.2.2.2.2.2.2.1
  obtain ⟨f0, f1, f2, f3, f4, f5, f6, f7, g0, g1, g2, g3, g4, g5, g6, g7⟩ := p2
  have hP : PX x w 15 2 5 := by
    unfold PX
    rw [w44, w45, w46, w47, w50, w51, v2, y2, xp' 0 (by decide), xp' 1 (by decide), xp' 2 (by decide), xp' 3 (by decide), xp' 4 (by decide), xp' 5 (by decide), xp' 6 (by decide), xp' 7 (by decide)]
    exact ⟨f0, f1, f2, f3, f4, f5, f6, f7, g0, g1, g2, g3, g4, g5, g6, g7⟩
  obtain ⟨t0, t1, t2, t3, t4, t5⟩ := n1
  have hR : RT_2 x w 5000 dead := by
    refine ⟨⟨?_, ?_, ?_, ?_, ?_, ?_⟩, ⟨?_, ?_, ?_, ?_, ?_, ?_⟩, hP, ⟨?_, ?_, ?_⟩, ⟨?_, ?_, ?_⟩, ⟨?_, ?_, ?_⟩, ?_, ⟨⟨?_, ?_, ?_, ?_, ?_⟩, ⟨?_, ?_, ?_, ?_, ?_, ?_⟩, xd, ?_, ?_, ?_⟩, ?_, ⟨?_, ?_⟩⟩
    · rw [w2, x2]; exact a0
    · rw [w3, x4]; exact a1
    · rw [w4, x6]; exact a2
    · rw [w5, x5]; exact a3
    · rw [w6, x3]; exact a4
    · rw [w7, x7]; exact a5
    · rw [x2]; exact r0
    · rw [x4]; exact r1
    · rw [x6]; exact r2
    · rw [x5]; exact r3
    · rw [x3]; exact r4
    · rw [x7]; exact r5
    · rw [xo0]; exact g40
    · rw [xo1]; exact g41
    · rw [xo2]; exact g42
    · rw [w44]; exact k0
    · rw [w44]; exact k1
    · rw [w44]; exact k2
    · rw [w43, cx2]; exact s0
    · rw [w385, cx1]; exact s1
    · rw [cx1]; exact s2
    · rw [w52, cx4]; exact d0
    · rw [w54, xn 1 (by decide) (by decide)]; exact n0 1 (by decide)
    · rw [w54, xn 2 (by decide) (by decide)]; exact n0 2 (by decide)
    · rw [w54, xn 3 (by decide) (by decide)]; exact n0 3 (by decide)
    · rw [w54, xn 4 (by decide) (by decide)]; exact n0 4 (by decide)
    · rw [w54, xn 5 (by decide) (by decide)]; exact n0 5 (by decide)
    · rw [xd]; exact hd
    · rw [xn 1 (by decide) (by decide)]; exact t1
    · rw [xn 2 (by decide) (by decide)]; exact t2
    · rw [xn 3 (by decide) (by decide)]; exact t3
    · rw [xn 4 (by decide) (by decide)]; exact t4
    · rw [xn 5 (by decide) (by decide)]; exact t5
    · rw [xn 5 (by decide) (by decide)]; exact e5
    · rw [w3820, xh1]; exact n2
    · rw [xh1]; exact n3
    · rw [xh2, xh3, w42]; exact l0
    · rw [w33, xw]
    · rw [w34, xe]
  have h1 := hn.1
  have h2 := hn.2
  obtain ⟨x', m', q1, q2, q3, q4, q5, q6, q7⟩ := keepT_2 n dead h2 n.toInt.toNat FUEL 1 x w 5000 hR (by omega) (by decide) (by show (1 : Int) + _ = _; omega) (by rw [xe]; decide) (by rw [xe]; show (0 : Int) + _ ≤ _; omega) (by show _ < 1000; omega)
  exact ⟨x', m', x1.trans q1, w1.trans q2, q3, q4, q5, fk.tr q6, ft.tr q7⟩
theorem keepR (n dead : Int32) (u m : S2) (h : RX u m 5000) (hn : rg n 1 300) (hd : rg dead 0 999) : ∃ x' m', f_X1_keep_5_9 n dead u = some x' ∧ f_X12_keep n dead m = some m' ∧ m' 38 33 = x' 25 2 ∧ m' 38 34 = x' 25 3 ∧ rg (x' 25 3) 0 10500 ∧ FrK u x' ∧ FrT m m' := by
  have n1 := h.2.2.2.2.2.1.2.1
  rcases by3 n1.2.2.2.2.2 with e | e | e
  · exact keepR_0 n dead u m h hn hd e
  · exact keepR_1 n dead u m h hn hd e
  · exact keepR_2 n dead u m h hn hd e
theorem RX_fr {x m y w : S2} {T : Int} (h : RX x m T) (fk : FrK x y) (ft : FrT m w) : RX y w T := by
  have cm : ∀ c, c ≠ 38 → c ≠ 39 → c ≠ 40 → c ≠ 41 → c ≠ 42 → c ≠ 48 → c ≠ 49 → w c = m c := fun c q1 q2 q3 q4 q5 q6 q7 => ft.cell c (fun i => by unfold TW; omega)
  have cx : ∀ c, c ≠ 7 → c ≠ 13 → c ≠ 14 → c ≠ 15 → c ≠ 19 → c ≠ 20 → c ≠ 25 → y c = x c := fun c q1 q2 q3 q4 q5 q6 q7 => fk c (by unfold KW; omega)
  unfold RX PX
  rw [ft 39 0 (by unfold TW; omega), ft 39 1 (by unfold TW; omega), ft 39 2 (by unfold TW; omega), ft 39 3 (by unfold TW; omega), ft 40 0 (by unfold TW; omega), ft 41 0 (by unfold TW; omega), ft 42 0 (by unfold TW; omega), ft 48 0 (by unfold TW; omega), ft 48 1 (by unfold TW; omega), ft 48 2 (by unfold TW; omega), ft 49 0 (by unfold TW; omega), ft 49 1 (by unfold TW; omega), ft 49 2 (by unfold TW; omega), ft 38 5 (by unfold TW; omega), ft 38 20 (by unfold TW; omega)]
  rw [cm 43 (by decide) (by decide) (by decide) (by decide) (by decide) (by decide) (by decide), cm 44 (by decide) (by decide) (by decide) (by decide) (by decide) (by decide) (by decide), cm 45 (by decide) (by decide) (by decide) (by decide) (by decide) (by decide) (by decide), cm 46 (by decide) (by decide) (by decide) (by decide) (by decide) (by decide) (by decide), cm 47 (by decide) (by decide) (by decide) (by decide) (by decide) (by decide) (by decide), cm 50 (by decide) (by decide) (by decide) (by decide) (by decide) (by decide) (by decide), cm 51 (by decide) (by decide) (by decide) (by decide) (by decide) (by decide) (by decide), cm 52 (by decide) (by decide) (by decide) (by decide) (by decide) (by decide) (by decide), cm 54 (by decide) (by decide) (by decide) (by decide) (by decide) (by decide) (by decide)]
  rw [cx 1 (by decide) (by decide) (by decide) (by decide) (by decide) (by decide) (by decide), cx 2 (by decide) (by decide) (by decide) (by decide) (by decide) (by decide) (by decide), cx 4 (by decide) (by decide) (by decide) (by decide) (by decide) (by decide) (by decide), cx 5 (by decide) (by decide) (by decide) (by decide) (by decide) (by decide) (by decide), cx 9 (by decide) (by decide) (by decide) (by decide) (by decide) (by decide) (by decide), cx 10 (by decide) (by decide) (by decide) (by decide) (by decide) (by decide) (by decide), cx 11 (by decide) (by decide) (by decide) (by decide) (by decide) (by decide) (by decide), cx 12 (by decide) (by decide) (by decide) (by decide) (by decide) (by decide) (by decide), cx 18 (by decide) (by decide) (by decide) (by decide) (by decide) (by decide) (by decide)]
  exact h
theorem Rel_kt {u x w : S2} (h : Rel u) (fk : FrK u x) (ft : FrT x w) : Rel w := by
  refine Rel_fr h (fun c hm => ?_) (fun q hm => ?_)
  · have : ∀ c, c ∈ FCl → (c ≠ 7 ∧ c ≠ 13 ∧ c ≠ 14 ∧ c ≠ 15 ∧ c ≠ 19 ∧ c ≠ 20 ∧ c ≠ 25) ∧ (c ≠ 38 ∧ c ≠ 39 ∧ c ≠ 40 ∧ c ≠ 41 ∧ c ≠ 42 ∧ c ≠ 48 ∧ c ≠ 49) := by decide
    obtain ⟨h1, h2⟩ := this c hm
    rw [ft.cell c (fun i => by unfold TW; omega), fk c (by unfold KW; omega)]
  · have : ∀ q, q ∈ SCl → (q.1 ≠ 7 ∧ q.1 ≠ 13 ∧ q.1 ≠ 14 ∧ q.1 ≠ 15 ∧ q.1 ≠ 19 ∧ q.1 ≠ 20 ∧ q.1 ≠ 25) ∧ (q.1 = 39 → q.2 < 4) ∧ (q.1 = 40 → q.2 < 1) ∧ (q.1 = 41 → q.2 < 1) ∧ (q.1 = 42 → q.2 < 1) ∧ (q.1 = 48 → q.2 < 3) ∧ (q.1 = 49 → q.2 < 3) ∧ (q.1 = 38 → q.2 ≠ 33 ∧ q.2 ≠ 34) := by decide
    obtain ⟨h1, h2⟩ := this q hm
    rw [ft q.1 q.2 (by unfold TW; omega), fk q.1 (by unfold KW; omega)]
theorem fk_ft {x y : S2} (h : FrK x y) : RX x x 5000 → RX x y 5000 := by
  intro hr
  have cx : ∀ c, c ≠ 7 → c ≠ 13 → c ≠ 14 → c ≠ 15 → c ≠ 19 → c ≠ 20 → c ≠ 25 → y c = x c := fun c q1 q2 q3 q4 q5 q6 q7 => h c (by unfold KW; omega)
  exact RX_m hr (cx 39 (by decide) (by decide) (by decide) (by decide) (by decide) (by decide) (by decide)) (cx 40 (by decide) (by decide) (by decide) (by decide) (by decide) (by decide) (by decide)) (cx 41 (by decide) (by decide) (by decide) (by decide) (by decide) (by decide) (by decide)) (cx 42 (by decide) (by decide) (by decide) (by decide) (by decide) (by decide) (by decide)) (cx 48 (by decide) (by decide) (by decide) (by decide) (by decide) (by decide) (by decide)) (cx 49 (by decide) (by decide) (by decide) (by decide) (by decide) (by decide) (by decide)) (cx 38 (by decide) (by decide) (by decide) (by decide) (by decide) (by decide) (by decide)) (cx 43 (by decide) (by decide) (by decide) (by decide) (by decide) (by decide) (by decide)) (cx 44 (by decide) (by decide) (by decide) (by decide) (by decide) (by decide) (by decide)) (cx 45 (by decide) (by decide) (by decide) (by decide) (by decide) (by decide) (by decide)) (cx 46 (by decide) (by decide) (by decide) (by decide) (by decide) (by decide) (by decide)) (cx 47 (by decide) (by decide) (by decide) (by decide) (by decide) (by decide) (by decide)) (cx 50 (by decide) (by decide) (by decide) (by decide) (by decide) (by decide) (by decide)) (cx 51 (by decide) (by decide) (by decide) (by decide) (by decide) (by decide) (by decide)) (cx 52 (by decide) (by decide) (by decide) (by decide) (by decide) (by decide) (by decide)) (cx 54 (by decide) (by decide) (by decide) (by decide) (by decide) (by decide) (by decide))
theorem s_kept : St_3 f_X11_kept f_X12_kept Rel := by
  intro a b d u h
  by_cases c1 : inR a 1 300 = 0
  · exact ⟨-3, u, u, by unfold f_X11_kept; rw [X_isTrial, bd_some, if_pos c1], by unfold f_X12_kept; rw [L_in_1_300, bd_some, if_pos c1], h⟩
  by_cases c2 : inR b 0 999 = 0
  · exact ⟨-3, u, u, by unfold f_X11_kept; rw [X_isTrial, bd_some, if_neg c1, L_isWithin, bd_some, if_pos c2], by unfold f_X12_kept; rw [L_in_1_300, bd_some, if_neg c1, L_in_0_999, bd_some, if_pos c2], h⟩
  by_cases c3 : inR d 0 1 = 0
  · exact ⟨-3, u, u, by unfold f_X11_kept; rw [X_isTrial, bd_some, if_neg c1, L_isWithin, bd_some, if_neg c2, L_isWithin, bd_some, if_pos c3], by unfold f_X12_kept; rw [L_in_1_300, bd_some, if_neg c1, L_in_0_999, bd_some, if_neg c2, L_in_0_1, bd_some, if_pos c3], h⟩
  have hn : rg a 1 300 := inR_rg c1
  have hd : rg b 0 999 := inR_rg c2
  have hu := RX_of h
  obtain ⟨x, -, x1, -, -, -, -, fk, -⟩ := keepR a b u u hu hn hd
  obtain ⟨x', m', y1, y2, y3, y4, -, -, ft⟩ := keepR a b u x (fk_ft fk hu) hn hd
  have ex : x' = x := Option.some.inj (y1.symm.trans x1)
  rw [ex] at y3 y4
  refine ⟨if d = 0 then x 25 2 else x 25 3, x, m', ?_, ?_, Rel_kt h fk ft⟩
  · unfold f_X11_kept
    rw [X_isTrial, bd_some, if_neg c1, L_isWithin, bd_some, if_neg c2, L_isWithin, bd_some, if_neg c3, x1, bv_some]
    split <;> rfl
  · unfold f_X12_kept
    rw [L_in_1_300, bd_some, if_neg c1, L_in_0_999, bd_some, if_neg c2, L_in_0_1, bd_some, if_neg c3, y2, bv_some, y3, y4]
    split <;> rfl
theorem bd_l (n al : Int32) (hn : rg n 1 300) : ∀ (d N i : Nat) (v5 best lx lm : Int32) (x m : S2), RX x m 5000 → v5.toInt = 10 * i → ((best = -1 ∧ lm = 268435456) ∨ (¬ best = -1 ∧ lm = lx)) → i + d = 100 → d < N → ∃ r x' m', f_X11_bestDead_29 N n al best lx v5 x = some (r, x') ∧ f_X12_bestDead_37 N n al best lm v5 m = some (r, m') ∧ FrK x x' ∧ FrT m m' := by
  intro d
  induction d with
  | zero =>
    intro N i v5 best lx lm x m hR h5 hb hd hN
    obtain ⟨n2, rfl⟩ : ∃ n2, N = n2 + 1 := ⟨N - 1, by omega⟩
    refine ⟨best, x, m, ?_, ?_, FrK.refl _, FrT.refl _⟩
    · rw [f_X11_bestDead_29_e, if_pos (ti_lt.mpr (by show (990 : Int) < _; omega))]
    · rw [f_X12_bestDead_37_e, if_pos (ti_le.mpr (by show (1000 : Int) ≤ _; omega))]
  | succ d ih =>
    intro N i v5 best lx lm x m hR h5 hb hd hN
    obtain ⟨n2, rfl⟩ : ∃ n2, N = n2 + 1 := ⟨N - 1, by omega⟩
    have c1 : ¬ 990 < v5 := fun z => by have : (990 : Int) < v5.toInt := ti_lt.mp z; omega
    have c2 : ¬ 1000 ≤ v5 := fun z => by have : (1000 : Int) ≤ v5.toInt := ti_le.mp z; omega
    have e5 : (v5 + 10).toInt = 10 * ((i + 1 : Nat) : Int) := by
      rw [ti_add (by show _ ≤ v5.toInt + (10 : Int); omega) (by show v5.toInt + (10 : Int) ≤ _; omega)]
      show v5.toInt + (10 : Int) = _
      omega
    obtain ⟨y, w, k1, k2, k3, k4, k5, k6, k7⟩ := keepR n v5 x m hR hn ⟨by omega, by omega⟩
    have hR2 := RX_fr hR k6 k7
    have hne : ¬ v5 = -1 := fun z => by rw [z] at h5; have h6 : (-1 : Int) = 10 * (i : Int) := h5; omega
    have skip : ∃ r x' m', f_X11_bestDead_95 (fun v1 v2 v3 v4 v5 u => f_X11_bestDead_29 n2 v1 v2 v3 v4 v5 u) n al best lx v5 y = some (r, x') ∧ f_X12_bestDead_73 (fun v1 v2 v3 v4 v5 u => f_X12_bestDead_37 n2 v1 v2 v3 v4 v5 u) n al best lm v5 w = some (r, m') ∧ FrK x x' ∧ FrT m m' := by
      obtain ⟨r, x', m', q1, q2, q3, q4⟩ := ih n2 (i + 1) (v5 + 10) best lx lm y w hR2 e5 hb (by omega) (by omega)
      refine ⟨r, x', m', ?_, ?_, k6.tr q3, k7.tr q4⟩
      · unfold f_X11_bestDead_95
        rw [nm_is]
        exact q1
      · unfold f_X12_bestDead_73 f_X12_bestDead_74 f_X12_bestDead_87 f_X12_bestDead_102
        rw [if_pos rfl, if_pos rfl, nm_is]
        exact q2
    have take : ∃ r x' m', f_X11_bestDead_83 (fun v1 v2 v3 v4 v5 u => f_X11_bestDead_29 n2 v1 v2 v3 v4 v5 u) n al v5 y = some (r, x') ∧ f_X12_bestDead_74 (fun v1 v2 v3 v4 v5 u => f_X12_bestDead_37 n2 v1 v2 v3 v4 v5 u) n al best lm v5 1 w = some (r, m') ∧ FrK x x' ∧ FrT m m' := by
      obtain ⟨r, x', m', q1, q2, q3, q4⟩ := ih n2 (i + 1) (v5 + 10) v5 (y 25 3) (w 38 34) y w hR2 e5 (Or.inr ⟨hne, k4⟩) (by omega) (by omega)
      refine ⟨r, x', m', ?_, ?_, k6.tr q3, k7.tr q4⟩
      · unfold f_X11_bestDead_83 f_X11_bestDead_95
        rw [nm_is, nm_is]
        exact q1
      · unfold f_X12_bestDead_74 f_X12_bestDead_87 f_X12_bestDead_102
        rw [if_neg (by decide), if_neg (by decide), nm_is]
        exact q2
    by_cases z : al < y 25 2
    · obtain ⟨r, x', m', q1, q2, q3, q4⟩ := skip
      refine ⟨r, x', m', ?_, ?_, q3, q4⟩
      · rw [f_X11_bestDead_29_e, if_neg c1, k1, bv_some, if_pos z]
        exact q1
      · rw [f_X12_bestDead_37_e, if_neg c2, k2, bv_some, k3, if_pos z]
        exact q2
    · rcases hb with ⟨b1, b2⟩ | ⟨b1, b2⟩
      · obtain ⟨r, x', m', q1, q2, q3, q4⟩ := take
        refine ⟨r, x', m', ?_, ?_, q3, q4⟩
        · rw [f_X11_bestDead_29_e, if_neg c1, k1, bv_some, if_neg z, if_pos b1]
          exact q1
        · rw [f_X12_bestDead_37_e, if_neg c2, k2, bv_some, k3, if_neg z, if_neg (fun e => by have e2 := ti_le.mp e; rw [b2, k4] at e2; have e3 : (268435456 : Int) ≤ (y 25 3).toInt := e2; have := k5.2; omega)]
          exact q2
      · by_cases z2 : lx ≤ y 25 3
        · obtain ⟨r, x', m', q1, q2, q3, q4⟩ := skip
          refine ⟨r, x', m', ?_, ?_, q3, q4⟩
          · rw [f_X11_bestDead_29_e, if_neg c1, k1, bv_some, if_neg z, if_neg b1, if_pos z2]
            exact q1
          · rw [f_X12_bestDead_37_e, if_neg c2, k2, bv_some, k3, if_neg z, if_pos (by rw [b2, k4]; exact z2)]
            exact q2
        · obtain ⟨r, x', m', q1, q2, q3, q4⟩ := take
          refine ⟨r, x', m', ?_, ?_, q3, q4⟩
          · rw [f_X11_bestDead_29_e, if_neg c1, k1, bv_some, if_neg z, if_neg b1, if_neg z2]
            exact q1
          · rw [f_X12_bestDead_37_e, if_neg c2, k2, bv_some, k3, if_neg z, if_neg (by rw [b2, k4]; exact z2)]
            exact q2
theorem s_bestDead : St_2 f_X11_bestDead f_X12_bestDead Rel := by
  intro a b u h
  by_cases c1 : inR a 1 300 = 0
  · exact ⟨-3, u, u, by unfold f_X11_bestDead; rw [X_isTrial, bd_some, if_pos c1], by unfold f_X12_bestDead; rw [L_in_1_300, bd_some, if_pos c1], h⟩
  by_cases c2 : inR b 0 18000 = 0
  · exact ⟨-3, u, u, by unfold f_X11_bestDead; rw [X_isTrial, bd_some, if_neg c1, L_isWithin, bd_some, if_pos c2], by unfold f_X12_bestDead; rw [L_in_1_300, bd_some, if_neg c1, L_in_0_18000, bd_some, if_pos c2], h⟩
  have hn : rg a 1 300 := inR_rg c1
  have hu := RX_of h
  obtain ⟨r, x, -, x1, -, fk, -⟩ := bd_l a b hn 100 FUEL 0 0 (-1) 0 268435456 u u hu (by decide) (Or.inl ⟨rfl, rfl⟩) rfl (by decide)
  obtain ⟨r2, x', m', y1, y2, -, ft⟩ := bd_l a b hn 100 FUEL 0 0 (-1) 0 268435456 u x (fk_ft fk hu) (by decide) (Or.inl ⟨rfl, rfl⟩) rfl (by decide)
  have er : r2 = r := pr1 (y1.symm.trans x1)
  rw [er] at y2
  refine ⟨r, x, m', ?_, ?_, Rel_kt h fk ft⟩
  · unfold f_X11_bestDead
    rw [X_isTrial, bd_some, if_neg c1, L_isWithin, bd_some, if_neg c2]
    exact x1
  · unfold f_X12_bestDead
    rw [L_in_1_300, bd_some, if_neg c1, L_in_0_18000, bd_some, if_neg c2]
    exact y2
