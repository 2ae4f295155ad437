/-! a steerer's text read to its first fault; steerer -/
def FR (x y : S2) : Prop := (∀ c, c ≠ 21 → c ≠ 23 → y c = x c) ∧ y 21 1 = x 21 1
theorem FR.tr {x y z : S2} (h : FR x y) (k : FR y z) : FR x z := ⟨fun c a b => (k.1 c a b).trans (h.1 c a b), k.2.trans h.2⟩
theorem FR.refl (x : S2) : FR x x := ⟨fun _ _ _ => rfl, rfl⟩
theorem RN_upd {g : Nat → Int32} {k : Nat} {v : Int32} (h : RN g) (hk : k < 6) (hv : ¬ inR v (aL k) (aG k) = 0) : RN (upd g k v) := by
  obtain ⟨g0, g1, g2, g3, g4, g5⟩ := h
  have r := inR_rg hv
  rcases (show k = 0 ∨ k = 1 ∨ k = 2 ∨ k = 3 ∨ k = 4 ∨ k = 5 by omega) with rfl | rfl | rfl | rfl | rfl | rfl
  · exact ⟨r, g1, g2, g3, g4, g5⟩
  · exact ⟨g0, r, g2, g3, g4, g5⟩
  · exact ⟨g0, g1, r, g3, g4, g5⟩
  · exact ⟨g0, g1, g2, r, g4, g5⟩
  · exact ⟨g0, g1, g2, g3, r, g5⟩
  · exact ⟨g0, g1, g2, g3, g4, r⟩
theorem lines_l (f : Nat → Int32) (L : Nat) (hL : L ≤ 160) : ∀ (t N1 N2 ln i : Nat) (x m : S2), ln + 1 + t = 8 → i ≤ L → x 22 = f → x 21 1 = nI L → m 53 = f → m 38 16 = nI L → m 38 29 = nI i → m 38 19 = nI ln → (∀ j, j < 6 → m 55 j = x 23 j) → RN (x 23) → t < N1 → t < N2 → ∃ r x' m', f_X5_read_18 N1 (nI i) (nI (ln + 1)) x = some (r, x') ∧ bv (f_X12_token m) (fun u0 => bd (f_X12_readsLine u0) (fun r0 u1 => (if r0 = 0 then some (u1 38 30, u1) else f_X12_fault_76 N2 u1))) = some (r, m') ∧ (r = -1 → (∀ j, j < 6 → m' 55 j = x' 23 j) ∧ RN (x' 23) ∧ m' 38 19 = x' 21 3) ∧ FR x x' ∧ FQ m m' := by
  intro t
  induction t with
  | zero =>
    intro N1 N2 ln i x m hln hi h22 h21 h53 h16 h29 h19 h55 hR hN1 hN2
    obtain ⟨n1, rfl⟩ : ∃ n, N1 = n + 1 := ⟨N1 - 1, by omega⟩
    obtain ⟨n2, rfl⟩ : ∃ n, N2 = n + 1 := ⟨N2 - 1, by omega⟩
    obtain ⟨s, es⟩ : ∃ s, s = bl f L i := ⟨_, rfl⟩
    obtain ⟨d, ed⟩ : ∃ d, d = bl f L (tke f L s) := ⟨_, rfl⟩
    obtain ⟨a, ea⟩ : ∃ a, a = bl f L (tke f L d) := ⟨_, rfl⟩
    have b1 := bl_b f hi
    rw [← es] at b1
    have b2 := tke_b f b1.2
    have b3 := bl_b f b2.2.1
    rw [← ed] at b3
    have b4 := tke_b f b3.2
    have b5 := bl_b f b4.2.1
    rw [← ea] at b5
    obtain ⟨X0, X1⟩ := X_line f L i (ln + 1) n1 hL hi (by omega) x h22 h21 s d a es ed ea
    obtain ⟨m1, b, m2, y1, y2, fq, hc⟩ := M_line f L i hL hi m h53 h16 h29 s d a es ed ea
    rcases hc with ⟨w, eb, e30⟩ | ⟨k, hk, w, ⟨hz, eb, e30⟩ | ⟨hz, eb, e55, e19, e30, e31, e29⟩⟩
    · refine ⟨nI s, x, m2, X0 w, ?_, fun z => absurd z (nI_ne s (by omega)), FR.refl x, fq⟩
      rw [y1, bv_some, y2, bd_some, if_pos eb, e30]
    · refine ⟨nI d, x, m2, (X1 k hk w).1 hz, ?_, fun z => absurd z (nI_ne d (by omega)), FR.refl x, fq⟩
      rw [y1, bv_some, y2, bd_some, if_pos eb, e30]
    · have X2 := (X1 k hk w).2 hz
      obtain ⟨v, ev⟩ : ∃ v, v = nbr f L d := ⟨_, rfl⟩
      rw [← ev] at X2 e55 hz
      obtain ⟨y, ey⟩ : ∃ y, y = wr (wr x 23 k v) 21 3 (nI (ln + 1)) := ⟨_, rfl⟩
      rw [← ey] at X2
      have fr : FR x y := by
        rw [ey]
        exact ⟨fun c h1 h2 => by rw [wr_c h1, wr_c h2], rfl⟩
      have hb : ¬ b = 0 := by rw [eb]; decide
      have m16 : m2 38 16 = nI L := (fq.2 16 (by decide) (by decide) (by decide) (by decide)).trans h16
      have m53 : m2 53 = f := (fq.1 53 (by decide) (by decide)).trans h53
      have e19' : m2 38 19 = nI (ln + 1) := by rw [e19, h19, nI_1]
      have M0 : bv (f_X12_token m) (fun u0 => bd (f_X12_readsLine u0) (fun r0 u1 => (if r0 = 0 then some (u1 38 30, u1) else f_X12_fault_76 (n2 + 1) u1))) = f_X12_fault_76 (n2 + 1) m2 := by
        rw [y1, bv_some, y2, bd_some, if_neg hb]
      by_cases q : a < L
      · rw [if_pos q] at X2
        have X3 : f_X5_read_18 (n1 + 1) (nI i) (nI (ln + 1)) x = some (nI a, y) := by
          rw [X2]
          by_cases q2 : f a = 59
          · rw [if_pos q2, if_pos (by omega)]
          · rw [if_neg q2]
        refine ⟨nI a, y, m2, X3, ?_, fun z => absurd z (nI_ne a (by omega)), fr, fq⟩
        rw [M0, f_X12_fault_76_e, m16, e30, if_neg (fun z => by have := (nJ_le (by omega) (by omega)).mp z; omega)]
        unfold f_X12_fault_127 f_X12_fault_128 f_X12_fault_142 f_X12_fault_146
        have out : (some (m2 38 30, m2) : Option (Int32 × S2)) = some (nI a, m2) := by rw [e30]
        have l8 : (8 : Int32) ≤ m2 38 19 := by
          rw [e19', show ln + 1 = 8 by omega]
          decide
        rw [if_pos (c := (0 : Int32) = 0) rfl, if_pos (c := (0 : Int32) = 0) rfl, if_pos l8, out, ck_y (nJ_in (n := 160) (by omega) (by decide)), nm_is]
        split
        · split <;> rfl
        · rfl
      · rw [if_neg q] at X2
        refine ⟨-1, y, m2, X2, ?_, fun _ => ⟨?_, ?_, ?_⟩, fr, fq⟩
        · rw [M0, f_X12_fault_76_e, m16, e30, if_pos ((nJ_le (by omega) (by omega)).mpr (by omega))]
        · intro j hj
          rw [e55, ey]
          show upd (m 55) k v j = upd (x 23) k v j
          by_cases c : j = k
          · rw [c, upd_s, upd_s]
          · rw [upd_n c, upd_n c]
            exact h55 j hj
        · rw [ey]
          exact RN_upd hR hk hz
        · rw [e19', ey]
          rfl
  | succ t ih =>
    intro N1 N2 ln i x m hln hi h22 h21 h53 h16 h29 h19 h55 hR hN1 hN2
    obtain ⟨n1, rfl⟩ : ∃ n, N1 = n + 1 := ⟨N1 - 1, by omega⟩
    obtain ⟨n2, rfl⟩ : ∃ n, N2 = n + 1 := ⟨N2 - 1, by omega⟩
    obtain ⟨s, es⟩ : ∃ s, s = bl f L i := ⟨_, rfl⟩
    obtain ⟨d, ed⟩ : ∃ d, d = bl f L (tke f L s) := ⟨_, rfl⟩
    obtain ⟨a, ea⟩ : ∃ a, a = bl f L (tke f L d) := ⟨_, rfl⟩
    have b1 := bl_b f hi
    rw [← es] at b1
    have b2 := tke_b f b1.2
    have b3 := bl_b f b2.2.1
    rw [← ed] at b3
    have b4 := tke_b f b3.2
    have b5 := bl_b f b4.2.1
    rw [← ea] at b5
    obtain ⟨X0, X1⟩ := X_line f L i (ln + 1) n1 hL hi (by omega) x h22 h21 s d a es ed ea
    obtain ⟨m1, b, m2, y1, y2, fq, hc⟩ := M_line f L i hL hi m h53 h16 h29 s d a es ed ea
    rcases hc with ⟨w, eb, e30⟩ | ⟨k, hk, w, ⟨hz, eb, e30⟩ | ⟨hz, eb, e55, e19, e30, e31, e29⟩⟩
    · refine ⟨nI s, x, m2, X0 w, ?_, fun z => absurd z (nI_ne s (by omega)), FR.refl x, fq⟩
      rw [y1, bv_some, y2, bd_some, if_pos eb, e30]
    · refine ⟨nI d, x, m2, (X1 k hk w).1 hz, ?_, fun z => absurd z (nI_ne d (by omega)), FR.refl x, fq⟩
      rw [y1, bv_some, y2, bd_some, if_pos eb, e30]
    · have X2 := (X1 k hk w).2 hz
      obtain ⟨v, ev⟩ : ∃ v, v = nbr f L d := ⟨_, rfl⟩
      rw [← ev] at X2 e55 hz
      obtain ⟨y, ey⟩ : ∃ y, y = wr (wr x 23 k v) 21 3 (nI (ln + 1)) := ⟨_, rfl⟩
      rw [← ey] at X2
      have fr : FR x y := by
        rw [ey]
        exact ⟨fun c h1 h2 => by rw [wr_c h1, wr_c h2], rfl⟩
      have hb : ¬ b = 0 := by rw [eb]; decide
      have m16 : m2 38 16 = nI L := (fq.2 16 (by decide) (by decide) (by decide) (by decide)).trans h16
      have m53 : m2 53 = f := (fq.1 53 (by decide) (by decide)).trans h53
      have e19' : m2 38 19 = nI (ln + 1) := by rw [e19, h19, nI_1]
      have n55 : ∀ j, j < 6 → m2 55 j = y 23 j := by
        intro j hj
        rw [e55, ey]
        show upd (m 55) k v j = upd (x 23) k v j
        by_cases c : j = k
        · rw [c, upd_s, upd_s]
        · rw [upd_n c, upd_n c]
          exact h55 j hj
      have nR : RN (y 23) := by
        rw [ey]
        exact RN_upd hR hk hz
      have M0 : bv (f_X12_token m) (fun u0 => bd (f_X12_readsLine u0) (fun r0 u1 => (if r0 = 0 then some (u1 38 30, u1) else f_X12_fault_76 (n2 + 1) u1))) = f_X12_fault_76 (n2 + 1) m2 := by
        rw [y1, bv_some, y2, bd_some, if_neg hb]
      by_cases q : a < L
      · rw [if_pos q] at X2
        have la : m2 38 31 - m2 38 30 = nI (tke f L a - a) := by
          rw [e31, e30]
          exact nJ_sub (tke_b f b5.2).1 (by have := (tke_b f b5.2).2.1; omega)
        by_cases q2 : f a = 59
        · have s0 : srt (f a) = 0 := by rw [q2]; decide
          have ta := tke_0 f q s0
          rw [ta] at e29 e31 la
          rw [if_pos q2, if_neg (by omega)] at X2
          have l1 : m2 38 31 - m2 38 30 = 1 := by
            rw [la, show a + 1 - a = 1 by omega]
            rfl
          have l8 : ¬ (8 : Int32) ≤ m2 38 19 := by
            rw [e19']
            intro z
            have := (nJ_le (a := 8) (by decide) (by omega)).mp z
            omega
          obtain ⟨r, x', m', k1, k2, k3, k4, k5⟩ := ih n1 n2 (ln + 1) (a + 1) y m2 (by omega) (by omega) (by rw [ey]; exact h22) (by rw [ey]; exact h21) m53 m16 e29 e19' n55 nR (by omega) (by omega)
          refine ⟨r, x', m', X2.trans k1, ?_, k3, fr.tr k4, fq.tr k5⟩
          rw [M0, f_X12_fault_76_e, if_neg (fun z => by rw [m16, e30] at z; have := (nJ_le (by omega) (by omega)).mp z; omega), if_pos l1, e30, ck_y (nJ_in (n := 160) (by omega) (by decide)), nm_is, nJ_ix (by omega), m53, if_pos q2, if_neg l8]
          unfold f_X12_fault_128 f_X12_fault_142 f_X12_fault_146
          rw [if_neg (by decide)]
          exact k2
        · rw [if_neg q2] at X2
          refine ⟨nI a, y, m2, X2, ?_, fun z => absurd z (nI_ne a (by omega)), fr, fq⟩
          have out : (some (m2 38 30, m2) : Option (Int32 × S2)) = some (nI a, m2) := by rw [e30]
          rw [M0, f_X12_fault_76_e, if_neg (fun z => by rw [m16, e30] at z; have := (nJ_le (by omega) (by omega)).mp z; omega)]
          unfold f_X12_fault_127 f_X12_fault_128 f_X12_fault_142 f_X12_fault_146
          rw [if_pos (c := (0 : Int32) = 0) rfl, if_pos (c := (0 : Int32) = 0) rfl, out, e30, ck_y (nJ_in (n := 160) (by omega) (by decide)), nm_is, nJ_ix (by omega), m53, if_neg q2]
          split <;> rfl
      · rw [if_neg q] at X2
        refine ⟨-1, y, m2, X2, ?_, fun _ => ⟨n55, nR, ?_⟩, fr, fq⟩
        · rw [M0, f_X12_fault_76_e, m16, e30, if_pos ((nJ_le (by omega) (by omega)).mpr (by omega))]
        · rw [e19', ey]
          rfl
theorem M_f12 (N j : Nat) (hj : j < 6) (m : S2) : f_X12_fault_12 (N + 1) (nI j) m = f_X12_fault_12 N (nI (j + 1)) (wr m 55 j (aF j)) := by
  rw [f_X12_fault_12_e]
  unfold f_X12_fault_53
  rcases (show j = 0 ∨ j = 1 ∨ j = 2 ∨ j = 3 ∨ j = 4 ∨ j = 5 by omega) with rfl | rfl | rfl | rfl | rfl | rfl
  · rw [if_neg (by decide), if_neg (by decide), if_neg (by decide), if_neg (by decide), ck_y (by decide), nm_is, nm_is, nI_1]
    rfl
  · rw [if_neg (by decide), if_pos (by decide), ck_y (by decide), nm_is, nm_is, nI_1]
    rfl
  · rw [if_neg (by decide), if_neg (by decide), if_neg (by decide), if_neg (by decide), ck_y (by decide), nm_is, nm_is, nI_1]
    rfl
  · rw [if_neg (by decide), if_neg (by decide), if_pos (by decide), ck_y (by decide), nm_is, nm_is, nI_1]
    rfl
  · rw [if_neg (by decide), if_neg (by decide), if_neg (by decide), if_pos (by decide), ck_y (by decide), nm_is, nm_is, nI_1]
    rfl
  · rw [if_neg (by decide), if_neg (by decide), if_neg (by decide), if_neg (by decide), ck_y (by decide), nm_is, nm_is, nI_1]
    rfl
/-- both sides read the same text -/
theorem fault_both (x m : S2) (L : Nat) (hL : L ≤ 160) (h53 : m 53 = x 22) (h21 : x 21 1 = nI L) (h16 : m 38 16 = nI L) : ∃ r x' m', f_X5_read x = some (r, x') ∧ f_X12_fault m = some (r, m') ∧ (r = -1 → (∀ j, j < 6 → m' 55 j = x' 23 j) ∧ RN (x' 23) ∧ m' 38 19 = x' 21 3) ∧ FR x x' ∧ FQ m m' := by
  obtain ⟨y, ey⟩ : ∃ y, y = va_up x 23 (va_cpy aF (x 23) 0 0 6) := ⟨_, rfl⟩
  have y23 : ∀ j, j < 6 → y 23 j = aF j := by
    intro j hj
    rw [ey, up_s]
    unfold va_cpy
    rw [if_pos ⟨by omega, by omega⟩]
    congr 1
    omega
  have fy : FR x y := by
    rw [ey]
    exact ⟨fun c _ h2 => up_c h2, by rw [up_c (by decide)]⟩
  obtain ⟨w, ew⟩ : ∃ w, w = wr (wr (wr (wr (wr (wr (wr (wr m 38 29 0) 38 19 0) 55 0 (aF 0)) 55 1 (aF 1)) 55 2 (aF 2)) 55 3 (aF 3)) 55 4 (aF 4)) 55 5 (aF 5) := ⟨_, rfl⟩
  have fw : FQ m w := by
    rw [ew]
    refine ⟨fun c h1 h2 => ?_, fun j h1 h2 h3 h4 => ?_⟩
    · rw [wr_c h2, wr_c h2, wr_c h2, wr_c h2, wr_c h2, wr_c h2, wr_c h1, wr_c h1]
    · rw [wr_c (by decide), wr_c (by decide), wr_c (by decide), wr_c (by decide), wr_c (by decide), wr_c (by decide), wr_ne (fun _ => h4), wr_ne (fun _ => h1)]
  have w55 : ∀ j, j < 6 → w 55 j = aF j := by
    intro j hj
    rw [ew]
    rcases (show j = 0 ∨ j = 1 ∨ j = 2 ∨ j = 3 ∨ j = 4 ∨ j = 5 by omega) with rfl | rfl | rfl | rfl | rfl | rfl <;> rfl
  have w29 : w 38 29 = nI 0 := by
    rw [ew]
    rfl
  have w19 : w 38 19 = nI 0 := by
    rw [ew]
    rfl
  have M0 : f_X12_fault m = f_X12_fault_60 w := by
    obtain ⟨N, eN⟩ : ∃ N, FUEL = N + 1 + 1 + 1 + 1 + 1 + 1 + 1 := ⟨993, rfl⟩
    unfold f_X12_fault
    have e0 : f_X12_fault_12 FUEL 0 = f_X12_fault_12 (N + 1 + 1 + 1 + 1 + 1 + 1 + 1) (nI 0) := by
      rw [eN]
      rfl
    rw [nm_is, nm_is, e0, M_f12 _ 0 (by decide), M_f12 _ 1 (by decide), M_f12 _ 2 (by decide), M_f12 _ 3 (by decide), M_f12 _ 4 (by decide), M_f12 _ 5 (by decide), f_X12_fault_12_e, if_pos (by decide), ew]
  have ry : RN (y 23) := by
    unfold RN
    rw [y23 0 (by decide), y23 1 (by decide), y23 2 (by decide), y23 3 (by decide), y23 4 (by decide), y23 5 (by decide)]
    exact ⟨⟨by decide, by decide⟩, ⟨by decide, by decide⟩, ⟨by decide, by decide⟩, ⟨by decide, by decide⟩, ⟨by decide, by decide⟩, ⟨by decide, by decide⟩⟩
  obtain ⟨r, x', m', k1, k2, k3, k4, k5⟩ := lines_l (x 22) L hL 7 FUEL FUEL 0 0 y w rfl (by omega) (fy.1 22 (by decide) (by decide)) (fy.2.trans h21) ((fw.1 53 (by decide) (by decide)).trans h53) ((fw.2 16 (by decide) (by decide) (by decide) (by decide)).trans h16) w29 w19 (fun j hj => by rw [w55 j hj, y23 j hj]) ry (by decide) (by decide)
  refine ⟨r, x', m', ?_, ?_, k3, fy.tr k4, fw.tr k5⟩
  · unfold f_X5_read
    rw [nm_is, ← ey]
    exact k1
  · rw [M0]
    exact k2
theorem Rel_rq {u x w : S2} (h : Rel u) (fx : FR u x) (fm : FQ x w) : Rel w := by
  refine Rel_fr h (fun c hm => ?_) (fun q hm => ?_)
  · have : ∀ c, c ∈ FCl → c ≠ 21 ∧ c ≠ 23 ∧ c ≠ 38 ∧ c ≠ 55 := by decide
    obtain ⟨h1, h2, h3, h4⟩ := this c hm
    rw [fm.1 c h3 h4, fx.1 c h1 h2]
  · have : ∀ q, q ∈ SCl → q.1 ≠ 23 ∧ q.1 ≠ 55 ∧ (q.1 = 38 → q.2 ≠ 29 ∧ q.2 ≠ 30 ∧ q.2 ≠ 31 ∧ q.2 ≠ 19) ∧ (q.1 = 21 → q.2 = 1) := by decide
    obtain ⟨h1, h2, h3, h4⟩ := this q hm
    by_cases c38 : q.1 = 38
    · obtain ⟨z1, z2, z3, z4⟩ := h3 c38
      rw [c38, fm.2 q.2 z1 z2 z3 z4, fx.1 38 (by decide) (by decide)]
    · rw [fm.1 q.1 c38 h2]
      by_cases c21 : q.1 = 21
      · rw [c21, h4 c21]
        exact fx.2
      · rw [fx.1 q.1 c21 h1]
theorem fault_u (u : S2) (h : Rel u) : ∃ r x w, f_X5_read u = some (r, x) ∧ f_X12_fault x = some (r, w) ∧ (r = -1 → (∀ j, j < 6 → w 55 j = x 23 j) ∧ RN (x 23) ∧ w 38 19 = x 21 3) ∧ FR u x ∧ FQ x w := by
  obtain ⟨q1, q2, q3⟩ := h.2.2.2.2.2.1
  have s1 := q3.1
  have s2 := q3.2
  obtain ⟨L, eL⟩ : ∃ L : Nat, (u 21 1).toInt = L := ⟨(u 21 1).toInt.toNat, by omega⟩
  have h21 : u 21 1 = nI L := ti_ext (by rw [eL, nI_toInt (by omega)])
  obtain ⟨r, x, -, x1, -, -, fx, -⟩ := fault_both u u L (by omega) q1 h21 (q2.trans h21)
  have x38 : x 38 = u 38 := fx.1 38 (by decide) (by decide)
  obtain ⟨r2, x', w, y1, y2, y3, -, fw⟩ := fault_both u x L (by omega) ((fx.1 53 (by decide) (by decide)).trans q1) h21 (by rw [x38]; exact q2.trans h21)
  have er : r2 = r := pr1 (y1.symm.trans x1)
  have ex : x' = x := pr2 (y1.symm.trans x1)
  rw [er] at y2 y3
  rw [ex] at y3
  exact ⟨r, x, w, x1, y2, y3, fx, fw⟩
theorem s_fault : St_0 f_X11_fault f_X12_fault Rel := by
  intro u h
  obtain ⟨r, x, w, x1, y2, y3, fx, fw⟩ := fault_u u h
  refine ⟨r, x, w, ?_, y2, Rel_rq h fx fw⟩
  unfold f_X11_fault
  rw [x1, bd_some]
theorem M_s13 (N j : Nat) (hj : j < 6) (m : S2) : f_X12_steerer_13 (N + 1) (nI j) m = f_X12_steerer_13 N (nI (j + 1)) (wr m 54 j (m 55 j)) := by
  have i6 : inb (nI j) 6 = true := nJ_in hj (by decide)
  rw [f_X12_steerer_13_e, if_neg (fun z => by have := (nJ_le (a := 6) (by decide) (by omega)).mp z; omega), ck_y i6, nm_is, ck_y i6, nm_is, nm_is, nJ_ix (by omega), nI_1]
