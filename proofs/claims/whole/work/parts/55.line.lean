/-! a line of a steerer -/
def wdx (f : Nat → Int32) (s e : Nat) : Int32 := if spl f s e 0 then 0 else if spl f s e 1 then 1 else if spl f s e 2 then 2 else if spl f s e 3 then 3 else if spl f s e 4 then 4 else if spl f s e 5 then 5 else -1
theorem X_word (f : Nat → Int32) (L s : Nat) (hL : L ≤ 160) (hs : s ≤ L) (u : S2) (h22 : u 22 = f) (h21 : u 21 1 = nI L) : f_X5_wordAt (nI s) u = some (wdx f s (tke f L s), u) := by
  have tb := tke_b f hs
  obtain ⟨e, ee⟩ : ∃ e, e = tke f L s := ⟨_, rfl⟩
  unfold f_X5_wordAt
  rw [X_tke f L s hL hs u h22 h21, bd_some]
  rw [← ee] at tb ⊢
  obtain ⟨N, eN⟩ : ∃ N, FUEL = N + 1 + 1 + 1 + 1 + 1 + 1 + 1 := ⟨993, rfl⟩
  have one : ∀ (n k : Nat) (v : Int32), wIx v = k → (¬ (6 : Int32) ≤ v) → f_X5_wordAt_8 (n + 1) (nI s) (nI e) v u = if spl f s e k then some (v, u) else f_X5_wordAt_8 n (nI s) (nI e) (v + 1) u := by
    intro n k v hk hv
    rw [f_X5_wordAt_8_e, if_neg hv, nm_is, hk, X_spelt f s e k tb.1 (by omega) u h22, bd_some]
    cases spl f s e k
    · rw [if_pos (c := (if false = true then (1 : Int32) else 0) = 0) (by decide), nm_is, if_neg (by decide)]
    · rw [if_neg (c := (if true = true then (1 : Int32) else 0) = 0) (by decide), if_pos rfl]
  rw [eN, one _ 0 0 (by decide) (by decide), one _ 1 (0 + 1) (by decide) (by decide), one _ 2 (0 + 1 + 1) (by decide) (by decide), one _ 3 (0 + 1 + 1 + 1) (by decide) (by decide), one _ 4 (0 + 1 + 1 + 1 + 1) (by decide) (by decide), one _ 5 (0 + 1 + 1 + 1 + 1 + 1) (by decide) (by decide), f_X5_wordAt_8_e, if_pos (c := (6 : Int32) ≤ 0 + 1 + 1 + 1 + 1 + 1 + 1) (by decide)]
  have a1 : (0 : Int32) + 1 = 1 := by decide
  have a2 : (1 : Int32) + 1 = 2 := by decide
  have a3 : (2 : Int32) + 1 = 3 := by decide
  have a4 : (3 : Int32) + 1 = 4 := by decide
  have a5 : (4 : Int32) + 1 = 5 := by decide
  rw [a1, a2, a3, a4, a5]
  unfold wdx
  cases spl f s e 0
  · cases spl f s e 1
    · cases spl f s e 2
      · cases spl f s e 3
        · cases spl f s e 4
          · cases spl f s e 5
            · rfl
            · rfl
          · rfl
        · rfl
      · rfl
    · rfl
  · rfl
theorem M_line_w (f : Nat → Int32) (s e : Nat) (he : s ≤ e) (he2 : e ≤ 160) (m : S2) (h53 : m 53 = f) (h30 : m 38 30 = nI s) (h31 : m 38 31 = nI e) : f_X12_readsLine m = f_X12_readsLine_86 (wdx f s e) m := by
  have w0 := M_word f s e 0 132260 4 he he2 (by decide) (by decide) m h53 h30 h31
  have w1 := M_word f s e 1 468007 4 he he2 (by decide) (by decide) m h53 h30 h31
  have w2 := M_word f s e 2 660653 4 he he2 (by decide) (by decide) m h53 h30 h31
  have w3 := M_word f s e 3 675309 4 he he2 (by decide) (by decide) m h53 h30 h31
  have w4 := M_word f s e 4 26810053 5 he he2 (by decide) (by decide) m h53 h30 h31
  have w5 := M_word f s e 5 802 2 he he2 (by decide) (by decide) m h53 h30 h31
  unfold f_X12_readsLine wdx
  rw [w0, bd_some]
  cases spl f s e 0
  · rw [if_pos (c := (if false = true then (1 : Int32) else 0) = 0) (by decide), w1, bd_some]
    cases spl f s e 1
    · rw [if_pos (c := (if false = true then (1 : Int32) else 0) = 0) (by decide), w2, bd_some]
      cases spl f s e 2
      · rw [if_pos (c := (if false = true then (1 : Int32) else 0) = 0) (by decide), w3, bd_some]
        cases spl f s e 3
        · rw [if_pos (c := (if false = true then (1 : Int32) else 0) = 0) (by decide), w4, bd_some]
          cases spl f s e 4
          · rw [if_pos (c := (if false = true then (1 : Int32) else 0) = 0) (by decide), w5, bd_some]
            cases spl f s e 5
            · rw [if_pos (c := (if false = true then (1 : Int32) else 0) = 0) (by decide)]
              rfl
            · rw [if_neg (c := (if true = true then (1 : Int32) else 0) = 0) (by decide)]
              rfl
          · rw [if_neg (c := (if true = true then (1 : Int32) else 0) = 0) (by decide)]
            rfl
        · rw [if_neg (c := (if true = true then (1 : Int32) else 0) = 0) (by decide)]
          rfl
      · rw [if_neg (c := (if true = true then (1 : Int32) else 0) = 0) (by decide)]
        rfl
    · rw [if_neg (c := (if true = true then (1 : Int32) else 0) = 0) (by decide)]
      rfl
  · rw [if_neg (c := (if true = true then (1 : Int32) else 0) = 0) (by decide)]
    rfl
theorem wdx_c (f : Nat → Int32) (s e : Nat) : wdx f s e = -1 ∨ ∃ k, k < 6 ∧ wdx f s e = nI k := by
  unfold wdx
  split
  · exact Or.inr ⟨0, by decide, rfl⟩
  · split
    · exact Or.inr ⟨1, by decide, rfl⟩
    · split
      · exact Or.inr ⟨2, by decide, rfl⟩
      · split
        · exact Or.inr ⟨3, by decide, rfl⟩
        · split
          · exact Or.inr ⟨4, by decide, rfl⟩
          · split
            · exact Or.inr ⟨5, by decide, rfl⟩
            · exact Or.inl rfl
def nmr (f : Nat → Int32) : Nat → Nat → Int32 → Int32
  | 0, _, a => a
  | d + 1, i, a => nmr f d (i + 1) (a * 10 + f i - 48)
theorem X_nm_l (f : Nat → Int32) (e : Nat) (he : e ≤ 160) (u : S2) (h22 : u 22 = f) : ∀ (d N i : Nat) (a : Int32), i + d = e → d < N → f_X5_numberAt_40 N (nI e) a (nI i) u = some (nmr f d i a, u) := by
  intro d
  induction d with
  | zero =>
    intro N i a hd hN
    obtain ⟨n2, rfl⟩ : ∃ n2, N = n2 + 1 := ⟨N - 1, by omega⟩
    rw [f_X5_numberAt_40_e, if_pos ((nJ_le (by omega) (by omega)).mpr (by omega))]
    rfl
  | succ d ih =>
    intro N i a hd hN
    obtain ⟨n2, rfl⟩ : ∃ n2, N = n2 + 1 := ⟨N - 1, by omega⟩
    rw [f_X5_numberAt_40_e, if_neg (fun z => by have := (nJ_le (by omega) (by omega)).mp z; omega), ck_y (nJ_in (n := 160) (by omega) (by decide)), nm_is, nJ_ix (by omega), h22, nm_is, nm_is, nI_1]
    exact ih n2 (i + 1) _ (by omega) (by omega)
theorem M_nm_l (f : Nat → Int32) (e : Nat) (he : e ≤ 160) (w : Int32) (m : S2) (h53 : m 53 = f) (h31 : m 38 31 = nI e) : ∀ (d N i : Nat) (a : Int32), i + d = e → d < N → f_X12_readsLine_147 N w a (nI i) m = f_X12_readsLine_176 w (nmr f d i a) m := by
  intro d
  induction d with
  | zero =>
    intro N i a hd hN
    obtain ⟨n2, rfl⟩ : ∃ n2, N = n2 + 1 := ⟨N - 1, by omega⟩
    rw [f_X12_readsLine_147_e, h31, if_pos ((nJ_le (by omega) (by omega)).mpr (by omega))]
    rfl
  | succ d ih =>
    intro N i a hd hN
    obtain ⟨n2, rfl⟩ : ∃ n2, N = n2 + 1 := ⟨N - 1, by omega⟩
    rw [f_X12_readsLine_147_e, h31, if_neg (fun z => by have := (nJ_le (by omega) (by omega)).mp z; omega), ck_y (nJ_in (n := 160) (by omega) (by decide)), nm_is, nJ_ix (by omega), h53, nm_is, nm_is, nI_1, Int32.mul_comm 10 a]
    exact ih n2 (i + 1) _ (by omega) (by omega)
def okN (f : Nat → Int32) (L d : Nat) : Bool := decide (d < L) && decide (srt (f d) = 2) && decide (tke f L d - d ≤ 3)
def nbr (f : Nat → Int32) (L d : Nat) : Int32 := if okN f L d then nmr f (tke f L d - d) d 0 else -1
theorem X_number (f : Nat → Int32) (L d : Nat) (hL : L ≤ 160) (hd : d ≤ L) (u : S2) (h22 : u 22 = f) (h21 : u 21 1 = nI L) : f_X5_numberAt (nI d) u = some (nbr f L d, u) := by
  have tb := tke_b f hd
  obtain ⟨e, ee⟩ : ∃ e, e = tke f L d := ⟨_, rfl⟩
  unfold f_X5_numberAt nbr okN
  rw [X_tke f L d hL hd u h22 h21, bd_some, h21]
  rw [← ee] at tb ⊢
  by_cases q : d < L
  · rw [if_neg (fun z => by have := (nJ_le (by omega) (by omega)).mp z; omega), ck_y (nJ_in (n := 160) (by omega) (by decide)), nm_is, nJ_ix (by omega), h22, X_digit, bd_some, decide_eq_true q, Bool.true_and]
    by_cases q2 : srt (f d) = 2
    · have h3 : (nI e - nI d ≤ 3) = (e - d ≤ 3) := by
        rw [nJ_sub tb.1 (by omega)]
        exact propext (nJ_le (b := 3) (by omega) (by decide))
      rw [if_pos q2, if_neg (c := (1 : Int32) = 0) (by decide), decide_eq_true q2, Bool.true_and]
      by_cases q3 : e - d ≤ 3
      · rw [if_pos (h3.mpr q3), decide_eq_true q3, if_pos rfl]
        exact X_nm_l f e (by omega) u h22 (e - d) FUEL d 0 (by omega) (by show _ < 1000; omega)
      · rw [if_neg (fun z => q3 (h3.mp z)), decide_eq_false q3, if_neg (by decide)]
    · rw [if_neg q2, if_pos (c := (0 : Int32) = 0) rfl, decide_eq_false q2, Bool.false_and, if_neg (by decide)]
  · rw [if_pos ((nJ_le (by omega) (by omega)).mpr (by omega)), decide_eq_false q, Bool.false_and, Bool.false_and, if_neg (by decide)]
/-- what reading may change -/
def FQ (m n : S2) : Prop := (∀ c, c ≠ 38 → c ≠ 55 → n c = m c) ∧ ∀ i, i ≠ 29 → i ≠ 30 → i ≠ 31 → i ≠ 19 → n 38 i = m 38 i
theorem FP.q {m n : S2} (h : FP m n) : FQ m n := ⟨fun c a _ => h.1 c a, fun i a b c _ => h.2 i a b c⟩
theorem FQ.tr {m n o : S2} (h : FQ m n) (k : FQ n o) : FQ m o := ⟨fun c a b => (k.1 c a b).trans (h.1 c a b), fun i a b c d => (k.2 i a b c d).trans (h.2 i a b c d)⟩
theorem M_176 (k : Nat) (hk : k < 6) (v : Int32) (m : S2) : f_X12_readsLine_176 (nI k) v m = (if inR v (aL k) (aG k) = 0 then some (0, m) else (nm (wr m 55 k v) (fun u1 => nm ((u1 38 19) + 1) (fun x0 => nm (wr u1 38 19 x0) (fun u2 => bv (f_X12_token u2) (fun u3 => some (1, u3))))))) := by
  have fin : ∀ (t1 t2 : Int64) (a b : Int32), t1 = a.toInt64 → t2 = b.toInt64 → f_X12_readsLine_224 (nI k) v v.toInt64 t1 t2 m = (if inR v a b = 0 then some (0, m) else (nm (wr m 55 k v) (fun u1 => nm ((u1 38 19) + 1) (fun x0 => nm (wr u1 38 19 x0) (fun u2 => bv (f_X12_token u2) (fun u3 => some (1, u3))))))) := by
    intro t1 t2 a b e1 e2
    unfold f_X12_readsLine_224
    rw [e1, e2, L_in, bd_some, ck_y (nJ_in hk (by decide)), nJ_ix (by omega)]
  unfold f_X12_readsLine_176 f_X12_readsLine_188
  rcases (show k = 0 ∨ k = 1 ∨ k = 2 ∨ k = 3 ∨ k = 4 ∨ k = 5 by omega) with rfl | rfl | rfl | rfl | rfl | rfl
  · rw [if_neg (by decide), if_neg (by decide), if_neg (by decide), if_neg (by decide)]
    exact fin 0 999 0 999 (by decide) (by decide)
  · rw [if_neg (by decide), if_neg (by decide), if_neg (by decide), if_neg (by decide)]
    exact fin 0 999 0 999 (by decide) (by decide)
  · rw [if_neg (by decide), if_neg (by decide), if_neg (by decide), if_neg (by decide)]
    exact fin 0 999 0 999 (by decide) (by decide)
  · rw [if_neg (by decide), if_pos (by decide)]
    exact fin 0 35 0 35 (by decide) (by decide)
  · rw [if_pos (by decide), if_neg (by decide), if_pos (by decide)]
    exact fin 1 99 1 99 (by decide) (by decide)
  · rw [if_neg (by decide), if_neg (by decide), if_neg (by decide), if_pos (by decide)]
    exact fin 0 2 0 2 (by decide) (by decide)
/-- a line at the reference -/
theorem M_line (f : Nat → Int32) (L i : Nat) (hL : L ≤ 160) (hi : i ≤ L) (m : S2) (h53 : m 53 = f) (h16 : m 38 16 = nI L) (h29 : m 38 29 = nI i) (s d a : Nat) (es : s = bl f L i) (ed : d = bl f L (tke f L s)) (ea : a = bl f L (tke f L d)) : ∃ m1 b m2, f_X12_token m = some m1 ∧ f_X12_readsLine m1 = some (b, m2) ∧ FQ m m2 ∧ ((wdx f s (tke f L s) = -1 ∧ b = 0 ∧ m2 38 30 = nI s) ∨ ∃ k, k < 6 ∧ wdx f s (tke f L s) = nI k ∧ ((inR (nbr f L d) (aL k) (aG k) = 0 ∧ b = 0 ∧ m2 38 30 = nI d) ∨ (¬ inR (nbr f L d) (aL k) (aG k) = 0 ∧ b = 1 ∧ m2 55 = upd (m 55) k (nbr f L d) ∧ m2 38 19 = m 38 19 + 1 ∧ m2 38 30 = nI a ∧ m2 38 31 = nI (tke f L a) ∧ m2 38 29 = nI (tke f L a)))) := by
  obtain ⟨m1, t1, t2, t3, t4, t5⟩ := M_token f L i hL hi m h53 h16 h29
  have b1 := bl_b f hi
  rw [← es] at t2 t3 t4 b1
  have b2 := tke_b f b1.2
  obtain ⟨e, ee⟩ : ∃ e, e = tke f L s := ⟨_, rfl⟩
  rw [← ee] at t2 t4 b2 ed ⊢
  have b3 := bl_b f b2.2.1
  rw [← ed] at b3
  have b4 := tke_b f b3.2
  obtain ⟨de, ede⟩ : ∃ de, de = tke f L d := ⟨_, rfl⟩
  rw [← ede] at b4 ea
  have b5 := bl_b f b4.2.1
  rw [← ea] at b5
  have p53 : m1 53 = f := (t5.1 53 (by decide)).trans h53
  have p16 : m1 38 16 = nI L := (t5.2 16 (by decide) (by decide) (by decide)).trans h16
  have r1 := M_line_w f s e b2.1 (by omega) m1 p53 t3 t4
  rcases wdx_c f s e with hw | ⟨k, hk, hw⟩
  · refine ⟨m1, 0, m1, t1, ?_, t5.q, Or.inl ⟨hw, rfl, t3⟩⟩
    rw [r1, hw]
    unfold f_X12_readsLine_86
    rw [if_pos rfl]
  · have hkn : ¬ nI k = -1 := nI_ne k (by omega)
    obtain ⟨n, u1, u2, u3, u4, u5⟩ := M_token f L e hL b2.2.1 m1 p53 p16 t2
    rw [← ed] at u2 u3 u4
    rw [← ede] at u2 u4
    have n53 : n 53 = f := (u5.1 53 (by decide)).trans p53
    have n16 : n 38 16 = nI L := (u5.2 16 (by decide) (by decide) (by decide)).trans p16
    have fq1 : FQ m n := t5.q.tr u5.q
    have al0 : aL k = 0 ∨ aL k = 1 := by
      unfold aL
      split
      · exact Or.inr rfl
      · exact Or.inl rfl
    have neg : inR (-1) (aL k) (aG k) = 0 := by
      rw [inR_0]
      intro z
      have := ti_le.mp z.1
      rcases al0 with e0 | e0
      · rw [e0] at this
        exact absurd this (by decide)
      · rw [e0] at this
        exact absurd this (by decide)
    have bad : okN f L d = false → inR (nbr f L d) (aL k) (aG k) = 0 := by
      intro h0
      unfold nbr
      rw [h0, if_neg (by decide)]
      exact neg
    have e86 : f_X12_readsLine_86 (nI k) m1 = if okN f L d then f_X12_readsLine_176 (nI k) (nbr f L d) n else some (0, n) := by
      unfold f_X12_readsLine_86
      rw [if_neg hkn, u1, bv_some, u3, n16]
      by_cases q : d < L
      · rw [if_neg (fun z => by have := (nJ_inj (by omega) (by omega)).mp z; omega), ck_y (nJ_in (n := 160) (by omega) (by decide)), nm_is, nJ_ix (by omega), n53, M_sort, bd_some]
        by_cases q2 : srt (f d) = 2
        · have h3 : (nI de - nI d ≤ 3) = (de - d ≤ 3) := by
            rw [nJ_sub b4.1 (by omega)]
            exact propext (nJ_le (b := 3) (by omega) (by decide))
          rw [if_pos q2, u4, u3]
          by_cases q3 : de - d ≤ 3
          · have ok : okN f L d = true := by
              unfold okN
              rw [← ede, decide_eq_true q, decide_eq_true q2, decide_eq_true q3]
              rfl
            rw [if_pos (h3.mpr q3), nm_is, ok, if_pos rfl]
            have l := M_nm_l f de (by omega) (nI k) n n53 u4 (de - d) FUEL d 0 (by omega) (by show _ < 1000; omega)
            rw [l]
            unfold nbr
            rw [ok, if_pos rfl, ← ede]
          · have ok : okN f L d = false := by
              unfold okN
              rw [← ede, decide_eq_false q3, Bool.and_false]
            rw [if_neg (fun z => q3 (h3.mp z)), ok, if_neg (by decide)]
        · have ok : okN f L d = false := by
            unfold okN
            rw [decide_eq_false q2, Bool.and_false, Bool.false_and]
          rw [if_neg q2, ok, if_neg (by decide)]
      · have ok : okN f L d = false := by
          unfold okN
          rw [decide_eq_false q, Bool.false_and, Bool.false_and]
        rw [if_pos ((nJ_inj (by omega) (by omega)).mpr (by omega)), ok, if_neg (by decide)]
    cases ok : okN f L d
    · refine ⟨m1, 0, n, t1, ?_, fq1, Or.inr ⟨k, hk, hw, Or.inl ⟨bad ok, rfl, u3⟩⟩⟩
      rw [r1, hw, e86, ok, if_neg (by decide)]
    · by_cases z : inR (nbr f L d) (aL k) (aG k) = 0
      · refine ⟨m1, 0, n, t1, ?_, fq1, Or.inr ⟨k, hk, hw, Or.inl ⟨z, rfl, u3⟩⟩⟩
        rw [r1, hw, e86, ok, if_pos rfl, M_176 k hk, if_pos z]
      · obtain ⟨v, ev⟩ : ∃ v, v = nbr f L d := ⟨_, rfl⟩
        rw [← ev] at z ⊢
        obtain ⟨w, ew⟩ : ∃ w, w = wr (wr n 55 k v) 38 19 (n 38 19 + 1) := ⟨_, rfl⟩
        have w53 : w 53 = f := by rw [ew]; exact n53
        have w16 : w 38 16 = nI L := by rw [ew]; exact n16
        have w29 : w 38 29 = nI de := by rw [ew]; exact u2
        obtain ⟨o, v1, v2, v3, v4, v5⟩ := M_token f L de hL b4.2.1 w w53 w16 w29
        rw [← ea] at v2 v3 v4
        have fqw : FQ n w := by
          rw [ew]
          refine ⟨fun c h1 h2 => ?_, fun j h1 h2 h3 h4 => ?_⟩
          · rw [wr_c h1, wr_c h2]
          · rw [wr_ne (fun _ => h4)]
            rfl
        refine ⟨m1, 1, o, t1, ?_, (fq1.tr fqw).tr v5.q, Or.inr ⟨k, hk, hw, Or.inr ⟨z, rfl, ?_, ?_, v3, v4, v2⟩⟩⟩
        · rw [r1, hw, e86, ok, if_pos rfl, ← ev, M_176 k hk, if_neg z, nm_is]
          have q19 : (wr n 55 k v) 38 19 = n 38 19 := rfl
          rw [q19, nm_is, nm_is, ← ew, v1, bv_some]
        · rw [v5.1 55 (by decide), ew]
          have n55 : n 55 = m 55 := (u5.1 55 (by decide)).trans (t5.1 55 (by decide))
          show upd (n 55) k v = _
          rw [n55]
        · rw [v5.2 19 (by decide) (by decide) (by decide), ew]
          have n19 : n 38 19 = m 38 19 := (u5.2 19 (by decide) (by decide) (by decide)).trans (t5.2 19 (by decide) (by decide) (by decide))
          show n 38 19 + 1 = _
          rw [n19]
/-- a line at the class -/
theorem X_line (f : Nat → Int32) (L i ln N : Nat) (hL : L ≤ 160) (hi : i ≤ L) (hl : ln ≤ 8) (x : S2) (h22 : x 22 = f) (h21 : x 21 1 = nI L) (s d a : Nat) (es : s = bl f L i) (ed : d = bl f L (tke f L s)) (ea : a = bl f L (tke f L d)) : (wdx f s (tke f L s) = -1 → f_X5_read_18 (N + 1) (nI i) (nI ln) x = some (nI s, x)) ∧ ∀ k, k < 6 → wdx f s (tke f L s) = nI k → (inR (nbr f L d) (aL k) (aG k) = 0 → f_X5_read_18 (N + 1) (nI i) (nI ln) x = some (nI d, x)) ∧ (¬ inR (nbr f L d) (aL k) (aG k) = 0 → f_X5_read_18 (N + 1) (nI i) (nI ln) x = (if a < L then (if f a = 59 then (if ln = 8 then some (nI a, wr (wr x 23 k (nbr f L d)) 21 3 (nI ln)) else f_X5_read_18 N (nI (a + 1)) (nI (ln + 1)) (wr (wr x 23 k (nbr f L d)) 21 3 (nI ln))) else some (nI a, wr (wr x 23 k (nbr f L d)) 21 3 (nI ln))) else some (-1, wr (wr x 23 k (nbr f L d)) 21 3 (nI ln)))) := by
  have b1 := bl_b f hi
  rw [← es] at b1
  have b2 := tke_b f b1.2
  have b3 := bl_b f b2.2.1
  rw [← ed] at b3
  have b4 := tke_b f b3.2
  have b5 := bl_b f b4.2.1
  rw [← ea] at b5
  have c8 : ¬ (8 : Int32) < nI ln := fun z => by have := (nJ_lt (a := 8) (by decide) (by omega)).mp z; omega
  have start : ∀ z, f_X5_read_18 (N + 1) (nI i) (nI ln) x = z ↔ (if wdx f s (tke f L s) = -1 then some (nI s, x) else bd (f_X5_tokenEnd (nI s) x) (fun r2 u2 => bd (f_X5_behindBlanks r2 u2) (fun r3 u3 => bd (f_X5_numberAt r3 u3) (fun r4 u4 => ck (inb (wdx f s (tke f L s)) 6) (nm (aL (Int32.toNatClampNeg (wdx f s (tke f L s)))) (fun x0 => ck (inb (wdx f s (tke f L s)) 6) (nm (aG (Int32.toNatClampNeg (wdx f s (tke f L s)))) (fun x1 => bd (f_X11_isWithin r4 x0 x1 u4) (fun r5 u5 => (if r5 = 0 then some (r3, u5) else ck (inb (wdx f s (tke f L s)) 6) (nm (wr u5 23 (Int32.toNatClampNeg (wdx f s (tke f L s))) r4) (fun u6 => nm (wr u6 21 3 (nI ln)) (fun u7 => bd (f_X5_tokenEnd r3 u7) (fun r6 u8 => bd (f_X5_behindBlanks r6 u8) (fun r7 u9 => (if r7 < (u9 21 1) then ck (inb r7 160) (nm (u9 22 (Int32.toNatClampNeg r7)) (fun x2 => (if x2 = 59 then (if nI ln = 8 then some (r7, u9) else nm (r7 + 1) (fun x3 => nm (nI ln + 1) (fun x4 => f_X5_read_18 N x3 x4 u9))) else some (r7, u9)))) else some ((-1), u9))))))))))))))))) = z := by
    intro z
    rw [f_X5_read_18_e, if_neg c8, X_bl f L i hL hi x h22 h21, bd_some, ← es, X_word f L s hL b1.2 x h22 h21, bd_some]
  refine ⟨fun hw => (start _).mpr (by rw [if_pos hw]), fun k hk hw => ?_⟩
  have hkn : ¬ nI k = -1 := nI_ne k (by omega)
  have ik : inb (nI k) 6 = true := nJ_in hk (by decide)
  have xk : Int32.toNatClampNeg (nI k) = k := nJ_ix (by omega)
  rw [hw] at start
  have mid : ∀ z, f_X5_read_18 (N + 1) (nI i) (nI ln) x = z ↔ (if inR (nbr f L d) (aL k) (aG k) = 0 then some (nI d, x) else ck (inb (nI k) 6) (nm (wr x 23 k (nbr f L d)) (fun u6 => nm (wr u6 21 3 (nI ln)) (fun u7 => bd (f_X5_tokenEnd (nI d) u7) (fun r6 u8 => bd (f_X5_behindBlanks r6 u8) (fun r7 u9 => (if r7 < (u9 21 1) then ck (inb r7 160) (nm (u9 22 (Int32.toNatClampNeg r7)) (fun x2 => (if x2 = 59 then (if nI ln = 8 then some (r7, u9) else nm (r7 + 1) (fun x3 => nm (nI ln + 1) (fun x4 => f_X5_read_18 N x3 x4 u9))) else some (r7, u9)))) else some ((-1), u9)))))))) = z := by
    intro z
    rw [start, if_neg hkn, X_tke f L s hL b1.2 x h22 h21, bd_some, X_bl f L _ hL b2.2.1 x h22 h21, bd_some, ← ed, X_number f L d hL b3.2 x h22 h21, bd_some, ck_y ik, nm_is, ck_y ik, nm_is, xk, L_isWithin, bd_some]
  refine ⟨fun hz => (mid _).mpr (by rw [if_pos hz]), fun hz => (mid _).mpr ?_⟩
  obtain ⟨v, ev⟩ : ∃ v, v = nbr f L d := ⟨_, rfl⟩
  rw [← ev] at hz ⊢
  obtain ⟨y, ey⟩ : ∃ y, y = wr (wr x 23 k v) 21 3 (nI ln) := ⟨_, rfl⟩
  have y22 : y 22 = f := by rw [ey]; exact h22
  have y21 : y 21 1 = nI L := by rw [ey]; exact h21
  rw [if_neg hz, ck_y ik, nm_is, nm_is, ← ey, X_tke f L d hL b3.2 y y22 y21, bd_some, X_bl f L _ hL b4.2.1 y y22 y21, bd_some, ← ea, y21]
  by_cases q : a < L
  · rw [if_pos ((nJ_lt (by omega) (by omega)).mpr q), if_pos q, ck_y (nJ_in (n := 160) (by omega) (by decide)), nm_is, nJ_ix (by omega), y22]
    by_cases q2 : f a = 59
    · rw [if_pos q2, if_pos q2]
      by_cases q3 : ln = 8
      · rw [if_pos q3, if_pos (by rw [q3]; decide)]
      · rw [if_neg q3, if_neg (c := nI ln = 8) (fun z => q3 ((nJ_inj (b := 8) (by omega) (by decide)).mp z)), nm_is, nm_is, nI_1, nI_1]
    · rw [if_neg q2, if_neg q2]
  · rw [if_neg (fun z => q ((nJ_lt (by omega) (by omega)).mp z)), if_neg q]
