/-! a quick turn: turned, bestPull -/
def dst (pull damp kick hold k t : Int32) : Nat → Int32 × Int32
  | 0 => (0, 0)
  | i + 1 => (wrp ((dst pull damp kick hold k t i).1 + swR (dst pull damp kick hold k t i).2 pull damp kick hold (dst pull damp kick hold k t i).1 (if (i : Int) < k.toInt then t else 0) 1), swR (dst pull damp kick hold k t i).2 pull damp kick hold (dst pull damp kick hold k t i).1 (if (i : Int) < k.toInt then t else 0) 1)
def mxs (pull damp kick hold k t : Int32) : Nat → Int32
  | 0 => 0
  | i + 1 => if mxs pull damp kick hold k t i < siz (dst pull damp kick hold k t (i + 1)).1 then siz (dst pull damp kick hold k t (i + 1)).1 else mxs pull damp kick hold k t i
theorem dst_rg (pull damp kick hold k t : Int32) (i : Nat) : rg (dst pull damp kick hold k t i).1 (-18000) 17999 := by
  cases i with
  | zero => exact (show rg 0 (-18000) 17999 from ⟨by decide, by decide⟩)
  | succ i => exact wrp_rg _
theorem X_disturbed_l (hold n k t pull damp kick : Int32) : ∀ (d N i : Nat) (v8 v7 : Int32) (u : S2), v8.toInt = i → v7 = mxs pull damp kick hold k t i → u 16 4 = (dst pull damp kick hold k t i).1 → u 16 5 = (dst pull damp kick hold k t i).2 → u 16 1 = pull → u 16 2 = damp → u 16 3 = kick → (i : Int) + d = n.toInt → d < N → ∃ u', f_X8_disturbed_30 N hold n k t v7 v8 u = some (mxs pull damp kick hold k t (i + d), u') ∧ ∀ c, c ≠ 16 → u' c = u c := by
  intro d
  induction d with
  | zero =>
    intro N i v8 v7 u h8 h7 h4 h5 h1 h2 h3 hd hN
    obtain ⟨n2, rfl⟩ : ∃ n2, N = n2 + 1 := ⟨N - 1, by omega⟩
    refine ⟨u, ?_, fun _ _ => rfl⟩
    rw [f_X8_disturbed_30_e, if_pos (ti_le.mpr (by omega)), h7]
    rfl
  | succ d ih =>
    intro N i v8 v7 u h8 h7 h4 h5 h1 h2 h3 hd hN
    obtain ⟨n2, rfl⟩ : ∃ n2, N = n2 + 1 := ⟨N - 1, by omega⟩
    have hb := ti_rg n
    have c : ¬ n ≤ v8 := fun z => by have := ti_le.mp z; omega
    have e8 : (v8 + 1).toInt = ((i + 1 : Nat) : Int) := by
      rw [ti_add (by show _ ≤ v8.toInt + (1 : Int); omega) (by show v8.toInt + (1 : Int) ≤ _; omega)]
      show v8.toInt + (1 : Int) = _
      omega
    have ho : rg (u 16 4) (-18000) 17999 := by rw [h4]; exact dst_rg _ _ _ _ _ _ _
    have go : ∀ (tt : Int32), tt = (if (i : Int) < k.toInt then t else 0) → ∃ u', f_X8_disturbed_62 (fun v3 v4 v5 v6 v7 v8 u => f_X8_disturbed_30 n2 v3 v4 v5 v6 v7 v8 u) hold n k t v7 v8 hold (u 16 4) tt u = some (mxs pull damp kick hold k t (i + (d + 1)), u') ∧ ∀ c, c ≠ 16 → u' c = u c := by
      intro tt et
      unfold f_X8_disturbed_62
      rw [X_sway 16 _ _ _ _ _ ho, bv_some]
      obtain ⟨rr, er⟩ : ∃ rr, rr = swR (u 16 5) (u 16 1) (u 16 2) (u 16 3) hold (u 16 4) tt 1 := ⟨_, rfl⟩
      obtain ⟨oo, eo⟩ : ∃ oo, oo = wrp (u 16 4 + rr) := ⟨_, rfl⟩
      rw [← er, ← eo]
      have e4 : (pst u 16 oo rr) 16 4 = oo := rfl
      have e5 : (pst u 16 oo rr) 16 5 = rr := rfl
      have er2 : rr = (dst pull damp kick hold k t (i + 1)).2 := by
        rw [er, h5, h1, h2, h3, h4, et]
        rfl
      have eo2 : oo = (dst pull damp kick hold k t (i + 1)).1 := by
        rw [eo, er, h5, h1, h2, h3, h4, et]
        rfl
      have em : jmax v7 (siz oo) = mxs pull damp kick hold k t (i + 1) := by
        rw [h7, eo2]
        rfl
      rw [nm_is, nm_is, nm_is, e4, jabs_siz, em]
      obtain ⟨u', k1, k2⟩ := ih n2 (i + 1) (v8 + 1) (mxs pull damp kick hold k t (i + 1)) (pst u 16 oo rr) e8 rfl (by rw [e4]; exact eo2) (by rw [e5]; exact er2) h1 h2 h3 (by omega) (by omega)
      refine ⟨u', ?_, ?_⟩
      · have e : i + (d + 1) = i + 1 + d := by omega
        rw [e]
        exact k1
      · intro cc hc
        rw [k2 cc hc]
        exact up_c hc
    by_cases q : k ≤ v8
    · obtain ⟨u', k1, k2⟩ := go 0 (by rw [if_neg (by have := ti_le.mp q; omega)])
      exact ⟨u', by rw [f_X8_disturbed_30_e, if_neg c, if_pos q]; exact k1, k2⟩
    · obtain ⟨u', k1, k2⟩ := go t (by rw [if_pos (by have : ¬ k.toInt ≤ v8.toInt := fun z => q (ti_le.mpr z); omega)])
      exact ⟨u', by rw [f_X8_disturbed_30_e, if_neg c, if_neg q]; exact k1, k2⟩
theorem X_copy (k0 k1 : Nat) (u : S2) (hne : k1 ≠ k0) : ∃ u', f_X4_copyFrom k0 k1 u = some u' ∧ (∀ j, j < 8 → u' k0 j = u k1 j) ∧ ∀ c, c ≠ k0 → u' c = u c := by
  have rd : ∀ (v : S2) (i : Nat) (z : Int32), (wr v k0 i z) k1 = v k1 := fun v i z => wr_c hne
  refine ⟨wr (wr (wr (wr (wr (wr (wr (wr u k0 0 (u k1 0)) k0 1 (u k1 1)) k0 2 (u k1 2)) k0 3 (u k1 3)) k0 4 (u k1 4)) k0 5 (u k1 5)) k0 6 (u k1 6)) k0 7 (u k1 7), ?_, ?_, ?_⟩
  · unfold f_X4_copyFrom
    rw [nm_is, nm_is, rd, nm_is, nm_is, rd, rd, nm_is, nm_is, rd, rd, rd, nm_is, nm_is, rd, rd, rd, rd, nm_is, nm_is, rd, rd, rd, rd, rd, nm_is, nm_is, rd, rd, rd, rd, rd, rd, nm_is, nm_is, rd, rd, rd, rd, rd, rd, rd, nm_is, nm_is]
  · intro j hj
    have sl : ∀ (v : S2) (i : Nat) (z : Int32), (wr v k0 i z) k0 = upd (v k0) i z := fun v i z => wr_s v k0 i z
    rcases (show j = 0 ∨ j = 1 ∨ j = 2 ∨ j = 3 ∨ j = 4 ∨ j = 5 ∨ j = 6 ∨ j = 7 by omega) with rfl | rfl | rfl | rfl | rfl | rfl | rfl | rfl <;> (simp only [sl]; rfl)
  · intro c hc
    rw [wr_c hc, wr_c hc, wr_c hc, wr_c hc, wr_c hc, wr_c hc, wr_c hc, wr_c hc]
theorem X_disturbed (kc : Nat) (pull hold n k t : Int32) (u : S2) (hk : kc ≠ 16) (hn : rg n 1 300) : ∃ u', f_X8_disturbed kc pull hold n k t u = some (mxs pull (u kc 2) (u kc 3) hold k t n.toInt.toNat, u') ∧ ∀ c, c ≠ 16 → u' c = u c := by
  obtain ⟨v, c1, c2, c3⟩ := X_copy 16 kc u hk
  have h1 := hn.1
  have h2 := hn.2
  obtain ⟨u', k1, k2⟩ := X_disturbed_l hold n k t pull (u kc 2) (u kc 3) n.toInt.toNat FUEL 0 0 0 (wr (wr (wr v 16 1 pull) 16 4 0) 16 5 0) (by decide) rfl rfl rfl rfl (c2 2 (by decide)) (c2 3 (by decide)) (by omega) (by show _ < 1000; omega)
  refine ⟨u', ?_, ?_⟩
  · unfold f_X8_disturbed f_X4_layAt
    rw [c1, bv_some, nm_is, nm_is, nm_is, bv_some]
    have e : 0 + n.toInt.toNat = n.toInt.toNat := Nat.zero_add _
    rw [e] at k1
    exact k1
  · intro c hc
    rw [k2 c hc, wr_c hc, wr_c hc, wr_c hc, c3 c hc]
theorem M_turnedOf_l (p n k t pull : Int32) (pi : Nat) (u : S2) (g3 : inb p 3 = true) (e3 : Int32.toNatClampNeg p = pi) : ∀ (d N i : Nat) (v9 v8 v6 v7 : Int32), v9.toInt = i + 1 → v8 = mxs pull (u 46 pi) (u 47 pi) (hol (u 39 0)) k t i → v6 = (dst pull (u 46 pi) (u 47 pi) (hol (u 39 0)) k t i).1 → v7 = (dst pull (u 46 pi) (u 47 pi) (hol (u 39 0)) k t i).2 → (i : Int) + d = n.toInt → n.toInt ≤ 300 → d < N → f_X12_turnedOf_12 N p pull n k t v6 v7 v8 v9 u = some (mxs pull (u 46 pi) (u 47 pi) (hol (u 39 0)) k t (i + d), u) := by
  intro d
  induction d with
  | zero =>
    intro N i v9 v8 v6 v7 h9 h8 h6 h7 hd hn hN
    obtain ⟨n2, rfl⟩ : ∃ n2, N = n2 + 1 := ⟨N - 1, by omega⟩
    rw [f_X12_turnedOf_12_e, if_pos (ti_lt.mpr (by omega)), h8]
    rfl
  | succ d ih =>
    intro N i v9 v8 v6 v7 h9 h8 h6 h7 hd hn hN
    obtain ⟨n2, rfl⟩ : ∃ n2, N = n2 + 1 := ⟨N - 1, by omega⟩
    have c : ¬ n < v9 := fun z => by have := ti_lt.mp z; omega
    have e9 : (v9 + 1).toInt = ((i + 1 : Nat) : Int) + 1 := by
      rw [ti_add (by show _ ≤ v9.toInt + (1 : Int); omega) (by show v9.toInt + (1 : Int) ≤ _; omega)]
      show v9.toInt + (1 : Int) = _
      omega
    obtain ⟨dp, edp⟩ : ∃ dp, dp = u 46 pi := ⟨_, rfl⟩
    obtain ⟨kk, ekk⟩ : ∃ kk, kk = u 47 pi := ⟨_, rfl⟩
    obtain ⟨hh, ehh⟩ : ∃ hh, hh = hol (u 39 0) := ⟨_, rfl⟩
    rw [← edp, ← ekk, ← ehh] at ih h8 h6 h7 ⊢
    have go : ∀ (tt : Int32), tt = (if (i : Int) < k.toInt then t else 0) → f_X12_turnedOf_58 (fun v1 v2 v3 v4 v5 v6 v7 v8 v9 u => f_X12_turnedOf_12 n2 v1 v2 v3 v4 v5 v6 v7 v8 v9 u) p pull n k t v6 v8 v9 (v7 - pull * hh * v6 / 9000 - (v7 - pull * hh * v6 / 9000) * dp / 100) tt u = some (mxs pull dp kk hh k t (i + (d + 1)), u) := by
      intro tt et
      unfold f_X12_turnedOf_58 f_X12_kicked
      rw [ck_y g3, nm_is, e3, ← ekk, bd_some, M_held, bd_some, M_wrapped, bd_some]
      obtain ⟨rr, er⟩ : ∃ rr, rr = hld (v7 - pull * hh * v6 / 9000 - (v7 - pull * hh * v6 / 9000) * dp / 100 + tt * kk / 100) 9999 := ⟨_, rfl⟩
      have er1 : rr = swR v7 pull dp kk hh v6 tt 1 := by
        rw [er]
        unfold swR
        rw [if_neg (by decide)]
      rw [← er]
      obtain ⟨oo, eo⟩ : ∃ oo, oo = wrp (v6 + rr) := ⟨_, rfl⟩
      rw [← eo, M_size, bd_some]
      have er2 : rr = (dst pull dp kk hh k t (i + 1)).2 := by
        rw [er1, h7, h6, et]
        rfl
      have eo2 : oo = (dst pull dp kk hh k t (i + 1)).1 := by
        rw [eo, er1, h7, h6, et]
        rfl
      have e : i + (d + 1) = i + 1 + d := by omega
      rw [e]
      unfold f_X12_turnedOf_105
      by_cases q : siz oo ≤ v8
      · rw [if_pos q, nm_is]
        refine ih n2 (i + 1) (v9 + 1) v8 oo rr e9 ?_ eo2 er2 (by omega) hn (by omega)
        show v8 = if mxs pull dp kk hh k t i < siz (dst pull dp kk hh k t (i + 1)).1 then siz (dst pull dp kk hh k t (i + 1)).1 else mxs pull dp kk hh k t i
        rw [← eo2, ← h8, if_neg (Int32.not_lt.mpr q)]
      · rw [if_neg q, M_size, bd_some, nm_is]
        refine ih n2 (i + 1) (v9 + 1) (siz oo) oo rr e9 ?_ eo2 er2 (by omega) hn (by omega)
        show siz oo = if mxs pull dp kk hh k t i < siz (dst pull dp kk hh k t (i + 1)).1 then siz (dst pull dp kk hh k t (i + 1)).1 else mxs pull dp kk hh k t i
        rw [← eo2, ← h8, if_pos (Int32.not_le.mp q)]
    rw [f_X12_turnedOf_12_e, if_neg c, nm_is]
    unfold f_X12_pulled f_X12_damped
    rw [M_holdOf, bd_some, bd_some, ck_y g3, nm_is, e3, ← edp, bd_some, ← ehh]
    by_cases q : k < v9
    · rw [if_pos q]
      exact go 0 (by rw [if_neg (by have := ti_lt.mp q; omega)])
    · rw [if_neg q]
      exact go t (by rw [if_pos (by have : ¬ k.toInt < v9.toInt := fun z => q (ti_lt.mpr z); omega)])
theorem M_turnedOf (p pull n k t : Int32) (pi : Nat) (u : S2) (g3 : inb p 3 = true) (e3 : Int32.toNatClampNeg p = pi) (hn : rg n 1 300) : f_X12_turnedOf p pull n k t u = some (mxs pull (u 46 pi) (u 47 pi) (hol (u 39 0)) k t n.toInt.toNat, u) := by
  have h1 := hn.1
  have h2 := hn.2
  have := M_turnedOf_l p n k t pull pi u g3 e3 n.toInt.toNat FUEL 0 1 0 0 0 (by decide) rfl rfl rfl (by omega) h2 (by show _ < 1000; omega)
  rw [Nat.zero_add] at this
  exact this
