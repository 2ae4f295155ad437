/-! about; wrong -/
theorem Rel_8 {u v : S2} (h : Rel u) (h8 : R8 v) (cs : List Nat) (hc : ∀ c, ¬ c ∈ cs → v c = u c) (d1 : FCl.all (fun c => c == 28 || c == 29 || c == 30 || c == 31 || c == 57 || c == 58 || !cs.contains c) = true) (g : ∀ q, q ∈ SCl → q ≠ (38, 25) → v q.1 q.2 = u q.1 q.2) : Rel v := by
  obtain ⟨h1, h2, h3, h4, h5, h6, h7, -, h9⟩ := h
  have F : ∀ c, (FCl.contains c && !(c == 28 || c == 29 || c == 30 || c == 31 || c == 57 || c == 58)) = true → v c = u c := by
    intro c hm
    rw [Bool.and_eq_true] at hm
    have hm1 : c ∈ FCl := by simpa using hm.1
    have := List.all_eq_true.mp d1 c hm1
    refine hc c ?_
    intro hin
    have h2 : (!cs.contains c) = false := by simpa using hin
    rw [h2, Bool.or_false] at this
    rw [this] at hm
    exact absurd hm.2 (by decide)
  have G : ∀ c j, (SCl.contains (c, j) && !((c, j) == (38, 25))) = true → v c j = u c j := by
    intro c j hm
    rw [Bool.and_eq_true] at hm
    refine g (c, j) (by simpa using hm.1) ?_
    intro e
    rw [e] at hm
    exact absurd hm.2 (by decide)
  have z : ∀ i, i < 3 → v 48 i = u 48 i := by
    intro i hi
    rcases (show i = 0 ∨ i = 1 ∨ i = 2 by omega) with rfl | rfl | rfl
    · exact G 48 0 (by decide)
    · exact G 48 1 (by decide)
    · exact G 48 2 (by decide)
  have z2 : ∀ i, i < 3 → v 49 i = u 49 i := by
    intro i hi
    rcases (show i = 0 ∨ i = 1 ∨ i = 2 by omega) with rfl | rfl | rfl
    · exact G 49 0 (by decide)
    · exact G 49 1 (by decide)
    · exact G 49 2 (by decide)
  exact ⟨R1_of h1 (F 5 (by decide)) (G 39 0 (by decide)) (G 39 1 (by decide)) (G 39 2 (by decide)) (G 39 3 (by decide)) (G 40 0 (by decide)) (G 41 0 (by decide)),
    R2_of h2 (F 10 (by decide)) (F 11 (by decide)) (F 12 (by decide)) (F 44 (by decide)) (F 45 (by decide)) (F 46 (by decide)) (F 47 (by decide)) (F 50 (by decide)) (F 51 (by decide)) z z2,
    R3_of h3 (F 43 (by decide)) (F 2 (by decide)) (G 38 5 (by decide)) (by rw [F 1 (by decide)]),
    R4_of h4 (F 52 (by decide)) (F 4 (by decide)),
    R5_of h5 (F 54 (by decide)) (F 18 (by decide)) (G 38 20 (by decide)) (F 9 (by decide)) (G 42 0 (by decide)),
    R6_of h6 (F 53 (by decide)) (F 22 (by decide)) (G 38 16 (by decide)) (G 21 1 (by decide)),
    R7_of h7 (F 56 (by decide)) (F 27 (by decide)) (G 38 22 (by decide)) (by rw [F 26 (by decide)]),
    h8,
    R9_of h9 (F 59 (by decide)) (F 60 (by decide)) (G 38 28 (by decide)) (G 32 2 (by decide)) (F 33 (by decide)) (F 34 (by decide))⟩
def R8k (T : Int) (a b : Nat → Int32) (z l g : Int32) (k : Nat) : Prop := (z = 0 ∧ ∀ j : Nat, (j : Int) < T → e8 (a j) ≠ k) ∨
    (0 < z.toInt ∧ z.toInt ≤ T ∧
      (∃ j : Nat, (j : Int) < T ∧ e8 (a j) = k ∧ b j = l) ∧ (∃ j : Nat, (j : Int) < T ∧ e8 (a j) = k ∧ b j = g) ∧
      ∀ j : Nat, (j : Int) < T → e8 (a j) = k → l.toInt ≤ (b j).toInt ∧ (b j).toInt ≤ g.toInt)
theorem R8k_o {T : Int} {a b : Nat → Int32} {z l g : Int32} {k s : Nat} {v e : Int32} (h : R8k T a b z l g k) (hv : e8 v ≠ k) (hs : (s : Int) = T) : R8k (T + 1) (upd a s v) (upd b s e) z l g k := by
  have old : ∀ j : Nat, j ≠ s → upd a s v j = a j ∧ upd b s e j = b j := fun j hj => ⟨upd_n hj, upd_n hj⟩
  rcases h with ⟨h1, h2⟩ | ⟨h1, h2, ⟨j1, a1, a2, a3⟩, ⟨j2, b1, b2, b3⟩, h5⟩
  · refine Or.inl ⟨h1, ?_⟩
    intro j hj
    by_cases c : j = s
    · rw [c, upd_s]
      exact hv
    · rw [(old j c).1]
      exact h2 j (by omega)
  · refine Or.inr ⟨h1, by omega, ⟨j1, by omega, ?_, ?_⟩, ⟨j2, by omega, ?_, ?_⟩, ?_⟩
    · rw [(old j1 (by omega)).1]
      exact a2
    · rw [(old j1 (by omega)).2]
      exact a3
    · rw [(old j2 (by omega)).1]
      exact b2
    · rw [(old j2 (by omega)).2]
      exact b3
    · intro j hj hk
      by_cases c : j = s
      · rw [c, upd_s] at hk
        exact absurd hk hv
      · rw [(old j c).1] at hk
        rw [(old j c).2]
        exact h5 j (by omega) hk
theorem R8k_s {T : Int} {a b : Nat → Int32} {z l g : Int32} {k s : Nat} {v e : Int32} (h : R8k T a b z l g k) (hv : e8 v = k) (hs : (s : Int) = T) (hT : T ≤ 23) : R8k (T + 1) (upd a s v) (upd b s e) (z + 1) (if z = 0 then e else jmin l e) (if z = 0 then e else jmax g e) k := by
  have old : ∀ j : Nat, j ≠ s → upd a s v j = a j ∧ upd b s e j = b j := fun j hj => ⟨upd_n hj, upd_n hj⟩
  rcases h with ⟨h1, h2⟩ | ⟨h1, h2, ⟨j1, a1, a2, a3⟩, ⟨j2, b1, b2, b3⟩, h5⟩
  · rw [if_pos h1, if_pos h1, h1]
    refine Or.inr ⟨by decide, by show (1 : Int) ≤ _; omega, ⟨s, by omega, by rw [upd_s]; exact hv, upd_s _ _ _⟩, ⟨s, by omega, by rw [upd_s]; exact hv, upd_s _ _ _⟩, ?_⟩
    intro j hj hk
    by_cases c : j = s
    · rw [c, upd_s]
      omega
    · rw [(old j c).1] at hk
      exact absurd hk (h2 j (by omega))
  · have hz : ¬ z = 0 := fun q => by rw [q] at h1; exact absurd h1 (by decide)
    have z1 : (z + 1).toInt = z.toInt + 1 := ti_add (by show _ ≤ z.toInt + (1 : Int); omega) (by show z.toInt + (1 : Int) ≤ _; omega)
    rw [if_neg hz, if_neg hz]
    have lmin : (jmin l e).toInt ≤ l.toInt ∧ (jmin l e).toInt ≤ e.toInt := by
      unfold jmin
      by_cases c : e < l
      · have := ti_lt.mp c
        rw [if_pos c]
        omega
      · have : ¬ e.toInt < l.toInt := fun q => c (ti_lt.mpr q)
        rw [if_neg c]
        omega
    have lmax : g.toInt ≤ (jmax g e).toInt ∧ e.toInt ≤ (jmax g e).toInt := by
      unfold jmax
      by_cases c : g < e
      · have := ti_lt.mp c
        rw [if_pos c]
        omega
      · have : ¬ g.toInt < e.toInt := fun q => c (ti_lt.mpr q)
        rw [if_neg c]
        omega
    refine Or.inr ⟨by omega, by omega, ?_, ?_, ?_⟩
    · by_cases c : e < l
      · refine ⟨s, by omega, by rw [upd_s]; exact hv, ?_⟩
        unfold jmin
        rw [upd_s, if_pos c]
      · refine ⟨j1, by omega, by rw [(old j1 (by omega)).1]; exact a2, ?_⟩
        unfold jmin
        rw [(old j1 (by omega)).2, if_neg c]
        exact a3
    · by_cases c : g < e
      · refine ⟨s, by omega, by rw [upd_s]; exact hv, ?_⟩
        unfold jmax
        rw [upd_s, if_pos c]
      · refine ⟨j2, by omega, by rw [(old j2 (by omega)).1]; exact b2, ?_⟩
        unfold jmax
        rw [(old j2 (by omega)).2, if_neg c]
        exact b3
    · intro j hj hk
      by_cases c : j = s
      · rw [c, upd_s]
        omega
      · rw [(old j c).1] at hk
        rw [(old j c).2]
        have := h5 j (by omega) hk
        omega
theorem X_abAdd (v1 v2 : Int32) (u : S2) (h1 : rg v1 0 35999) (h2 : rg v2 0 35999) (hlt : u 28 3 < 24) (k : Nat) (hk : e8 v1 = k) (e lo hi n z : Int32) (he : e = wrp (v1 - v2)) (hlo : lo = if u 29 k = 0 then e else jmin (u 30 k) e) (hhi : hi = if u 29 k = 0 then e else jmax (u 31 k) e) (hn : n = u 28 3 + 1) (hz : z = u 29 k + 1) : f_X9_add v1 v2 u = some (n, wr (wr (wr (wr u 30 k lo) 31 k hi) 29 k z) 28 3 n) := by
  have k8 := e8_lt v1
  obtain ⟨kv, ekv⟩ : ∃ kv, kv = rnd (v1 + 2250) / 4500 := ⟨_, rfl⟩
  have kt : kv.toInt = k := by rw [ekv, e8_X h1, hk]
  have ik : inb kv 8 = true := inb_of (by omega) (by omega)
  have xk : Int32.toNatClampNeg kv = k := by
    show kv.toInt.toNat = k
    omega
  have last : ∀ w : S2, w 29 k = u 29 k → w 28 3 = u 28 3 → f_X9_add_94 kv kv hi w = some (n, wr (wr (wr w 31 k hi) 29 k z) 28 3 n) := by
    intro w w1 w2
    unfold f_X9_add_94
    rw [ck_y ik, nm_is, xk, ck_y ik, nm_is, nm_is, ck_y ik, nm_is]
    have q1 : (wr w 31 k hi) 29 k = u 29 k := w1
    rw [q1, ← hz]
    have q2 : (wr (wr w 31 k hi) 29 k z) 28 3 = u 28 3 := w2
    rw [q2, ← hn, nm_is, nm_is]
    rfl
  unfold f_X9_add
  rw [if_pos hlt, X_asHeading, bd_some, ← ekv, nm_is, X_asOff _ _ (hd_b h1 h2), bd_some, ← he, ck_y ik, nm_is, xk]
  by_cases c : u 29 k = 0
  · rw [if_pos c] at hlo hhi
    rw [if_pos c]
    unfold f_X9_add_63
    rw [ck_y ik, nm_is, xk, ck_y ik, nm_is]
    have q1 : (wr u 30 k e) 29 k = u 29 k := rfl
    rw [q1, if_pos c, ← hhi, hlo.trans hhi.symm]
    exact last (wr u 30 k hi) rfl rfl
  · rw [if_neg c] at hlo hhi
    rw [if_neg c, ck_y ik, nm_is, ← hlo, nm_is]
    unfold f_X9_add_63
    rw [ck_y ik, nm_is, xk, ck_y ik, nm_is]
    have q1 : (wr u 30 k lo) 29 k = u 29 k := rfl
    have q2 : (wr u 30 k lo) 31 k = u 31 k := rfl
    rw [q1, if_neg c, ck_y ik, nm_is, q2, ← hhi, nm_is]
    exact last (wr u 30 k lo) rfl rfl
theorem s_about : St_2 f_X11_about f_X12_about Rel := by
  intro a b u h
  have hh := h
  obtain ⟨h1, h2, h3, h4, h5, h6, h7, h8, h9⟩ := h
  by_cases c : inR a 0 35999 = 0
  · exact ⟨-3, u, u, by unfold f_X11_about; rw [X_isHeading, bd_some, if_pos c], by unfold f_X12_about; rw [M_isHeading, bd_some, if_pos c], hh⟩
  by_cases c2 : inR b 0 35999 = 0
  · exact ⟨-3, u, u, by unfold f_X11_about; rw [X_isHeading, bd_some, if_neg c, X_isHeading, bd_some, if_pos c2], by unfold f_X12_about; rw [M_isHeading, bd_some, if_neg c, M_isHeading, bd_some, if_pos c2], hh⟩
  have ra : rg a 0 35999 := inR_rg c
  have rb : rg b 0 35999 := inR_rg c2
  obtain ⟨q1, q2, q3, q4, q5⟩ := h8
  by_cases f : u 28 3 = 24
  · have hlt : ¬ u 28 3 < 24 := by rw [f]; decide
    refine ⟨-5, u, u, ?_, ?_, hh⟩
    · unfold f_X11_about f_X9_add
      rw [X_isHeading, bd_some, if_neg c, X_isHeading, bd_some, if_neg c2, if_neg hlt, bd_some]
    · unfold f_X12_about
      rw [M_isHeading, bd_some, if_neg c, M_isHeading, bd_some, if_neg c2, if_pos (q1.trans f)]
  have s1 := q2.1
  have s2 := q2.2
  have f24 : (u 28 3).toInt ≠ 24 := fun e => f (ti_ext e)
  have hlt : u 28 3 < 24 := ti_lt.mpr (by show (u 28 3).toInt < 24; omega)
  have hin : inb (u 28 3) 24 = true := inb_of s1 (by omega)
  obtain ⟨s, hs⟩ : ∃ s, s = Int32.toNatClampNeg (u 28 3) := ⟨_, rfl⟩
  have hsT : (s : Int) = (u 28 3).toInt := by
    have : s = (u 28 3).toInt.toNat := hs
    omega
  obtain ⟨n, hn⟩ : ∃ n, n = u 28 3 + 1 := ⟨_, rfl⟩
  have hadd : n.toInt = (u 28 3).toInt + 1 := by
    rw [hn]
    exact ti_add (by show _ ≤ (u 28 3).toInt + 1; omega) (by show (u 28 3).toInt + 1 ≤ _; omega)
  obtain ⟨k, hk⟩ : ∃ k, e8 a = k := ⟨_, rfl⟩
  obtain ⟨e, he⟩ : ∃ e, e = wrp (a - b) := ⟨_, rfl⟩
  obtain ⟨lo, hlo⟩ : ∃ lo, lo = if u 29 k = 0 then e else jmin (u 30 k) e := ⟨_, rfl⟩
  obtain ⟨hi, hhi⟩ : ∃ hi, hi = if u 29 k = 0 then e else jmax (u 31 k) e := ⟨_, rfl⟩
  obtain ⟨z, hz⟩ : ∃ z, z = u 29 k + 1 := ⟨_, rfl⟩
  have re : rg e (-18000) 17999 := he ▸ wrp_rg _
  refine ⟨n, wr (wr (wr (wr u 30 k lo) 31 k hi) 29 k z) 28 3 n, wr (wr (wr (wr (wr (wr (wr u 30 k lo) 31 k hi) 29 k z) 28 3 n) 57 s a) 58 s e) 38 25 n, ?_, ?_, ?_⟩
  · unfold f_X11_about
    rw [X_isHeading, bd_some, if_neg c, X_isHeading, bd_some, if_neg c2, X_abAdd a b u ra rb hlt k hk e lo hi n z he hlo hhi hn hz, bd_some]
  · unfold f_X12_about
    rw [M_isHeading, bd_some, if_neg c, M_isHeading, bd_some, if_neg c2]
    obtain ⟨y, hy⟩ : ∃ y, y = wr (wr (wr (wr u 30 k lo) 31 k hi) 29 k z) 28 3 n := ⟨_, rfl⟩
    have e0 : y 38 25 = u 28 3 := by rw [hy]; exact q1
    rw [← hy, e0, if_neg f, ck_y hin, nm_is, ← hs, M_wrapped, bd_some, ← he]
    have e1 : (wr y 57 s a) 38 25 = u 28 3 := e0
    rw [e1, ck_y hin, nm_is, ← hs]
    have e2 : (wr (wr y 57 s a) 58 s e) 38 25 = u 28 3 := e0
    rw [e2, nm_is, ← hn, nm_is]
    rfl
  · refine Rel_8 hh ?_ [30, 31, 29, 28, 57, 58, 38] ?_ (by decide) ?_
    · refine ⟨rfl, ⟨by show 0 ≤ n.toInt; omega, by show n.toInt ≤ 24; omega⟩, ?_, ?_, ?_⟩
      · intro j
        show rg (upd (u 57) s a j) 0 35999
        unfold upd
        split
        · exact ra
        · exact q3 j
      · intro j
        show rg (upd (u 58) s e j) (-18000) 17999
        unfold upd
        split
        · exact re
        · exact q4 j
      · intro kk hkk
        have old : R8k (u 28 3).toInt (u 57) (u 58) (u 29 kk) (u 30 kk) (u 31 kk) kk := q5 kk hkk
        show R8k n.toInt (upd (u 57) s a) (upd (u 58) s e) (upd (u 29) k z kk) (upd (u 30) k lo kk) (upd (u 31) k hi kk) kk
        rw [hadd]
        by_cases ck : kk = k
        · rw [ck] at old ⊢
          rw [upd_s, upd_s, upd_s, hlo, hhi, hz]
          exact R8k_s old hk hsT (by omega)
        · rw [upd_n ck, upd_n ck, upd_n ck]
          exact R8k_o old (fun q => ck (q.symm.trans hk)) hsT
    · intro cc hc
      simp only [List.mem_cons, List.not_mem_nil, or_false, not_or] at hc
      obtain ⟨n1, n2, n3, n4, n5, n6, n7⟩ := hc
      rw [wr_c n7, wr_c n6, wr_c n5, wr_c n4, wr_c n3, wr_c n2, wr_c n1]
    · intro q hq hne
      by_cases c38 : q.1 = 38
      · have hn2 : q.2 ≠ 25 := fun e2 => hne (by rw [← c38, ← e2])
        rw [c38, wr_s, upd_n hn2]
        rfl
      · have : ∀ q, q ∈ SCl → q.1 ≠ 38 → q.1 ≠ 28 ∧ q.1 ≠ 29 ∧ q.1 ≠ 30 ∧ q.1 ≠ 31 ∧ q.1 ≠ 57 ∧ q.1 ≠ 58 := by decide
        obtain ⟨n4, n3, n1, n2, n5, n6⟩ := this q hq c38
        rw [wr_c c38, wr_c n6, wr_c n5, wr_c n4, wr_c n3, wr_c n2, wr_c n1]
