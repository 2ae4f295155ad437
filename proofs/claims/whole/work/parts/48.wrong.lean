/-! which of three is wrong -/
def ap (a b : Int32) : Int32 := siz (wrp (a - b))
theorem ap_sym {a b : Int32} (ha : rg a 0 35999) (hb : rg b 0 35999) : ap a b = ap b a := by
  have a1 := ha.1
  have a2 := ha.2
  have b1 := hb.1
  have b2 := hb.2
  have e1 : (a - b).toInt = a.toInt - b.toInt := ti_sub (by omega) (by omega)
  have e2 : (b - a).toInt = b.toInt - a.toInt := ti_sub (by omega) (by omega)
  have w1 := wrp_ti (a - b)
  have w2 := wrp_ti (b - a)
  rw [e1] at w1
  rw [e2] at w2
  have s1 := siz_ti (v := wrp (a - b)) (by omega)
  have s2 := siz_ti (v := wrp (b - a)) (by omega)
  refine ti_ext ?_
  show (siz (wrp (a - b))).toInt = (siz (wrp (b - a))).toInt
  rw [s1, s2]
  split <;> split <;> omega
theorem X_apart (a b : Int32) (u : S2) (ha : rg a 0 35999) (hb : rg b 0 35999) : f_X11_apart a b u = some (ap a b, u) := by
  unfold f_X11_apart ap
  rw [X_asOff _ _ (hd_b ha hb), bd_some, nm_is, jabs_siz]
def far (a b n : Int32) : Bool := !(decide (ap a b ≤ n))
theorem far_t {a b n : Int32} (h : far a b n = true) : ¬ ap a b ≤ n := by
  unfold far at h
  simpa using h
theorem far_f {a b n : Int32} (h : far a b n = false) : ap a b ≤ n := by
  unfold far at h
  simpa using h
def w3 (p q r : Bool) : Int32 := if p && r && !q then 1 else if p && q && !r then 2 else if q && r && !p then 4 else 0
def wI (f : Nat → Int32) (n : Int32) (i : Nat) : Int32 := w3 (far (f (3 * i)) (f (3 * i + 1)) n) (far (f (3 * i + 1)) (f (3 * i + 2)) n) (far (f (3 * i + 2)) (f (3 * i)) n)
theorem w3_in (p q r : Bool) : w3 p q r = 0 ∨ w3 p q r = 1 ∨ w3 p q r = 2 ∨ w3 p q r = 4 := by
  cases p <;> cases q <;> cases r <;> decide
theorem ix3 (i c : Nat) (x : Int32) (hx : x.toInt = 3 * i + c) (hi : i < 16) (hc : c ≤ 2) : inb x 48 = true ∧ Int32.toNatClampNeg x = 3 * i + c := by
  refine ⟨inb_of (by omega) (by omega), ?_⟩
  show x.toInt.toNat = _
  omega
theorem X_wrongIn (i : Nat) (n : Int32) (u : S2) (hi : i < 16) (hr : ∀ j, rg (u 27 j) 0 35999) : f_X2_wrongIn (nI i) n u = some (wI (u 27) n i, u) := by
  have ei : (nI i).toInt = i := nI_toInt (by omega)
  obtain ⟨x, ex⟩ : ∃ x, x = nI i * 3 := ⟨_, rfl⟩
  have tx : x.toInt = 3 * i := by
    rw [ex, ti_mul (by rw [ei]; show _ ≤ (i : Int) * 3; omega) (by rw [ei]; show (i : Int) * 3 ≤ _; omega), ei]
    show (i : Int) * 3 = _
    omega
  have tx1 : (x + 1).toInt = 3 * i + 1 := by
    rw [ti_add (by show _ ≤ x.toInt + (1 : Int); omega) (by show x.toInt + (1 : Int) ≤ _; omega), tx]
    rfl
  have tx2 : (x + 2).toInt = 3 * i + 2 := by
    rw [ti_add (by show _ ≤ x.toInt + (2 : Int); omega) (by show x.toInt + (2 : Int) ≤ _; omega), tx]
    rfl
  obtain ⟨i0, t0⟩ := ix3 i 0 x (by omega) hi (by decide)
  obtain ⟨i1, t1⟩ := ix3 i 1 (x + 1) (by omega) hi (by decide)
  obtain ⟨i2, t2⟩ := ix3 i 2 (x + 2) (by omega) hi (by decide)
  have t0' : Int32.toNatClampNeg x = 3 * i := t0
  unfold f_X2_wrongIn wI
  rw [← ex, nm_is, ck_y i0, nm_is, t0', ck_y i1, nm_is, t1, X_apart _ _ _ (hr _) (hr _), bd_some]
  unfold f_X2_wrongIn_30
  rw [ck_y i1, nm_is, t1, ck_y i2, nm_is, t2, ck_y i1, nm_is, ck_y i2, nm_is, X_apart _ _ _ (hr _) (hr _), bd_some]
  unfold f_X2_wrongIn_60
  simp only [ck_y i2, ck_y i0, t2, t0', nm_is, X_apart _ _ _ (hr _) (hr _), bd_some]
  cases p : far (u 27 (3 * i)) (u 27 (3 * i + 1)) n <;> cases q : far (u 27 (3 * i + 1)) (u 27 (3 * i + 2)) n <;> cases r : far (u 27 (3 * i + 2)) (u 27 (3 * i)) n
  · rw [if_pos (far_f p), if_pos (far_f q), if_pos (far_f r)]
    rfl
  · rw [if_pos (far_f p), if_pos (far_f q), if_neg (far_t r)]
    rfl
  · rw [if_pos (far_f p), if_neg (far_t q), if_pos (far_f r)]
    rfl
  · rw [if_pos (far_f p), if_neg (far_t q), if_neg (far_t r)]
    rfl
  · rw [if_neg (far_t p), if_pos (far_f q), if_pos (far_f r)]
    rfl
  · rw [if_neg (far_t p), if_pos (far_f q), if_neg (far_t r)]
    rfl
  · rw [if_neg (far_t p), if_neg (far_t q), if_pos (far_f r)]
    rfl
  · rw [if_neg (far_t p), if_neg (far_t q), if_neg (far_t r)]
    rfl
def bit3 (p : Nat) : Int32 := if p = 0 then 1 else if p = 1 then 2 else 4
theorem M_isW (a b c n : Int32) (u : S2) (ha : rg a 0 35999) (hb : rg b 0 35999) (hc : rg c 0 35999) (z : Option (Int32 × S2)) (hz : z = bd (f_X12_wrapped (a - b) u) (fun r0 u0 => bd (f_X12_size r0 u0) (fun r1 u1 => (if r1 ≤ n then some ((0), u1) else bd (f_X12_wrapped (a - c) u1) (fun r2 u2 => bd (f_X12_size r2 u2) (fun r3 u3 => (if r3 ≤ n then some ((0), u3) else bd (f_X12_wrapped (b - c) u3) (fun r4 u4 => bd (f_X12_size r4 u4) (fun r5 u5 => (if n < r5 then some ((0), u5) else some ((1), u5))))))))))) : z = some (if far a b n && far c a n && !far b c n then 1 else 0, u) := by
  rw [hz, M_wrapped, bd_some, M_size, bd_some]
  have e1 : siz (wrp (a - b)) = ap a b := rfl
  have e2 : siz (wrp (a - c)) = ap c a := ap_sym ha hc
  have e3 : siz (wrp (b - c)) = ap b c := rfl
  rw [e1]
  cases p : far a b n
  · rw [if_pos (far_f p)]
    rfl
  · rw [if_neg (far_t p), M_wrapped, bd_some, M_size, bd_some, e2]
    cases r : far c a n
    · rw [if_pos (far_f r)]
      rfl
    · rw [if_neg (far_t r), M_wrapped, bd_some, M_size, bd_some, e3]
      cases q : far b c n
      · rw [if_neg (Int32.not_lt.mpr (far_f q))]
        rfl
      · rw [if_pos (Int32.not_le.mp (far_t q))]
        rfl
theorem M_isWrong (i p : Nat) (pv n : Int32) (u : S2) (hi : i < 16) (hp : (p = 0 ∧ pv = 0) ∨ (p = 1 ∧ pv = 1) ∨ (p = 2 ∧ pv = 2)) (hr : ∀ j, rg (u 56 j) 0 35999) : f_X12_isWrong (nI i) pv n u = some (if wI (u 56) n i = bit3 p then 1 else 0, u) := by
  have ei : (nI i).toInt = i := nI_toInt (by omega)
  obtain ⟨x, ex⟩ : ∃ x, x = 3 * nI i := ⟨_, rfl⟩
  have tx : x.toInt = 3 * i := by
    rw [ex, ti_mul (by rw [ei]; show _ ≤ (3 : Int) * i; omega) (by rw [ei]; show (3 : Int) * i ≤ _; omega), ei]
    rfl
  have tx0 : (x + 0).toInt = 3 * i + 0 := by
    rw [ti_add (by show _ ≤ x.toInt + (0 : Int); omega) (by show x.toInt + (0 : Int) ≤ _; omega), tx]
    rfl
  have tx1 : (x + 1).toInt = 3 * i + 1 := by
    rw [ti_add (by show _ ≤ x.toInt + (1 : Int); omega) (by show x.toInt + (1 : Int) ≤ _; omega), tx]
    rfl
  have tx2 : (x + 2).toInt = 3 * i + 2 := by
    rw [ti_add (by show _ ≤ x.toInt + (2 : Int); omega) (by show x.toInt + (2 : Int) ≤ _; omega), tx]
    rfl
  obtain ⟨i0, t0⟩ := ix3 i 0 (x + 0) (by omega) hi (by decide)
  obtain ⟨i1, t1⟩ := ix3 i 1 (x + 1) (by omega) hi (by decide)
  obtain ⟨i2, t2⟩ := ix3 i 2 (x + 2) (by omega) hi (by decide)
  have t0' : Int32.toNatClampNeg (x + 0) = 3 * i := t0
  unfold f_X12_isWrong wI
  rcases hp with ⟨rfl, rfl⟩ | ⟨rfl, rfl⟩ | ⟨rfl, rfl⟩
  · have m1 : ((0 : Int32) + 1) - (0 + 1) / 3 * 3 = 1 := by decide
    have m2 : ((0 : Int32) + 2) - (0 + 2) / 3 * 3 = 2 := by decide
    rw [← ex, ck_y i0, nm_is, t0', nm_is, m1, ck_y i1, nm_is, t1, nm_is, m2, ck_y i2, nm_is, t2]
    rw [M_isW _ _ _ n u (hr _) (hr _) (hr _) _ rfl]
    cases far (u 56 (3 * i)) (u 56 (3 * i + 1)) n <;> cases far (u 56 (3 * i + 1)) (u 56 (3 * i + 2)) n <;> cases far (u 56 (3 * i + 2)) (u 56 (3 * i)) n <;> rfl
  · have m1 : ((1 : Int32) + 1) - (1 + 1) / 3 * 3 = 2 := by decide
    have m2 : ((1 : Int32) + 2) - (1 + 2) / 3 * 3 = 0 := by decide
    rw [← ex, ck_y i1, nm_is, t1, nm_is, m1, ck_y i2, nm_is, t2, nm_is, m2, ck_y i0, nm_is, t0']
    rw [M_isW _ _ _ n u (hr _) (hr _) (hr _) _ rfl]
    cases far (u 56 (3 * i)) (u 56 (3 * i + 1)) n <;> cases far (u 56 (3 * i + 1)) (u 56 (3 * i + 2)) n <;> cases far (u 56 (3 * i + 2)) (u 56 (3 * i)) n <;> rfl
  · have m1 : ((2 : Int32) + 1) - (2 + 1) / 3 * 3 = 0 := by decide
    have m2 : ((2 : Int32) + 2) - (2 + 2) / 3 * 3 = 1 := by decide
    rw [← ex, ck_y i2, nm_is, t2, nm_is, m1, ck_y i0, nm_is, t0', nm_is, m2, ck_y i1, nm_is, t1]
    rw [M_isW _ _ _ n u (hr _) (hr _) (hr _) _ rfl]
    cases far (u 56 (3 * i)) (u 56 (3 * i + 1)) n <;> cases far (u 56 (3 * i + 1)) (u 56 (3 * i + 2)) n <;> cases far (u 56 (3 * i + 2)) (u 56 (3 * i)) n <;> rfl
def cnt (w : Nat → Int32) (p : Nat) : Nat → Nat
  | 0 => 0
  | T + 1 => cnt w p T + (if w T = bit3 p then 1 else 0)
theorem cnt_le (w : Nat → Int32) (p : Nat) : ∀ T, cnt w p T ≤ T := by
  intro T
  induction T with
  | zero => exact Nat.le_refl 0
  | succ T ih =>
    show cnt w p T + (if w T = bit3 p then 1 else 0) ≤ T + 1
    split <;> omega
def bts (b0 b1 b2 : Bool) : Int32 := ((if b0 then 1 else 0) ||| (if b1 then 2 else 0)) ||| (if b2 then 4 else 0)
theorem bts_7 {a b c : Bool} (ha : a = true) (hb : b = true) (hc : c = true) : 7 = bts a b c := by
  rw [ha, hb, hc]
  decide
theorem bts_0 {a b c : Bool} (ha : a = false) (hb : b = false) (hc : c = false) : 0 = bts a b c := by
  rw [ha, hb, hc]
  decide
theorem X_some_l (n : Int32) (u : S2) (S : Nat) (hS : (u 26 1).toInt = S) (hS2 : S ≤ 16) (hr : ∀ j, rg (u 27 j) 0 35999) : ∀ (d N i : Nat) (v2 : Int32), v2 = bts (decide (0 < cnt (wI (u 27) n) 0 i)) (decide (0 < cnt (wI (u 27) n) 1 i)) (decide (0 < cnt (wI (u 27) n) 2 i)) → i + d = S → d < N → f_X2_wrongInSome_4 N n v2 (nI i) u = some (bts (decide (0 < cnt (wI (u 27) n) 0 S)) (decide (0 < cnt (wI (u 27) n) 1 S)) (decide (0 < cnt (wI (u 27) n) 2 S)), u) := by
  intro d
  induction d with
  | zero =>
    intro N i v2 h2 hd hN
    obtain ⟨n2, rfl⟩ : ∃ n2, N = n2 + 1 := ⟨N - 1, by omega⟩
    have ei : i = S := by omega
    have hi : (nI i).toInt = i := nI_toInt (by omega)
    rw [f_X2_wrongInSome_4_e, if_pos (ti_le.mpr (by omega)), h2, ei]
  | succ d ih =>
    intro N i v2 h2 hd hN
    obtain ⟨n2, rfl⟩ : ∃ n2, N = n2 + 1 := ⟨N - 1, by omega⟩
    have hi : (nI i).toInt = i := nI_toInt (by omega)
    have c : ¬ u 26 1 ≤ nI i := fun z => by have := ti_le.mp z; omega
    rw [f_X2_wrongInSome_4_e, if_neg c, X_wrongIn i n u (by omega) hr, bd_some, nm_is, nm_is, nI_1]
    refine ih n2 (i + 1) _ ?_ (by omega) (by omega)
    rw [h2]
    have st : ∀ p, decide (0 < cnt (wI (u 27) n) p (i + 1)) = (decide (0 < cnt (wI (u 27) n) p i) || decide (wI (u 27) n i = bit3 p)) := by
      intro p
      show decide (0 < cnt (wI (u 27) n) p i + (if wI (u 27) n i = bit3 p then 1 else 0)) = _
      by_cases q : wI (u 27) n i = bit3 p
      · rw [if_pos q, decide_eq_true q, Bool.or_true]
        exact decide_eq_true (by omega)
      · rw [if_neg q, decide_eq_false q, Bool.or_false, Nat.add_zero]
    rw [st 0, st 1, st 2]
    generalize decide (0 < cnt (wI (u 27) n) 0 i) = b0
    generalize decide (0 < cnt (wI (u 27) n) 1 i) = b1
    generalize decide (0 < cnt (wI (u 27) n) 2 i) = b2
    have hw : wI (u 27) n i = 0 ∨ wI (u 27) n i = 1 ∨ wI (u 27) n i = 2 ∨ wI (u 27) n i = 4 := w3_in _ _ _
    rcases hw with e | e | e | e <;> rw [e] <;> cases b0 <;> cases b1 <;> cases b2 <;> decide
theorem X_each_l (n : Int32) (u : S2) (S : Nat) (hS : (u 26 1).toInt = S) (hS2 : S ≤ 16) (hr : ∀ j, rg (u 27 j) 0 35999) : ∀ (d N i : Nat) (v2 : Int32), v2 = bts (decide (cnt (wI (u 27) n) 0 i = i)) (decide (cnt (wI (u 27) n) 1 i = i)) (decide (cnt (wI (u 27) n) 2 i = i)) → i + d = S → d < N → f_X2_wrongInEach_16 N n v2 (nI i) u = some (bts (decide (cnt (wI (u 27) n) 0 S = S)) (decide (cnt (wI (u 27) n) 1 S = S)) (decide (cnt (wI (u 27) n) 2 S = S)), u) := by
  intro d
  induction d with
  | zero =>
    intro N i v2 h2 hd hN
    obtain ⟨n2, rfl⟩ : ∃ n2, N = n2 + 1 := ⟨N - 1, by omega⟩
    have ei : i = S := by omega
    have hi : (nI i).toInt = i := nI_toInt (by omega)
    rw [f_X2_wrongInEach_16_e, if_pos (ti_le.mpr (by omega)), h2, ei]
  | succ d ih =>
    intro N i v2 h2 hd hN
    obtain ⟨n2, rfl⟩ : ∃ n2, N = n2 + 1 := ⟨N - 1, by omega⟩
    have hi : (nI i).toInt = i := nI_toInt (by omega)
    have c : ¬ u 26 1 ≤ nI i := fun z => by have := ti_le.mp z; omega
    rw [f_X2_wrongInEach_16_e, if_neg c, X_wrongIn i n u (by omega) hr, bd_some, nm_is, nm_is, nI_1]
    refine ih n2 (i + 1) _ ?_ (by omega) (by omega)
    rw [h2]
    have st : ∀ p, decide (cnt (wI (u 27) n) p (i + 1) = i + 1) = (decide (cnt (wI (u 27) n) p i = i) && decide (wI (u 27) n i = bit3 p)) := by
      intro p
      have hc := cnt_le (wI (u 27) n) p i
      show decide (cnt (wI (u 27) n) p i + (if wI (u 27) n i = bit3 p then 1 else 0) = i + 1) = _
      by_cases q : wI (u 27) n i = bit3 p
      · rw [if_pos q, decide_eq_true q, Bool.and_true]
        by_cases q2 : cnt (wI (u 27) n) p i = i
        · rw [decide_eq_true q2]
          exact decide_eq_true (by omega)
        · rw [decide_eq_false q2]
          exact decide_eq_false (by omega)
      · rw [if_neg q, decide_eq_false q, Bool.and_false]
        exact decide_eq_false (by omega)
    rw [st 0, st 1, st 2]
    generalize decide (cnt (wI (u 27) n) 0 i = i) = b0
    generalize decide (cnt (wI (u 27) n) 1 i = i) = b1
    generalize decide (cnt (wI (u 27) n) 2 i = i) = b2
    have hw : wI (u 27) n i = 0 ∨ wI (u 27) n i = 1 ∨ wI (u 27) n i = 2 ∨ wI (u 27) n i = 4 := w3_in _ _ _
    rcases hw with e | e | e | e <;> rw [e] <;> cases b0 <;> cases b1 <;> cases b2 <;> decide
theorem M_cnt_l (z30 : Int32 → Int32 → Int32 → Int32 → S2 → Option (Int32 × S2)) (n w v3 pv : Int32) (p : Nat) (hp : (p = 0 ∧ pv = 0) ∨ (p = 1 ∧ pv = 1) ∨ (p = 2 ∧ pv = 2)) (u : S2) (S : Nat) (hS : (u 38 22).toInt = S) (hS2 : S ≤ 16) (hr : ∀ j, rg (u 56 j) 0 35999) : ∀ (d N i : Nat), i + d = S → d < N → f_X12_wrong_42 z30 N n w v3 pv (nI (cnt (wI (u 56) n) p i)) (nI i) u = f_X12_wrong_79 z30 n w v3 pv (nI (cnt (wI (u 56) n) p S)) u := by
  intro d
  induction d with
  | zero =>
    intro N i hd hN
    obtain ⟨n2, rfl⟩ : ∃ n2, N = n2 + 1 := ⟨N - 1, by omega⟩
    have ei : i = S := by omega
    have hi : (nI i).toInt = i := nI_toInt (by omega)
    rw [f_X12_wrong_42_e, if_pos (ti_le.mpr (by omega)), ei]
  | succ d ih =>
    intro N i hd hN
    obtain ⟨n2, rfl⟩ : ∃ n2, N = n2 + 1 := ⟨N - 1, by omega⟩
    have hi : (nI i).toInt = i := nI_toInt (by omega)
    have c : ¬ u 38 22 ≤ nI i := fun z => by have := ti_le.mp z; omega
    rw [f_X12_wrong_42_e, if_neg c, M_isWrong i p pv n u (by omega) hp hr, bd_some]
    unfold f_X12_wrong_70
    by_cases q : wI (u 56) n i = bit3 p
    · rw [if_pos q, if_neg (by decide), nm_is, nm_is, nI_1, nI_1]
      have e : cnt (wI (u 56) n) p i + 1 = cnt (wI (u 56) n) p (i + 1) := by
        show _ = cnt (wI (u 56) n) p i + (if wI (u 56) n i = bit3 p then 1 else 0)
        rw [if_pos q]
      rw [e]
      exact ih n2 (i + 1) (by omega) (by omega)
    · rw [if_neg q, if_pos rfl, nm_is, nm_is, nI_1, Int32.add_zero]
      have e : cnt (wI (u 56) n) p i = cnt (wI (u 56) n) p (i + 1) := by
        show _ = cnt (wI (u 56) n) p i + (if wI (u 56) n i = bit3 p then 1 else 0)
        rw [if_neg q]
        rfl
      rw [e]
      exact ih n2 (i + 1) (by omega) (by omega)
def mB (w : Int32) (c S : Nat) : Bool := if w = 0 then decide (0 < c) && decide (c = S) else decide (0 < c)
theorem M_79 (z30 : Int32 → Int32 → Int32 → Int32 → S2 → Option (Int32 × S2)) (n w v3 pv : Int32) (p : Nat) (hp : (p = 0 ∧ pv = 0) ∨ (p = 1 ∧ pv = 1) ∨ (p = 2 ∧ pv = 2)) (u : S2) (S c : Nat) (hS : (u 38 22).toInt = S) (hS2 : S ≤ 16) (hc : c ≤ S) (hw : w = 0 ∨ w = 1) : f_X12_wrong_79 z30 n w v3 pv (nI c) u = z30 n w (v3 ||| (if mB w c S then bit3 p else 0)) (pv + 1) u := by
  have ec : (nI c).toInt = c := nI_toInt (by omega)
  have hb : (1 : Int32) <<< (pv &&& 31) = bit3 p := by
    rcases hp with ⟨rfl, rfl⟩ | ⟨rfl, rfl⟩ | ⟨rfl, rfl⟩ <;> decide
  unfold f_X12_wrong_79 f_X12_wrong_106 f_X12_wrong_99 f_X12_wrong_107 mB
  by_cases q : c = 0
  · rw [if_pos (ti_le.mpr (by rw [ec]; show (c : Int) ≤ 0; omega)), nm_is, nm_is, decide_eq_false (p := 0 < c) (by omega)]
    split <;> rfl
  · rw [if_neg (fun z => by have : (nI c).toInt ≤ 0 := ti_le.mp z; omega), decide_eq_true (p := 0 < c) (by omega), hb]
    rcases hw with rfl | rfl
    · rw [if_neg (by decide)]
      by_cases q2 : c = S
      · rw [if_pos (ti_ext (by omega)), if_pos rfl, decide_eq_true q2, nm_is, nm_is]
        rfl
      · rw [if_neg (fun z => by have := congrArg Int32.toInt z; omega), if_pos rfl, decide_eq_false q2, nm_is, nm_is]
        rfl
    · rw [if_pos rfl, nm_is, nm_is]
      rfl
theorem M_wrong_30 (n w : Int32) (u : S2) (S : Nat) (hS : (u 38 22).toInt = S) (hS2 : S ≤ 16) (hr : ∀ j, rg (u 56 j) 0 35999) (hw : w = 0 ∨ w = 1) : f_X12_wrong_30 FUEL n w 0 0 u = some (bts (mB w (cnt (wI (u 56) n) 0 S) S) (mB w (cnt (wI (u 56) n) 1 S) S) (mB w (cnt (wI (u 56) n) 2 S) S), u) := by
  have one : ∀ (N p : Nat) (pv v3 : Int32), ((p = 0 ∧ pv = 0) ∨ (p = 1 ∧ pv = 1) ∨ (p = 2 ∧ pv = 2)) → f_X12_wrong_30 (N + 1) n w v3 pv u = f_X12_wrong_30 N n w (v3 ||| (if mB w (cnt (wI (u 56) n) p S) S then bit3 p else 0)) (pv + 1) u := by
    intro N p pv v3 hp
    have c : ¬ (3 : Int32) ≤ pv := by
      rcases hp with ⟨-, rfl⟩ | ⟨-, rfl⟩ | ⟨-, rfl⟩ <;> decide
    have l := M_cnt_l (fun v1 v2 v3 v4 u => f_X12_wrong_30 N v1 v2 v3 v4 u) n w v3 pv p hp u S hS hS2 hr S FUEL 0 (by omega) (by show S < 1000; omega)
    have e0 : nI (cnt (wI (u 56) n) p 0) = 0 := rfl
    have e1 : nI 0 = 0 := rfl
    rw [e0, e1] at l
    rw [f_X12_wrong_30_e, if_neg c, l, M_79 _ n w v3 pv p hp u S _ hS hS2 (cnt_le _ _ _) hw]
  have hF : FUEL = 996 + 1 + 1 + 1 + 1 := rfl
  rw [hF, one (996 + 1 + 1 + 1) 0 0 0 (Or.inl ⟨rfl, rfl⟩), one (996 + 1 + 1) 1 (0 + 1) _ (Or.inr (Or.inl ⟨rfl, by decide⟩)), one (996 + 1) 2 (0 + 1 + 1) _ (Or.inr (Or.inr ⟨rfl, by decide⟩)), f_X12_wrong_30_e, if_pos (by decide)]
  generalize mB w (cnt (wI (u 56) n) 0 S) S = b0
  generalize mB w (cnt (wI (u 56) n) 1 S) S = b1
  generalize mB w (cnt (wI (u 56) n) 2 S) S = b2
  refine so2 ?_
  cases b0 <;> cases b1 <;> cases b2 <;> decide
theorem s_wrong : St_2 f_X11_wrong f_X12_wrong Rel := by
  intro a b u h
  have hh := h
  obtain ⟨h1, h2, h3, h4, h5, h6, h7, h8, h9⟩ := h
  by_cases c : inR a 0 9000 = 0
  · exact ⟨-3, u, u, by unfold f_X11_wrong; rw [L_isWithin, bd_some, if_pos c], by unfold f_X12_wrong; rw [L_in_0_9000, bd_some, if_pos c], hh⟩
  by_cases c2 : inR b 0 1 = 0
  · exact ⟨-3, u, u, by unfold f_X11_wrong; rw [L_isWithin, bd_some, if_neg c, L_isWithin, bd_some, if_pos c2], by unfold f_X12_wrong; rw [L_in_0_9000, bd_some, if_neg c, L_in_0_1, bd_some, if_pos c2], hh⟩
  have rb : rg b 0 1 := inR_rg c2
  have hb : b = 0 ∨ b = 1 := by
    have b1 := rb.1
    have b2 := rb.2
    rcases (show b.toInt = 0 ∨ b.toInt = 1 by omega) with e | e
    · exact Or.inl (ti_ext e)
    · exact Or.inr (ti_ext e)
  obtain ⟨q1, q2, q3, q4⟩ := h7
  have s1 := q3.1
  have s2 := q3.2
  obtain ⟨S, eS⟩ : ∃ S : Nat, (u 26 1).toInt = S := ⟨(u 26 1).toInt.toNat, by omega⟩
  have m := M_wrong_30 a b u S (by rw [q2]; exact eS) (by omega) (by rw [q1]; exact q4) hb
  rw [q1] at m
  refine ⟨bts (mB b (cnt (wI (u 27) a) 0 S) S) (mB b (cnt (wI (u 27) a) 1 S) S) (mB b (cnt (wI (u 27) a) 2 S) S), u, u, ?_, ?_, hh⟩
  rotate_left
  · unfold f_X12_wrong
    rw [L_in_0_9000, bd_some, if_neg c, L_in_0_1, bd_some, if_neg c2, m]
  · unfold f_X11_wrong
    rw [L_isWithin, bd_some, if_neg c, L_isWithin, bd_some, if_neg c2]
    rcases hb with rfl | rfl
    · rw [if_pos rfl]
      unfold f_X2_wrongInEach f_X2_wrongInEach_13
      by_cases z : S = 0
      · rw [if_pos (ti_ext (by rw [eS, z]; rfl))]
        show bd (f_X2_wrongInEach_16 (999 + 1) a 0 0 u) _ = _
        rw [f_X2_wrongInEach_16_e, if_pos (ti_le.mpr (by rw [eS, z]; decide)), bd_some, z]
        refine so2 ?_
        show (0 : Int32) = bts (mB 0 0 0) (mB 0 0 0) (mB 0 0 0)
        decide
      · rw [if_neg (fun e => z (by have := congrArg Int32.toInt e; have e2 : (u 26 1).toInt = 0 := this; omega))]
        have l := X_each_l a u S eS (by omega) q4 S FUEL 0 7 (bts_7 rfl rfl rfl) (by omega) (by show S < 1000; omega)
        have e1 : nI 0 = 0 := rfl
        rw [e1] at l
        rw [l, bd_some]
        refine so2 ?_
        have g : ∀ p, decide (cnt (wI (u 27) a) p S = S) = mB 0 (cnt (wI (u 27) a) p S) S := by
          intro p
          unfold mB
          rw [if_pos rfl]
          by_cases q : cnt (wI (u 27) a) p S = S
          · rw [decide_eq_true q, decide_eq_true (p := 0 < cnt (wI (u 27) a) p S) (by omega)]
            rfl
          · rw [decide_eq_false q, Bool.and_false]
        rw [g 0, g 1, g 2]
    · rw [if_neg (by decide)]
      unfold f_X2_wrongInSome
      have l := X_some_l a u S eS (by omega) q4 S FUEL 0 0 (bts_0 rfl rfl rfl) (by omega) (by show S < 1000; omega)
      have e1 : nI 0 = 0 := rfl
      rw [e1] at l
      rw [l, bd_some]
      rfl
