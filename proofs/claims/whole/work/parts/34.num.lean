/-! numbers of both sides: circles, sizes, bounds, lean -/
theorem rem_c (v : Int32) (d : Int32) (hd : 0 < d.toInt) : (v - v / d * d).toInt = v.toInt - v.toInt.tdiv d.toInt * d.toInt := by
  have hr := ti_rg v
  have hdr := ti_rg d
  have hne : ¬ d = -1 := by
    intro e
    rw [e] at hd
    exact absurd hd (by decide)
  have e1 : (v / d).toInt = v.toInt.tdiv d.toInt := ti_div hne
  have hq : (0 ≤ v.toInt → 0 ≤ v.toInt.tdiv d.toInt * d.toInt ∧ v.toInt.tdiv d.toInt * d.toInt ≤ v.toInt) ∧ (v.toInt < 0 → v.toInt ≤ v.toInt.tdiv d.toInt * d.toInt ∧ v.toInt.tdiv d.toInt * d.toInt ≤ 0) := by
    rcases td v.toInt d.toInt with ⟨h, e⟩ | ⟨h, e⟩
    · refine ⟨fun _ => ?_, fun q => absurd q (by omega)⟩
      rw [e]
      have a1 := Int.ediv_mul_le v.toInt (b := d.toInt) (by omega)
      have a2 := Int.mul_nonneg (Int.ediv_nonneg h (Int.le_of_lt hd)) (Int.le_of_lt hd)
      exact ⟨a2, a1⟩
    · refine ⟨fun q => absurd q (by omega), fun _ => ?_⟩
      rw [e]
      have a1 := Int.ediv_mul_le (-v.toInt) (b := d.toInt) (by omega)
      have a2 := Int.mul_nonneg (Int.ediv_nonneg (show 0 ≤ -v.toInt by omega) (Int.le_of_lt hd)) (Int.le_of_lt hd)
      rw [Int.neg_mul]
      omega
  have e2 : (v / d * d).toInt = v.toInt.tdiv d.toInt * d.toInt := by
    rw [ti_mul (by rw [e1]; rcases Int.lt_or_le v.toInt 0 with h | h
                   · have := hq.2 h; omega
                   · have := hq.1 h; omega) (by rw [e1]; rcases Int.lt_or_le v.toInt 0 with h | h
                                                · have := hq.2 h; omega
                                                · have := hq.1 h; omega), e1]
  rw [ti_sub (by rw [e2]; rcases Int.lt_or_le v.toInt 0 with h | h
                 · have := hq.2 h; omega
                 · have := hq.1 h; omega) (by rw [e2]; rcases Int.lt_or_le v.toInt 0 with h | h
                                              · have := hq.2 h; omega
                                              · have := hq.1 h; omega), e2]
def rnd (v : Int32) : Int32 := if 0 ≤ v - v / 36000 * 36000 then v - v / 36000 * 36000 else v - v / 36000 * 36000 + 36000
theorem rem36 (v : Int32) : (v - v / 36000 * 36000).toInt = v.toInt - v.toInt.tdiv 36000 * 36000 := rem_c v 36000 (by decide)
theorem rnd_ti (v : Int32) : (rnd v).toInt = v.toInt % 36000 := by
  have e := rem36 v
  unfold rnd
  rcases td v.toInt 36000 with ⟨h, q⟩ | ⟨h, q⟩
  · rw [q] at e
    rw [if_pos (ti_le.mpr (by rw [e]; show (0 : Int) ≤ _; omega)), e]
    omega
  · rw [q] at e
    by_cases c : (0 : Int) ≤ (v - v / 36000 * 36000).toInt
    · rw [if_pos ((ti_le (a := 0) (b := v - v / 36000 * 36000)).mpr c)]
      omega
    · rw [if_neg (fun z => c ((ti_le (a := 0) (b := v - v / 36000 * 36000)).mp z)), ti_add (by show _ ≤ _ + (36000 : Int); omega) (by show _ + (36000 : Int) ≤ _; omega)]
      show _ + (36000 : Int) = _
      omega
theorem rnd_rg (v : Int32) : rg (rnd v) 0 35999 := by
  have := rnd_ti v
  unfold rg
  omega
theorem M_round (v : Int32) (u : S2) : f_X12_round v u = some (rnd v, u) := by
  unfold f_X12_round rnd
  rw [nm_is]
  split <;> rfl
theorem msb_nn (x : BitVec 32) : 0 ≤ x.toInt ↔ x.msb = false := by
  cases h : x.msb with
  | true =>
    have := BitVec.toInt_neg_of_msb_true h
    exact ⟨fun q => by omega, fun q => by cases q⟩
  | false => exact ⟨fun _ => rfl, fun _ => BitVec.toInt_nonneg_of_msb_false h⟩
theorem xor_sg (v : Int32) : (0 ≤ v ^^^ 36000) ↔ 0 ≤ v := by
  rw [ti_le, ti_le]
  show 0 ≤ (v.toBitVec ^^^ (36000 : Int32).toBitVec).toInt ↔ 0 ≤ v.toBitVec.toInt
  rw [msb_nn, msb_nn, BitVec.msb_xor, show (36000 : Int32).toBitVec.msb = false by decide, Bool.xor_false]
theorem X_floor36 (v : Int32) (u : S2) : f_J_floorMod v 36000 u = some (rnd v, u) := by
  unfold f_J_floorMod rnd
  rw [ck_y (by decide), nm_is]
  have e := rem36 v
  rcases td v.toInt 36000 with ⟨h, q⟩ | ⟨h, q⟩
  · rw [q] at e
    rw [if_pos ((xor_sg v).mpr (ti_le.mpr h)), if_pos (ti_le.mpr (by rw [e]; show (0 : Int) ≤ _; omega))]
  · rw [q] at e
    rw [if_neg (fun z => by have := ti_le.mp ((xor_sg v).mp z); have h2 : (0 : Int) ≤ v.toInt := this; omega)]
    by_cases c : v - v / 36000 * 36000 = 0
    · rw [if_pos c, if_pos (by rw [c]; decide)]
    · rw [if_neg c, if_neg (fun z => c (ti_ext (by have := ti_le.mp z; have h3 : (0 : Int) ≤ (v - v / 36000 * 36000).toInt := this; show _ = (0 : Int); omega)))]
theorem X_asHeading (v : Int32) (u : S2) : f_X11_asHeading v u = some (rnd v, u) := by
  unfold f_X11_asHeading
  rw [X_floor36, bd_some]
def wrp (v : Int32) : Int32 := if rnd v < 18000 then rnd v else rnd v - 36000
theorem M_wrapped (v : Int32) (u : S2) : f_X12_wrapped v u = some (wrp v, u) := by
  unfold f_X12_wrapped wrp
  rw [M_round, bd_some]
  split <;> rfl
theorem wrp_ti (v : Int32) : (wrp v).toInt = (v.toInt + 18000) % 36000 - 18000 := by
  have e := rnd_ti v
  unfold wrp
  by_cases c : rnd v < 18000
  · have c2 : (rnd v).toInt < 18000 := ti_lt.mp c
    rw [if_pos c]
    omega
  · have c2 : ¬ (rnd v).toInt < 18000 := fun z => c (ti_lt.mpr z)
    rw [if_neg c, ti_sub (by show _ ≤ _ - (36000 : Int); omega) (by show _ - (36000 : Int) ≤ _; omega)]
    show _ - (36000 : Int) = _
    omega
theorem wrp_rg (v : Int32) : rg (wrp v) (-18000) 17999 := by
  have := wrp_ti v
  unfold rg
  omega
theorem X_asOff (v : Int32) (u : S2) (h : v.toInt < 2147400000) : f_X11_asOff v u = some (wrp v, u) := by
  unfold f_X11_asOff
  rw [X_floor36, bd_some]
  refine so2 (ti_ext ?_)
  have hr := ti_rg v
  have e0 : (v + 18000).toInt = v.toInt + 18000 := ti_add (by show _ ≤ _ + (18000 : Int); omega) (by show _ + (18000 : Int) ≤ _; omega)
  have e1 := rnd_ti (v + 18000)
  rw [e0] at e1
  rw [ti_sub (by show _ ≤ _ - (18000 : Int); omega) (by show _ - (18000 : Int) ≤ _; omega), wrp_ti, e1]
  rfl
def siz (v : Int32) : Int32 := if 0 ≤ v then v else -v
theorem M_size (v : Int32) (u : S2) : f_X12_size v u = some (siz v, u) := by
  unfold f_X12_size siz
  split <;> rfl
theorem jabs_siz (v : Int32) : jabs v = siz v := by
  unfold jabs siz
  split
  · rfl
  · exact Int32.zero_sub v
theorem siz_ti {v : Int32} (h : -2147483648 < v.toInt) : (siz v).toInt = if 0 ≤ v.toInt then v.toInt else -v.toInt := by
  unfold siz
  by_cases c : 0 ≤ v
  · have c2 : (0 : Int) ≤ v.toInt := ti_le.mp c
    rw [if_pos c, if_pos c2]
  · have c2 : ¬ (0 : Int) ≤ v.toInt := fun z => c (ti_le.mpr z)
    rw [if_neg c, if_neg c2, ti_neg h]
def hld (v m : Int32) : Int32 := if v < -m then -m else if m < v then m else v
theorem hld_rg (v m : Int32) (n : Int) (hm : rg m 0 n) (hn : n < 2147483648) : rg (hld v m) (-n) n := by
  have e : (-m).toInt = -m.toInt := ti_neg (by have := hm.1; omega)
  have h1 := hm.1
  have h2 := hm.2
  unfold hld rg
  split
  · rw [e]
    omega
  · split
    · omega
    · rename_i a b
      rw [ti_lt, e] at a
      rw [ti_lt] at b
      omega
theorem X_bounded (v m : Int32) (u : S2) (hm : 0 ≤ m.toInt) : f_X11_bounded v m u = some (hld v m, u) := by
  have e : (-m).toInt = -m.toInt := ti_neg (by omega)
  unfold f_X11_bounded hld
  simp only [nm_is]
  refine so2 (ti_ext ?_)
  unfold jmax jmin
  simp only [ti_lt, e]
  by_cases a : v.toInt < m.toInt
  · rw [if_pos a]
    by_cases b : -m.toInt < v.toInt
    · rw [if_pos b, if_neg (by omega), if_neg (by omega)]
    · rw [if_neg b]
      by_cases c : v.toInt < -m.toInt
      · rw [if_pos c]
      · rw [if_neg c, if_neg (by omega), e]
        omega
  · rw [if_neg a]
    by_cases b : -m.toInt < m.toInt
    · rw [if_pos b, if_neg (by omega)]
      by_cases c : m.toInt < v.toInt
      · rw [if_pos c]
      · rw [if_neg c]
        omega
    · rw [if_neg b]
      by_cases c : v.toInt < -m.toInt
      · rw [if_pos c]
      · rw [if_neg c]
        by_cases d : m.toInt < v.toInt
        · rw [if_pos d, e]
          omega
        · rw [if_neg d, e]
          omega
theorem M_held (v m : Int32) (u : S2) : f_X12_held v m u = some (hld v m, u) := by
  unfold f_X12_held hld
  by_cases a : -m ≤ v
  · have a2 : ¬ v < -m := Int32.not_lt.mpr a
    rw [if_pos a, if_neg a2]
    by_cases b : v ≤ m
    · rw [if_pos b, if_neg (Int32.not_lt.mpr b)]
    · rw [if_neg b, if_pos (Int32.not_le.mp b)]
  · rw [if_neg a, if_pos (Int32.not_le.mp a)]
def hol (p : Int32) : Int32 := 90 - siz p
theorem M_holdOf (p : Int32) (u : S2) : f_X12_holdOf p u = some (hol p, u) := by
  unfold f_X12_holdOf hol
  rw [M_size, bd_some]
theorem X_holdOf (p : Int32) (u : S2) : f_X11_holdOf p u = some (hol p, u) := by
  unfold f_X11_holdOf hol
  rw [nm_is, jabs_siz]
theorem hol_rg {p : Int32} (h : rg p (-89) 89) : rg (hol p) 1 90 := by
  have h1 := h.1
  have h2 := h.2
  have e := siz_ti (v := p) (by omega)
  have e2 : (siz p).toInt ≤ 89 ∧ 0 ≤ (siz p).toInt := by
    rw [e]
    split <;> omega
  unfold hol rg
  rw [ti_sub (by show _ ≤ (90 : Int) - _; omega) (by show (90 : Int) - _ ≤ _; omega)]
  show 1 ≤ (90 : Int) - _ ∧ (90 : Int) - _ ≤ 90
  omega
def way (h : Int32) : Int32 := if h ≤ 18000 then h else 36000 - h
def lea (s p h : Int32) : Int32 := s * (90 - way h / 100) * 20 / hol p
theorem nz_of {x : Int32} (h : 1 ≤ x.toInt) : nz x = true := by
  unfold nz
  rw [Bool.not_eq_true', decide_eq_false_iff_not]
  intro e
  rw [e] at h
  exact absurd h (by decide)
theorem M_leanOf (s p h : Int32) (u : S2) (hp : rg p (-89) 89) : f_X12_leanOf s p h u = some (lea s p h, u) := by
  unfold f_X12_leanOf lea way f_X12_leanOf_15
  have hz : nz (hol p) = true := nz_of (hol_rg hp).1
  simp only [M_holdOf, bd_some, ck_y hz]
  split <;> rfl
theorem X_leanOf (s p h : Int32) (u : S2) (hp : rg p (-89) 89) (hh : rg h 0 35999) : f_X11_leanOf s p h u = some (lea s p h, u) := by
  have hz : nz (hol p) = true := nz_of (hol_rg hp).1
  have h1 := hh.1
  have h2 := hh.2
  have e36 : (36000 - h).toInt = 36000 - h.toInt := ti_sub (by show _ ≤ (36000 : Int) - _; omega) (by show (36000 : Int) - _ ≤ _; omega)
  have ew : jmin h (36000 - h) = way h := by
    unfold jmin way
    by_cases c : h ≤ 18000
    · have c2 : h.toInt ≤ 18000 := ti_le.mp c
      rw [if_pos c, if_neg (fun z => by have := ti_lt.mp z; omega)]
    · have c2 : ¬ h.toInt ≤ 18000 := fun z => c (ti_le.mpr z)
      rw [if_neg c, if_pos (ti_lt.mpr (by omega))]
  have h1' : (1 : Int32) ≤ hol p := ti_le.mpr (hol_rg hp).1
  unfold f_X11_leanOf lea
  simp only [X_holdOf, bd_some, nm_is, ew, if_pos h1', ck_y hz]
theorem way_rg {h : Int32} (hh : rg h 0 35999) : rg (way h) 0 18000 := by
  have h1 := hh.1
  have h2 := hh.2
  unfold way rg
  by_cases c : h ≤ 18000
  · have c2 : h.toInt ≤ 18000 := ti_le.mp c
    rw [if_pos c]
    omega
  · have c2 : ¬ h.toInt ≤ 18000 := fun z => c (ti_le.mpr z)
    rw [if_neg c, ti_sub (by show _ ≤ (36000 : Int) - _; omega) (by show (36000 : Int) - _ ≤ _; omega)]
    show 0 ≤ (36000 : Int) - _ ∧ (36000 : Int) - _ ≤ 18000
    omega
theorem mul_b {a b A B : Int} (h1 : -A ≤ a) (h2 : a ≤ A) (h3 : -B ≤ b) (h4 : b ≤ B) (hA : 0 ≤ A) (hB : 0 ≤ B) : -(A * B) ≤ a * b ∧ a * b ≤ A * B := by
  have k : (a * b).natAbs ≤ (A * B).natAbs := by
    rw [Int.natAbs_mul, Int.natAbs_mul]
    exact Nat.mul_le_mul (by omega) (by omega)
  have z : 0 ≤ A * B := Int.mul_nonneg hA hB
  omega
theorem div_b {a d A : Int} (h1 : -A ≤ a) (h2 : a ≤ A) (hd : 1 ≤ d) : -A ≤ a.tdiv d ∧ a.tdiv d ≤ A := by
  rcases td a d with ⟨h, e⟩ | ⟨h, e⟩
  · rw [e]
    have b1 := Int.ediv_nonneg h (show 0 ≤ d by omega)
    have b2 := Int.ediv_le_self d h
    omega
  · rw [e]
    have b1 := Int.ediv_nonneg (show 0 ≤ -a by omega) (show 0 ≤ d by omega)
    have b2 := Int.ediv_le_self d (show 0 ≤ -a by omega)
    omega
theorem lea_rg {s p h : Int32} (hs : rg s 0 40) (hp : rg p (-89) 89) (hh : rg h 0 35999) : rg (lea s p h) (-72000) 72000 := by
  have hw := way_rg hh
  have h1 := hw.1
  have h2 := hw.2
  have e1 : (way h / 100).toInt = (way h).toInt.tdiv 100 := ti_div (by decide)
  have e2 : (way h).toInt.tdiv 100 = (way h).toInt / 100 := Int.tdiv_eq_ediv_of_nonneg h1
  have e3 : (90 - way h / 100).toInt = 90 - (way h).toInt / 100 := by
    rw [ti_sub (by rw [e1, e2]; show _ ≤ (90 : Int) - _; omega) (by rw [e1, e2]; show (90 : Int) - _ ≤ _; omega), e1, e2]
    rfl
  have b3 := mul_b (a := s.toInt) (b := (90 - way h / 100).toInt) (A := 40) (B := 90) (by have := hs.1; omega) hs.2 (by omega) (by omega) (by decide) (by decide)
  have e4 : (s * (90 - way h / 100)).toInt = s.toInt * (90 - way h / 100).toInt := ti_mul (by omega) (by omega)
  have e5 : (s * (90 - way h / 100) * 20).toInt = s.toInt * (90 - way h / 100).toInt * 20 := by
    rw [ti_mul (by rw [e4]; show _ ≤ _ * (20 : Int); omega) (by rw [e4]; show _ * (20 : Int) ≤ _; omega), e4]
    rfl
  have hg := hol_rg hp
  have hne : ¬ hol p = -1 := by
    intro e
    have := hg.1
    rw [e] at this
    exact absurd this (by decide)
  unfold lea rg
  rw [ti_div hne, e5]
  exact div_b (by omega) (by omega) hg.1
