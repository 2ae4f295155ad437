/-! watched swings: paths, what fits -/
theorem X_fol_l (p d : Int32) : ∀ (dd N i : Nat) (v3 : Int32) (u : S2), v3 = nI (i + 1) → u 17 4 = (pth p d (hol 0) 1 3000 i).1 → u 17 5 = (pth p d (hol 0) 1 3000 i).2 → u 17 1 = p → u 17 2 = d → (∀ j, j ≤ i → u 35 j = (pth p d (hol 0) 1 3000 j).1) → i + dd = 60 → dd < N → ∃ u', f_X10_follow_37 N v3 u = some u' ∧ (∀ j, j ≤ 60 → u' 35 j = (pth p d (hol 0) 1 3000 j).1) ∧ ∀ c, c ≠ 17 → c ≠ 35 → u' c = u c := by
  intro dd
  induction dd with
  | zero =>
    intro N i v3 u h3 h4 h5 h1 h2 hp hd hN
    obtain ⟨n2, rfl⟩ : ∃ n2, N = n2 + 1 := ⟨N - 1, by omega⟩
    have ei : i = 60 := by omega
    subst ei
    refine ⟨u, ?_, hp, fun _ _ _ => rfl⟩
    rw [f_X10_follow_37_e, if_pos (by rw [h3]; decide)]
  | succ dd ih =>
    intro N i v3 u h3 h4 h5 h1 h2 hp hd hN
    obtain ⟨n2, rfl⟩ : ∃ n2, N = n2 + 1 := ⟨N - 1, by omega⟩
    have hv : v3.toInt = ((i + 1 : Nat) : Int) := by rw [h3]; exact nI_toInt (by omega)
    have c : ¬ 60 < v3 := fun z => by have : (60 : Int) < v3.toInt := ti_lt.mp z; omega
    have i3 : inb v3 61 = true := inb_of (by omega) (by omega)
    have x3 : Int32.toNatClampNeg v3 = i + 1 := by
      show v3.toInt.toNat = i + 1
      omega
    obtain ⟨hh, ehh⟩ : ∃ hh, hh = hol 0 := ⟨_, rfl⟩
    rw [← ehh] at ih h4 h5 hp ⊢
    have ho' : rg (u 17 4) (-18000) 17999 := by
      rw [h4]
      exact pth_rg (o := 3000) ⟨by decide, by decide⟩ _ _ _ _ _
    rw [f_X10_follow_37_e, if_neg c, X_holdOf, bd_some, ← ehh, X_sway 17 _ _ _ _ _ ho', bv_some, swR_0]
    obtain ⟨rr, er⟩ : ∃ rr, rr = swS (u 17 5) (u 17 1) (u 17 2) hh (u 17 4) 1 := ⟨_, rfl⟩
    obtain ⟨oo, eo⟩ : ∃ oo, oo = wrp (u 17 4 + rr) := ⟨_, rfl⟩
    rw [← er, ← eo]
    have er2 : rr = (pth p d hh 1 3000 (i + 1)).2 := by
      rw [er, h4, h5, h1, h2]
      rfl
    have eo2 : oo = (pth p d hh 1 3000 (i + 1)).1 := by
      rw [eo, er, h4, h5, h1, h2]
      rfl
    have a4 : (pst u 17 oo rr) 17 4 = oo := rfl
    rw [nm_is, a4, ck_y i3, nm_is, x3, nm_is]
    have e5 : v3 + 1 = nI (i + 1 + 1) := by rw [h3]; exact nI_1 (i + 1)
    obtain ⟨u', k1, k2, k3⟩ := ih n2 (i + 1) (v3 + 1) (wr (pst u 17 oo rr) 35 (i + 1) oo) e5 eo2 er2 h1 h2 (by
      intro j hj
      rw [wr_s]
      by_cases q : j = i + 1
      · rw [q, upd_s]
        exact eo2
      · rw [upd_n q]
        exact hp j (by omega)) (by omega) (by omega)
    refine ⟨u', k1, k2, fun cc q1 q2 => ?_⟩
    rw [k3 cc q1 q2, wr_c q2]
    exact up_c q1
theorem X_fol (p d : Int32) (u : S2) : ∃ u', f_X10_follow p d u = some u' ∧ (∀ j, j ≤ 60 → u' 35 j = (pth p d (hol 0) 1 3000 j).1) ∧ ∀ c, c ≠ 17 → c ≠ 35 → u' c = u c := by
  unfold f_X10_follow f_X4_layAt
  simp only [nm_is, bv_some]
  obtain ⟨u', k1, k2, k3⟩ := X_fol_l p d 60 FUEL 0 1 (wr (wr (wr (wr (wr u 17 1 p) 17 2 d) 17 4 3000) 17 5 0) 35 0 3000) rfl rfl rfl rfl rfl (by
    intro j hj
    rw [show j = 0 by omega]
    rfl) rfl (by decide)
  refine ⟨u', k1, k2, fun c q1 q2 => ?_⟩
  rw [k3 c q1 q2, wr_c q2, wr_c q1, wr_c q1, wr_c q1, wr_c q1]
def fitB (path tk f : Nat → Int32) (n : Int32) : Nat → Bool
  | 0 => true
  | i + 1 => fitB path tk f n i && decide (ap (path (Int32.toNatClampNeg (tk i))) (f i) ≤ n)
theorem fitB_mono (path tk f : Nat → Int32) (n : Int32) (i : Nat) (h : fitB path tk f n i = false) : ∀ d, fitB path tk f n (i + d) = false := by
  intro d
  induction d with
  | zero => exact h
  | succ d ih =>
    show (fitB path tk f n (i + d) && _) = false
    rw [ih]
    rfl
theorem of_b {a b : Int32} (ha : rg a (-18000) 17999) (hb : rg b (-18000) 17999) : (a - b).toInt < 2147400000 := by
  have a1 := ha.1
  have a2 := ha.2
  have b1 := hb.1
  have b2 := hb.2
  rw [ti_sub (by omega) (by omega)]
  omega
theorem X_fits_l (n : Int32) (path : Nat → Int32) (u : S2) (S : Nat) (hS : (u 32 2).toInt = S) (hS2 : S ≤ 10) (hp : ∀ j, j ≤ 60 → u 35 j = path j) (hpr : ∀ j, rg (path j) (-18000) 17999) (ht : ∀ j, rg (u 33 j) 0 60) (hf : ∀ j, rg (u 34 j) (-18000) 17999) : ∀ (d N i : Nat), fitB path (u 33) (u 34) n i = true → i + d = S → d < N → f_X10_fits_2 N n (nI i) u = some (if fitB path (u 33) (u 34) n S then 1 else 0, u) := by
  intro d
  induction d with
  | zero =>
    intro N i hi hd hN
    obtain ⟨n2, rfl⟩ : ∃ n2, N = n2 + 1 := ⟨N - 1, by omega⟩
    have ei : i = S := by omega
    have ti : (nI i).toInt = i := nI_toInt (by omega)
    rw [f_X10_fits_2_e, if_pos (ti_le.mpr (by omega)), ← ei, hi]
    rfl
  | succ d ih =>
    intro N i hi hd hN
    obtain ⟨n2, rfl⟩ : ∃ n2, N = n2 + 1 := ⟨N - 1, by omega⟩
    have ti : (nI i).toInt = i := nI_toInt (by omega)
    have c : ¬ u 32 2 ≤ nI i := fun z => by have := ti_le.mp z; omega
    have i2 : inb (nI i) 10 = true := inb_of (by omega) (by omega)
    have x2 : Int32.toNatClampNeg (nI i) = i := by
      show (nI i).toInt.toNat = i
      omega
    have t1 := (ht i).1
    have t2 := (ht i).2
    have i3 : inb (u 33 i) 61 = true := inb_of t1 (by omega)
    have pj : u 35 (Int32.toNatClampNeg (u 33 i)) = path (Int32.toNatClampNeg (u 33 i)) := hp _ (by show (u 33 i).toInt.toNat ≤ 60; omega)
    rw [f_X10_fits_2_e, if_neg c, ck_y i2, nm_is, x2, ck_y i3, nm_is, pj, ck_y i2, nm_is]
    unfold f_X11_apart
    rw [X_asOff _ _ (of_b (hpr _) (hf _)), bd_some, nm_is, jabs_siz, bd_some]
    have ea : siz (wrp (path (Int32.toNatClampNeg (u 33 i)) - u 34 i)) = ap (path (Int32.toNatClampNeg (u 33 i))) (u 34 i) := rfl
    rw [ea]
    by_cases q : ap (path (Int32.toNatClampNeg (u 33 i))) (u 34 i) ≤ n
    · rw [if_pos q, nm_is, nI_1]
      refine ih n2 (i + 1) ?_ (by omega) (by omega)
      show (fitB path (u 33) (u 34) n i && _) = true
      rw [hi, decide_eq_true q]
      rfl
    · have hf1 : fitB path (u 33) (u 34) n (i + 1) = false := by
        show (fitB path (u 33) (u 34) n i && _) = false
        rw [decide_eq_false q, Bool.and_false]
      have := fitB_mono path (u 33) (u 34) n (i + 1) hf1 d
      rw [if_neg q, show S = i + 1 + d by omega, this]
      rfl
theorem M_fits_l (n : Int32) (path : Nat → Int32) (u : S2) (S : Nat) (hS : (u 38 28).toInt = S) (hS2 : S ≤ 10) (hp : ∀ j, j ≤ 60 → u 61 j = path j) (ht : ∀ j, rg (u 59 j) 0 60) : ∀ (d N i : Nat), i + d = S → d < N → f_X12_mayBe_19 N n (if fitB path (u 59) (u 60) n i then 1 else 0) (nI i) u = some (if fitB path (u 59) (u 60) n S then 1 else 0, u) := by
  intro d
  induction d with
  | zero =>
    intro N i hd hN
    obtain ⟨n2, rfl⟩ : ∃ n2, N = n2 + 1 := ⟨N - 1, by omega⟩
    have ei : i = S := by omega
    have ti : (nI i).toInt = i := nI_toInt (by omega)
    have ib : isB (if fitB path (u 59) (u 60) n i then 1 else 0) = true := by
      split <;> rfl
    rw [f_X12_mayBe_19_e, if_pos (ti_le.mpr (by omega)), ck_y ib, ei]
  | succ d ih =>
    intro N i hd hN
    obtain ⟨n2, rfl⟩ : ∃ n2, N = n2 + 1 := ⟨N - 1, by omega⟩
    have ti : (nI i).toInt = i := nI_toInt (by omega)
    have c : ¬ u 38 28 ≤ nI i := fun z => by have := ti_le.mp z; omega
    have i2 : inb (nI i) 10 = true := inb_of (by omega) (by omega)
    have x2 : Int32.toNatClampNeg (nI i) = i := by
      show (nI i).toInt.toNat = i
      omega
    have t1 := (ht i).1
    have t2 := (ht i).2
    have i3 : inb (u 59 i) 601 = true := inb_of t1 (by omega)
    have pj : u 61 (Int32.toNatClampNeg (u 59 i)) = path (Int32.toNatClampNeg (u 59 i)) := hp _ (by show (u 59 i).toInt.toNat ≤ 60; omega)
    have go := ih n2 (i + 1) (by omega) (by omega)
    rw [f_X12_mayBe_19_e, if_neg c]
    unfold f_X12_mayBe_67 f_X12_mayBe_68
    cases hi : fitB path (u 59) (u 60) n i
    · have hf1 : fitB path (u 59) (u 60) n (i + 1) = false := fitB_mono path (u 59) (u 60) n i hi 1
      rw [hf1] at go
      rw [if_pos (c := (if false = true then (1 : Int32) else 0) = 0) (by decide), nm_is, nI_1]
      exact go
    · rw [if_pos rfl, if_neg (by decide), ck_y i2, nm_is, x2, ck_y i3, nm_is, pj, ck_y i2, nm_is, M_wrapped, bd_some, M_size, bd_some]
      have ea : siz (wrp (path (Int32.toNatClampNeg (u 59 i)) - u 60 i)) = ap (path (Int32.toNatClampNeg (u 59 i))) (u 60 i) := rfl
      rw [ea]
      by_cases q : ap (path (Int32.toNatClampNeg (u 59 i))) (u 60 i) ≤ n
      · have hf1 : fitB path (u 59) (u 60) n (i + 1) = true := by
          show (fitB path (u 59) (u 60) n i && _) = true
          rw [hi, decide_eq_true q]
          rfl
        rw [hf1] at go
        rw [if_neg (Int32.not_lt.mpr q), nm_is, nI_1]
        exact go
      · have hf1 : fitB path (u 59) (u 60) n (i + 1) = false := by
          show (fitB path (u 59) (u 60) n i && _) = false
          rw [decide_eq_false q, Bool.and_false]
        rw [hf1] at go
        rw [if_pos (Int32.not_le.mp q), nm_is, nI_1]
        exact go
/-- the widening of the class -/
def wmn (z : Bool) (l p : Int32) : Int32 := if z then p else jmin l p
def wmx (z : Bool) (l p : Int32) : Int32 := if z then p else jmax l p
theorem X_widen_l (z : Bool) (path l g : Nat → Int32) : ∀ (d N i : Nat) (u : S2), (u 32 7 = 0 ↔ z = true) → (∀ j, j ≤ 60 → u 35 j = path j) → (∀ j, j ≤ 60 → u 36 j = if j < i then wmn z (l j) (path j) else l j) → (∀ j, j ≤ 60 → u 37 j = if j < i then wmx z (g j) (path j) else g j) → i + d = 61 → d < N → ∃ u', f_X10_widen_2 N (nI i) u = some u' ∧ (∀ j, j ≤ 60 → u' 36 j = wmn z (l j) (path j)) ∧ (∀ j, j ≤ 60 → u' 37 j = wmx z (g j) (path j)) ∧ ∀ c, c ≠ 36 → c ≠ 37 → u' c = u c := by
  intro d
  induction d with
  | zero =>
    intro N i u hz hp hl hg hd hN
    obtain ⟨n2, rfl⟩ : ∃ n2, N = n2 + 1 := ⟨N - 1, by omega⟩
    have ei : i = 61 := by omega
    subst ei
    refine ⟨u, ?_, fun j hj => ?_, fun j hj => ?_, fun _ _ _ => rfl⟩
    · rw [f_X10_widen_2_e, if_pos (by decide)]
    · rw [hl j hj, if_pos (by omega)]
    · rw [hg j hj, if_pos (by omega)]
  | succ d ih =>
    intro N i u hz hp hl hg hd hN
    obtain ⟨n2, rfl⟩ : ∃ n2, N = n2 + 1 := ⟨N - 1, by omega⟩
    have ti : (nI i).toInt = i := nI_toInt (by omega)
    have c : ¬ 60 < nI i := fun z => by have : (60 : Int) < (nI i).toInt := ti_lt.mp z; omega
    have i2 : inb (nI i) 61 = true := inb_of (by omega) (by omega)
    have x2 : Int32.toNatClampNeg (nI i) = i := by
      show (nI i).toInt.toNat = i
      omega
    have l0 : u 36 i = l i := by rw [hl i (by omega), if_neg (by omega)]
    have g0 : u 37 i = g i := by rw [hg i (by omega), if_neg (by omega)]
    have p0 : u 35 i = path i := hp i (by omega)
    obtain ⟨a, ea⟩ : ∃ a, a = wmn z (l i) (path i) := ⟨_, rfl⟩
    obtain ⟨b, eb⟩ : ∃ b, b = wmx z (g i) (path i) := ⟨_, rfl⟩
    have last : f_X10_widen_81 (fun v1 u => f_X10_widen_2 n2 v1 u) (nI i) (nI i) b (wr u 36 i a) = f_X10_widen_2 n2 (nI (i + 1)) (wr (wr u 36 i a) 37 i b) := by
      unfold f_X10_widen_81
      rw [ck_y i2, nm_is, x2, nm_is, nI_1]
    have mid : f_X10_widen_44 (fun v1 u => f_X10_widen_2 n2 v1 u) (nI i) (nI i) a u = f_X10_widen_2 n2 (nI (i + 1)) (wr (wr u 36 i a) 37 i b) := by
      unfold f_X10_widen_44
      rw [ck_y i2, nm_is, x2]
      have q7 : (wr u 36 i a) 32 7 = u 32 7 := rfl
      have q35 : (wr u 36 i a) 35 i = u 35 i := rfl
      have q37 : (wr u 36 i a) 37 i = u 37 i := rfl
      rw [q7]
      cases ez : z
      · have nz0 : ¬ u 32 7 = 0 := fun e => by have := hz.mp e; rw [ez] at this; exact absurd this (by decide)
        rw [if_neg nz0, ck_y i2, nm_is, ck_y i2, nm_is, q35, q37, p0, g0, nm_is]
        have : jmax (g i) (path i) = b := by rw [eb, ez]; rfl
        rw [this]
        exact last
      · rw [if_pos (hz.mpr ez), ck_y i2, nm_is, q35, p0]
        have : path i = b := by rw [eb, ez]; rfl
        rw [this]
        exact last
    have first : f_X10_widen_2 (n2 + 1) (nI i) u = f_X10_widen_2 n2 (nI (i + 1)) (wr (wr u 36 i a) 37 i b) := by
      rw [f_X10_widen_2_e, if_neg c]
      cases ez : z
      · have nz0 : ¬ u 32 7 = 0 := fun e => by have := hz.mp e; rw [ez] at this; exact absurd this (by decide)
        rw [if_neg nz0, ck_y i2, nm_is, ck_y i2, nm_is, x2, l0, p0, nm_is]
        have : jmin (l i) (path i) = a := by rw [ea, ez]; rfl
        rw [this]
        exact mid
      · rw [if_pos (hz.mpr ez), ck_y i2, nm_is, x2, p0]
        have : path i = a := by rw [ea, ez]; rfl
        rw [this]
        exact mid
    obtain ⟨u', k1, k2, k3, k4⟩ := ih n2 (i + 1) (wr (wr u 36 i a) 37 i b) hz hp (by
      intro j hj
      show upd (u 36) i a j = _
      by_cases q : j = i
      · rw [q, upd_s, if_pos (by omega), ea]
      · rw [upd_n q, hl j hj]
        by_cases q2 : j < i
        · rw [if_pos q2, if_pos (by omega)]
        · rw [if_neg q2, if_neg (by omega)]) (by
      intro j hj
      show upd (u 37) i b j = _
      by_cases q : j = i
      · rw [q, upd_s, if_pos (by omega), eb]
      · rw [upd_n q, hg j hj]
        by_cases q2 : j < i
        · rw [if_pos q2, if_pos (by omega)]
        · rw [if_neg q2, if_neg (by omega)]) (by omega) (by omega)
    refine ⟨u', first.trans k1, k2, k3, fun cc q1 q2 => ?_⟩
    rw [k4 cc q1 q2, wr_c q2, wr_c q1]
theorem M_widen_l (z35 : Int32 → Int32 → Int32 → Int32 → Int32 → S2 → Option (Int32 × S2)) (v1 v2 v3 v4 v5 : Int32) (z : Bool) (hz : v3 = 0 ↔ z = true) (path l g : Nat → Int32) : ∀ (d N i : Nat) (u : S2), (∀ j, j ≤ 60 → u 61 j = path j) → (∀ j, j ≤ 60 → u 62 j = if j < i then wmn z (l j) (path j) else l j) → (∀ j, j ≤ 60 → u 63 j = if j < i then wmx z (g j) (path j) else g j) → i + d = 61 → d < N → ∃ u', f_X12_may_89 z35 N v1 v2 v3 v4 v5 (nI i) u = f_X12_may_192 z35 v1 v2 v3 v4 v5 u' ∧ (∀ j, j ≤ 60 → u' 62 j = wmn z (l j) (path j)) ∧ (∀ j, j ≤ 60 → u' 63 j = wmx z (g j) (path j)) ∧ ∀ c, c ≠ 62 → c ≠ 63 → u' c = u c := by
  intro d
  induction d with
  | zero =>
    intro N i u hp hl hg hd hN
    obtain ⟨n2, rfl⟩ : ∃ n2, N = n2 + 1 := ⟨N - 1, by omega⟩
    have ei : i = 61 := by omega
    subst ei
    refine ⟨u, ?_, fun j hj => ?_, fun j hj => ?_, fun _ _ _ => rfl⟩
    · rw [f_X12_may_89_e, if_pos (by decide)]
    · rw [hl j hj, if_pos (by omega)]
    · rw [hg j hj, if_pos (by omega)]
  | succ d ih =>
    intro N i u hp hl hg hd hN
    obtain ⟨n2, rfl⟩ : ∃ n2, N = n2 + 1 := ⟨N - 1, by omega⟩
    have ti : (nI i).toInt = i := nI_toInt (by omega)
    have c : ¬ 60 < nI i := fun z => by have : (60 : Int) < (nI i).toInt := ti_lt.mp z; omega
    have i2 : inb (nI i) 61 = true := inb_of (by omega) (by omega)
    have i6 : inb (nI i) 601 = true := inb_of (by omega) (by omega)
    have x2 : Int32.toNatClampNeg (nI i) = i := by
      show (nI i).toInt.toNat = i
      omega
    have l0 : u 62 i = l i := by rw [hl i (by omega), if_neg (by omega)]
    have g0 : u 63 i = g i := by rw [hg i (by omega), if_neg (by omega)]
    have p0 : u 61 i = path i := hp i (by omega)
    obtain ⟨a, ea⟩ : ∃ a, a = wmn z (l i) (path i) := ⟨_, rfl⟩
    obtain ⟨b, eb⟩ : ∃ b, b = wmx z (g i) (path i) := ⟨_, rfl⟩
    have last : f_X12_may_185 z35 (fun v1 v2 v3 v4 v5 v6 u => f_X12_may_89 z35 n2 v1 v2 v3 v4 v5 v6 u) v1 v2 v3 v4 v5 (nI i) (nI i) b (wr u 62 i a) = f_X12_may_89 z35 n2 v1 v2 v3 v4 v5 (nI (i + 1)) (wr (wr u 62 i a) 63 i b) := by
      unfold f_X12_may_185
      rw [ck_y i2, nm_is, x2, nm_is, nI_1]
    have q61 : (wr u 62 i a) 61 i = u 61 i := rfl
    have q63 : (wr u 62 i a) 63 i = u 63 i := rfl
    have mid : f_X12_may_140 z35 (fun v1 v2 v3 v4 v5 v6 u => f_X12_may_89 z35 n2 v1 v2 v3 v4 v5 v6 u) v1 v2 v3 v4 v5 (nI i) (nI i) a u = f_X12_may_89 z35 n2 v1 v2 v3 v4 v5 (nI (i + 1)) (wr (wr u 62 i a) 63 i b) := by
      unfold f_X12_may_140 f_X12_may_168
      rw [ck_y i2, nm_is, x2]
      cases ez : z
      · have nz0 : ¬ v3 = 0 := fun e => by have := hz.mp e; rw [ez] at this; exact absurd this (by decide)
        have eb2 : b = if g i < path i then path i else g i := by rw [eb, ez]; rfl
        rw [if_neg nz0, ck_y i6, nm_is, ck_y i2, nm_is, q61, q63, p0, g0]
        by_cases q : path i ≤ g i
        · rw [if_neg (Int32.not_lt.mpr q)] at eb2
          rw [if_pos q, ck_y i2, nm_is, ← eb2]
          exact last
        · rw [if_pos (Int32.not_le.mp q)] at eb2
          rw [if_neg q, ck_y i6, nm_is, ← eb2]
          exact last
      · have : path i = b := by rw [eb, ez]; rfl
        rw [if_pos (hz.mpr ez), ck_y i6, nm_is, q61, p0, this]
        exact last
    have first : f_X12_may_89 z35 (n2 + 1) v1 v2 v3 v4 v5 (nI i) u = f_X12_may_89 z35 n2 v1 v2 v3 v4 v5 (nI (i + 1)) (wr (wr u 62 i a) 63 i b) := by
      rw [f_X12_may_89_e, if_neg c]
      unfold f_X12_may_123
      cases ez : z
      · have nz0 : ¬ v3 = 0 := fun e => by have := hz.mp e; rw [ez] at this; exact absurd this (by decide)
        have ea2 : a = if path i < l i then path i else l i := by rw [ea, ez]; rfl
        rw [if_neg nz0, ck_y i6, nm_is, ck_y i2, nm_is, x2, l0, p0]
        by_cases q : l i ≤ path i
        · rw [if_neg (Int32.not_lt.mpr q)] at ea2
          rw [if_pos q, ck_y i2, nm_is, ← ea2]
          exact mid
        · rw [if_pos (Int32.not_le.mp q)] at ea2
          rw [if_neg q, ck_y i6, nm_is, ← ea2]
          exact mid
      · have : path i = a := by rw [ea, ez]; rfl
        rw [if_pos (hz.mpr ez), ck_y i6, nm_is, x2, p0, this]
        exact mid
    obtain ⟨u', k1, k2, k3, k4⟩ := ih n2 (i + 1) (wr (wr u 62 i a) 63 i b) hp (by
      intro j hj
      show upd (u 62) i a j = _
      by_cases q : j = i
      · rw [q, upd_s, if_pos (by omega), ea]
      · rw [upd_n q, hl j hj]
        by_cases q2 : j < i
        · rw [if_pos q2, if_pos (by omega)]
        · rw [if_neg q2, if_neg (by omega)]) (by
      intro j hj
      show upd (u 63) i b j = _
      by_cases q : j = i
      · rw [q, upd_s, if_pos (by omega), eb]
      · rw [upd_n q, hg j hj]
        by_cases q2 : j < i
        · rw [if_pos q2, if_pos (by omega)]
        · rw [if_neg q2, if_neg (by omega)]) (by omega) (by omega)
    refine ⟨u', first.trans k1, k2, k3, fun cc q1 q2 => ?_⟩
    rw [k4 cc q1 q2, wr_c q2, wr_c q1]
