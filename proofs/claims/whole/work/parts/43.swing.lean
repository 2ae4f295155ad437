/-! swings -/
def swS (rate pull damp hold out dm : Int32) : Int32 := hld (if dm = 0 then rate - pull * hold * out / 9000 else (rate - pull * hold * out / 9000) - (rate - pull * hold * out / 9000) * damp / 100) 9999
theorem swR_0 (rate pull damp kick hold out dm : Int32) : swR rate pull damp kick hold out 0 dm = swS rate pull damp hold out dm := by
  unfold swR swS
  have e : (0 : Int32) * kick / 100 = 0 := by
    rw [Int32.zero_mul]
    decide
  rw [e, Int32.add_zero]
def pth (pull damp hold dm o : Int32) : Nat → Int32 × Int32
  | 0 => (o, 0)
  | i + 1 => (wrp ((pth pull damp hold dm o i).1 + swS (pth pull damp hold dm o i).2 pull damp hold (pth pull damp hold dm o i).1 dm), swS (pth pull damp hold dm o i).2 pull damp hold (pth pull damp hold dm o i).1 dm)
theorem pth_rg {o : Int32} (ho : rg o (-18000) 17999) (pull damp hold dm : Int32) (i : Nat) : rg (pth pull damp hold dm o i).1 (-18000) 17999 := by
  cases i with
  | zero => exact ho
  | succ i => exact wrp_rg _
theorem M_lay_l (pull damp dm pl n o : Int32) : ∀ (d N i : Nat) (v8 v7 : Int32) (u : S2), v8.toInt = i + 1 → v7 = (pth pull damp (hol pl) dm o i).2 → (∀ j, j ≤ i → u 61 j = (pth pull damp (hol pl) dm o j).1) → (i : Int) + d = n.toInt → n.toInt ≤ 600 → d < N → ∃ u', f_X12_laySwing_14 N pull damp dm pl n v7 v8 u = some u' ∧ (∀ j, j ≤ i + d → u' 61 j = (pth pull damp (hol pl) dm o j).1) ∧ ∀ c, c ≠ 61 → u' c = u c := by
  intro d
  induction d with
  | zero =>
    intro N i v8 v7 u h8 h7 hp hd hn hN
    obtain ⟨n2, rfl⟩ : ∃ n2, N = n2 + 1 := ⟨N - 1, by omega⟩
    refine ⟨u, ?_, hp, fun _ _ => rfl⟩
    rw [f_X12_laySwing_14_e, if_pos (ti_lt.mpr (by omega))]
  | succ d ih =>
    intro N i v8 v7 u h8 h7 hp hd hn hN
    obtain ⟨n2, rfl⟩ : ∃ n2, N = n2 + 1 := ⟨N - 1, by omega⟩
    have c : ¬ n < v8 := fun z => by have := ti_lt.mp z; omega
    have e8 : (v8 + 1).toInt = ((i + 1 : Nat) : Int) + 1 := by
      rw [ti_add (by show _ ≤ v8.toInt + (1 : Int); omega) (by show v8.toInt + (1 : Int) ≤ _; omega)]
      show v8.toInt + (1 : Int) = _
      omega
    have em : (v8 - 1).toInt = i := by
      rw [ti_sub (by show _ ≤ v8.toInt - (1 : Int); omega) (by show v8.toInt - (1 : Int) ≤ _; omega)]
      show v8.toInt - (1 : Int) = _
      omega
    have i1 : inb (v8 - 1) 601 = true := inb_of (by omega) (by omega)
    have i2 : inb v8 601 = true := inb_of (by omega) (by omega)
    have x1 : Int32.toNatClampNeg (v8 - 1) = i := by
      show (v8 - 1).toInt.toNat = i
      omega
    have x2 : Int32.toNatClampNeg v8 = i + 1 := by
      show v8.toInt.toNat = i + 1
      omega
    obtain ⟨hh, ehh⟩ : ∃ hh, hh = hol pl := ⟨_, rfl⟩
    rw [← ehh] at ih hp h7 ⊢
    obtain ⟨po, epo⟩ : ∃ po, po = (pth pull damp hh dm o i).1 := ⟨_, rfl⟩
    have p0 : u 61 i = po := by rw [epo]; exact hp i (Nat.le_refl i)
    have go : ∀ r : Int32, hld r 9999 = swS v7 pull damp hh po dm → ∃ u', f_X12_laySwing_55 (fun v1 v2 v3 v4 v6 v7 v8 u => f_X12_laySwing_14 n2 v1 v2 v3 v4 v6 v7 v8 u) pull damp dm pl n v8 r u = some u' ∧ (∀ j, j ≤ i + (d + 1) → u' 61 j = (pth pull damp hh dm o j).1) ∧ ∀ c, c ≠ 61 → u' c = u c := by
      intro r er
      unfold f_X12_laySwing_55
      rw [M_held, bd_some, ck_y i1, nm_is, x1, p0, er, M_wrapped, bd_some, ck_y i2, nm_is, x2, nm_is]
      obtain ⟨rr, err⟩ : ∃ rr, rr = swS v7 pull damp hh po dm := ⟨_, rfl⟩
      obtain ⟨oo, eoo⟩ : ∃ oo, oo = wrp (po + rr) := ⟨_, rfl⟩
      rw [← err, ← eoo]
      have r2 : rr = (pth pull damp hh dm o (i + 1)).2 := by
        rw [err, h7, epo]
        rfl
      have o2 : oo = (pth pull damp hh dm o (i + 1)).1 := by
        rw [eoo, err, h7, epo]
        rfl
      obtain ⟨u', k1, k2, k3⟩ := ih n2 (i + 1) (v8 + 1) rr (wr u 61 (i + 1) oo) e8 r2 (by
        intro j hj
        rw [wr_s]
        by_cases q : j = i + 1
        · rw [q, upd_s]
          exact o2
        · rw [upd_n q]
          exact hp j (by omega)) (by omega) hn (by omega)
      refine ⟨u', k1, fun j hj => k2 j (by omega), fun cc hc => ?_⟩
      rw [k3 cc hc, wr_c hc]
    rw [f_X12_laySwing_14_e, if_neg c, ck_y i1, nm_is, x1, p0]
    unfold f_X12_pulled
    rw [M_holdOf, bd_some, bd_some, ← ehh]
    by_cases z : dm = 0
    · rw [if_pos z]
      exact go _ (by unfold swS; rw [if_pos z])
    · rw [if_neg z]
      unfold f_X12_damped
      rw [bd_some]
      exact go _ (by unfold swS; rw [if_neg z])
theorem M_lay (pull damp dm pl o n : Int32) (u : S2) (hn : rg n 1 600) : ∃ u', f_X12_laySwing pull damp dm pl o n u = some u' ∧ (∀ j : Nat, (j : Int) ≤ n.toInt → u' 61 j = (pth pull damp (hol pl) dm o j).1) ∧ ∀ c, c ≠ 61 → u' c = u c := by
  have h1 := hn.1
  have h2 := hn.2
  obtain ⟨u', k1, k2, k3⟩ := M_lay_l pull damp dm pl n o n.toInt.toNat FUEL 0 1 0 (wr u 61 0 o) (by decide) rfl (by
    intro j hj
    rw [show j = 0 by omega, wr_s, upd_s]
    rfl) (by omega) h2 (by show _ < 1000; omega)
  refine ⟨u', ?_, fun j hj => k2 j (by omega), fun c hc => ?_⟩
  · unfold f_X12_laySwing
    rw [nm_is]
    exact k1
  · rw [k3 c hc, wr_c hc]
/-- what the class notes, tick by tick -/
def reS (p : Nat → Int32) : Nat → Int32
  | 0 => if siz (p 0) ≤ 100 then 0 else -1
  | i + 1 => if siz (p (i + 1)) ≤ 100 then (if reS p i = -1 then nI (i + 1) else reS p i) else -1
def cX (o q : Int32) : Bool := if o ≤ 0 then !(decide (q < 0)) else !(decide (0 < q))
def crS (o : Int32) (p : Nat → Int32) : Nat → Int32
  | 0 => -1
  | i + 1 => if crS o p i = -1 then (if cX o (p (i + 1)) then nI (i + 1) else -1) else crS o p i
def beS (o : Int32) (p : Nat → Int32) : Nat → Int32
  | 0 => 0
  | i + 1 => if crS o p i = -1 then (if cX o (p (i + 1)) then p (i + 1) else beS o p i) else (if siz (p (i + 1)) ≤ siz (beS o p i) then beS o p i else p (i + 1))
theorem nI_ne (i : Nat) (h : i < 2147483648) : ¬ nI i = -1 := fun e => by
  have e2 : (nI i).toInt = ((-1 : Int32)).toInt := by rw [e]
  rw [nI_toInt h] at e2
  have e3 : ((-1 : Int32)).toInt = -1 := by decide
  omega
theorem X_rest (v q : Int32) (u : S2) (h : u 16 4 = q) : f_X8_noteRest v u = some (wr u 24 3 (if siz q ≤ 100 then (if u 24 3 = -1 then v else u 24 3) else -1)) := by
  unfold f_X8_noteRest
  rw [nm_is, h, jabs_siz]
  by_cases a : siz q ≤ 100
  · rw [if_pos a, if_pos a]
    by_cases b : u 24 3 = -1
    · rw [if_pos b, if_pos b, nm_is]
    · rw [if_neg b, if_neg b, wr_self]
  · rw [if_neg a, if_neg a, nm_is]
theorem X_cross (v o q : Int32) (u : S2) (h : u 16 4 = q) (hv : ¬ v = -1) : ∃ u', f_X8_noteCrossing v o u = some u' ∧ u' 24 1 = (if u 24 1 = -1 then (if cX o q then v else -1) else u 24 1) ∧ u' 24 2 = (if u 24 1 = -1 then (if cX o q then q else u 24 2) else (if siz q ≤ siz (u 24 2) then u 24 2 else q)) ∧ u' 24 3 = u 24 3 ∧ ∀ c, c ≠ 24 → u' c = u c := by
  have no : ∀ b : Bool, cX o q = b → u 24 1 = -1 → b = false → f_X8_noteCrossing_51 u = some u := by
    intro b hb h1 h2
    unfold f_X8_noteCrossing_51
    rw [if_pos h1]
  have yes : f_X8_noteCrossing_35 v u = some (wr (wr u 24 1 v) 24 2 q) := by
    unfold f_X8_noteCrossing_35 f_X8_noteCrossing_51
    have e1 : (wr u 24 1 v) 16 4 = q := h
    rw [nm_is, nm_is, e1, nm_is]
    have e2 : (wr (wr u 24 1 v) 24 2 q) 24 1 = v := rfl
    have e3 : (wr (wr u 24 1 v) 24 2 q) 24 2 = q := rfl
    have e4 : (wr (wr u 24 1 v) 24 2 q) 16 4 = q := h
    rw [e2, if_neg hv, nm_is, nm_is, e3, e4, if_pos (Int32.le_refl _)]
  by_cases a : u 24 1 = -1
  · by_cases b : cX o q = true
    · refine ⟨wr (wr u 24 1 v) 24 2 q, ?_, ?_, ?_, rfl, fun c hc => by rw [wr_c hc, wr_c hc]⟩
      · unfold f_X8_noteCrossing
        rw [if_pos a, h]
        unfold cX at b
        by_cases z : o ≤ 0
        · rw [if_pos z] at b ⊢
          rw [if_neg (by simpa using b)]
          exact yes
        · rw [if_neg z] at b ⊢
          rw [if_neg (by simpa using b)]
          exact yes
      · rw [if_pos a, if_pos b]
        rfl
      · rw [if_pos a, if_pos b]
        rfl
    · have b2 : cX o q = false := by simpa using b
      refine ⟨u, ?_, ?_, ?_, rfl, fun _ _ => rfl⟩
      · unfold f_X8_noteCrossing
        rw [if_pos a, h]
        unfold cX at b2
        by_cases z : o ≤ 0
        · rw [if_pos z] at b2 ⊢
          rw [if_pos (by simpa using b2)]
          exact no _ rfl a (by unfold cX; rw [if_pos z]; exact b2)
        · rw [if_neg z] at b2 ⊢
          rw [if_pos (by simpa using b2)]
          exact no _ rfl a (by unfold cX; rw [if_neg z]; exact b2)
      · rw [if_pos a, if_neg b, a]
      · rw [if_pos a, if_neg b]
  · unfold f_X8_noteCrossing
    rw [if_neg a, if_neg a, if_neg a]
    unfold f_X8_noteCrossing_51
    rw [if_neg a, nm_is, nm_is, h, jabs_siz, jabs_siz]
    by_cases z : siz q ≤ siz (u 24 2)
    · exact ⟨u, by rw [if_pos z], rfl, by rw [if_pos z], rfl, fun _ _ => rfl⟩
    · exact ⟨wr u 24 2 q, by rw [if_neg z, nm_is, nm_is], rfl, by rw [if_neg z]; rfl, rfl, fun c hc => wr_c hc⟩
