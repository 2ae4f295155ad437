def rudr (num : Nat → Int32) (dead out goes : Int32) : Int32 := if 10 * dead < siz out then hld (out * num 1 / 10000 - goes * num 2 / 10000) (num 3) else 0
theorem rudr_rg {num : Nat → Int32} {dead out goes : Int32} (h : rg (num 3) 0 35) : rg (rudr num dead out goes) (-35) 35 := by
  unfold rudr
  split
  · exact hld_rg _ _ 35 h (by decide)
  · exact ⟨by decide, by decide⟩
theorem hd_b {a b : Int32} (ha : rg a 0 35999) (hb : rg b 0 35999) : (a - b).toInt < 2147400000 := by
  have h1 := ha.1
  have h2 := ha.2
  have h3 := hb.1
  have h4 := hb.2
  rw [ti_sub (by omega) (by omega)]
  omega
theorem rudr_c {f g : Nat → Int32} (h : ∀ j, j < 6 → f j = g j) (dead out goes : Int32) : rudr f dead out goes = rudr g dead out goes := by
  unfold rudr
  rw [h 1 (by decide), h 2 (by decide), h 3 (by decide)]
def stX_5_0 (u : S2) : S2 := wr (wr (wr u 9 2 1) 9 3 (shw (u 10 0) (u 10 4) (u 10 6) (u 10 7) (u 5 4) (u 4))) 5 6 (rudr (u 18) (u 18 0) (wrp (u 9 1 - (shw (u 10 0) (u 10 4) (u 10 6) (u 10 7) (u 5 4) (u 4)))) (if u 9 2 = 0 then 0 else wrp ((shw (u 10 0) (u 10 4) (u 10 6) (u 10 7) (u 5 4) (u 4)) - u 9 3)))
theorem X_steer_5_0 (u : S2) (e : u 18 5 = 0) (hh : rg (u 5 4) 0 35999) (hp : rg (u 10 7) (-89) 89) (hN : RN (u 18)) (hc : rg (u 9 1) 0 35999) (hl : u 9 2 = 0 ∨ rg (u 9 3) 0 35999) : f_X0_steerShip_9_5 u = some (if u 5 8 - u 5 8 / u 18 4 * u 18 4 = 0 then stX_5_0 u else u) := by
  have h4 := hN.2.2.2.2.1
  have hz : nz (u 18 4) = true := nz_of h4.1
  have hlt : ¬ u 18 4 < 1 := fun z => by have := ti_lt.mp z; have h5 : (u 18 4).toInt < 1 := this; have := h4.1; omega
  have hpa : f_X7_pointerAt_5 0 u = some (some 10, u) := rfl
  have h9 : 0 ≤ (u 18 3).toInt := hN.2.2.2.1.1
  obtain ⟨sv, es⟩ : ∃ sv, sv = (shw (u 10 0) (u 10 4) (u 10 6) (u 10 7) (u 5 4) (u 4)) := ⟨_, rfl⟩
  have hs : rg sv 0 35999 := by rw [es]; exact shw_rg _ _ _ _ _ _
  have fin : ∀ g : Int32, f_X0_steerShip_9_5_84 sv (wrp (u 9 1 - sv)) g u = some (wr (wr (wr u 9 2 1) 9 3 sv) 5 6 (rudr (u 18) (u 18 0) (wrp (u 9 1 - sv)) g)) := by
    intro g
    unfold f_X0_steerShip_9_5_84 f_X0_steerShip_9_5_127 rudr
    have e0 : (wr (wr u 9 2 1) 9 3 sv) 18 = u 18 := rfl
    rw [nm_is, nm_is, nm_is, nm_is, jabs_siz, e0]
    by_cases c : 10 * u 18 0 < siz (wrp (u 9 1 - sv))
    · rw [if_pos c, if_pos c]
      unfold f_X0_answerTo_9
      rw [nm_is, nm_is, nm_is, e0, X_bounded _ _ _ h9, bd_some, bd_some, nm_is]
    · rw [if_neg c, if_neg c, nm_is]
  unfold f_X0_steerShip_9_5 stX_5_0
  rw [nm_is, nm_is, e, hpa, bq_some]
  show (if u 18 4 < 1 then some u else ck (nz (u 18 4)) _) = _
  rw [if_neg hlt, ck_y hz, nm_is, ← es]
  by_cases r : u 5 8 - u 5 8 / u 18 4 * u 18 4 = 0
  · rw [if_pos r, if_pos r, X_shown _ _ _ hh hp, bd_some, ← es, X_asOff _ _ (hd_b hc hs), bd_some]
    by_cases l : u 9 2 = 0
    · rw [if_pos l, if_pos l, fin]
    · have hl2 : rg (u 9 3) 0 35999 := hl.elim (fun z => absurd z l) id
      rw [if_neg l, if_neg l, X_asOff _ _ (hd_b hs hl2), bd_some, fin]
  · rw [if_neg r, if_neg r]
def stX_5_1 (u : S2) : S2 := wr (wr (wr u 9 2 1) 9 3 (shw (u 11 0) (u 11 4) (u 11 6) (u 11 7) (u 5 4) (u 4))) 5 6 (rudr (u 18) (u 18 0) (wrp (u 9 1 - (shw (u 11 0) (u 11 4) (u 11 6) (u 11 7) (u 5 4) (u 4)))) (if u 9 2 = 0 then 0 else wrp ((shw (u 11 0) (u 11 4) (u 11 6) (u 11 7) (u 5 4) (u 4)) - u 9 3)))
theorem X_steer_5_1 (u : S2) (e : u 18 5 = 1) (hh : rg (u 5 4) 0 35999) (hp : rg (u 11 7) (-89) 89) (hN : RN (u 18)) (hc : rg (u 9 1) 0 35999) (hl : u 9 2 = 0 ∨ rg (u 9 3) 0 35999) : f_X0_steerShip_9_5 u = some (if u 5 8 - u 5 8 / u 18 4 * u 18 4 = 0 then stX_5_1 u else u) := by
  have h4 := hN.2.2.2.2.1
  have hz : nz (u 18 4) = true := nz_of h4.1
  have hlt : ¬ u 18 4 < 1 := fun z => by have := ti_lt.mp z; have h5 : (u 18 4).toInt < 1 := this; have := h4.1; omega
  have hpa : f_X7_pointerAt_5 1 u = some (some 11, u) := rfl
  have h9 : 0 ≤ (u 18 3).toInt := hN.2.2.2.1.1
  obtain ⟨sv, es⟩ : ∃ sv, sv = (shw (u 11 0) (u 11 4) (u 11 6) (u 11 7) (u 5 4) (u 4)) := ⟨_, rfl⟩
  have hs : rg sv 0 35999 := by rw [es]; exact shw_rg _ _ _ _ _ _
  have fin : ∀ g : Int32, f_X0_steerShip_9_5_84 sv (wrp (u 9 1 - sv)) g u = some (wr (wr (wr u 9 2 1) 9 3 sv) 5 6 (rudr (u 18) (u 18 0) (wrp (u 9 1 - sv)) g)) := by
    intro g
    unfold f_X0_steerShip_9_5_84 f_X0_steerShip_9_5_127 rudr
    have e0 : (wr (wr u 9 2 1) 9 3 sv) 18 = u 18 := rfl
    rw [nm_is, nm_is, nm_is, nm_is, jabs_siz, e0]
    by_cases c : 10 * u 18 0 < siz (wrp (u 9 1 - sv))
    · rw [if_pos c, if_pos c]
      unfold f_X0_answerTo_9
      rw [nm_is, nm_is, nm_is, e0, X_bounded _ _ _ h9, bd_some, bd_some, nm_is]
    · rw [if_neg c, if_neg c, nm_is]
  unfold f_X0_steerShip_9_5 stX_5_1
  rw [nm_is, nm_is, e, hpa, bq_some]
  show (if u 18 4 < 1 then some u else ck (nz (u 18 4)) _) = _
  rw [if_neg hlt, ck_y hz, nm_is, ← es]
  by_cases r : u 5 8 - u 5 8 / u 18 4 * u 18 4 = 0
  · rw [if_pos r, if_pos r, X_shown _ _ _ hh hp, bd_some, ← es, X_asOff _ _ (hd_b hc hs), bd_some]
    by_cases l : u 9 2 = 0
    · rw [if_pos l, if_pos l, fin]
    · have hl2 : rg (u 9 3) 0 35999 := hl.elim (fun z => absurd z l) id
      rw [if_neg l, if_neg l, X_asOff _ _ (hd_b hs hl2), bd_some, fin]
  · rw [if_neg r, if_neg r]
def stX_5_2 (u : S2) : S2 := wr (wr (wr u 9 2 1) 9 3 (shw (u 12 0) (u 12 4) (u 12 6) (u 12 7) (u 5 4) (u 4))) 5 6 (rudr (u 18) (u 18 0) (wrp (u 9 1 - (shw (u 12 0) (u 12 4) (u 12 6) (u 12 7) (u 5 4) (u 4)))) (if u 9 2 = 0 then 0 else wrp ((shw (u 12 0) (u 12 4) (u 12 6) (u 12 7) (u 5 4) (u 4)) - u 9 3)))
theorem X_steer_5_2 (u : S2) (e : u 18 5 = 2) (hh : rg (u 5 4) 0 35999) (hp : rg (u 12 7) (-89) 89) (hN : RN (u 18)) (hc : rg (u 9 1) 0 35999) (hl : u 9 2 = 0 ∨ rg (u 9 3) 0 35999) : f_X0_steerShip_9_5 u = some (if u 5 8 - u 5 8 / u 18 4 * u 18 4 = 0 then stX_5_2 u else u) := by
  have h4 := hN.2.2.2.2.1
  have hz : nz (u 18 4) = true := nz_of h4.1
  have hlt : ¬ u 18 4 < 1 := fun z => by have := ti_lt.mp z; have h5 : (u 18 4).toInt < 1 := this; have := h4.1; omega
  have hpa : f_X7_pointerAt_5 2 u = some (some 12, u) := rfl
  have h9 : 0 ≤ (u 18 3).toInt := hN.2.2.2.1.1
  obtain ⟨sv, es⟩ : ∃ sv, sv = (shw (u 12 0) (u 12 4) (u 12 6) (u 12 7) (u 5 4) (u 4)) := ⟨_, rfl⟩
  have hs : rg sv 0 35999 := by rw [es]; exact shw_rg _ _ _ _ _ _
  have fin : ∀ g : Int32, f_X0_steerShip_9_5_84 sv (wrp (u 9 1 - sv)) g u = some (wr (wr (wr u 9 2 1) 9 3 sv) 5 6 (rudr (u 18) (u 18 0) (wrp (u 9 1 - sv)) g)) := by
    intro g
    unfold f_X0_steerShip_9_5_84 f_X0_steerShip_9_5_127 rudr
    have e0 : (wr (wr u 9 2 1) 9 3 sv) 18 = u 18 := rfl
    rw [nm_is, nm_is, nm_is, nm_is, jabs_siz, e0]
    by_cases c : 10 * u 18 0 < siz (wrp (u 9 1 - sv))
    · rw [if_pos c, if_pos c]
      unfold f_X0_answerTo_9
      rw [nm_is, nm_is, nm_is, e0, X_bounded _ _ _ h9, bd_some, bd_some, nm_is]
    · rw [if_neg c, if_neg c, nm_is]
  unfold f_X0_steerShip_9_5 stX_5_2
  rw [nm_is, nm_is, e, hpa, bq_some]
  show (if u 18 4 < 1 then some u else ck (nz (u 18 4)) _) = _
  rw [if_neg hlt, ck_y hz, nm_is, ← es]
  by_cases r : u 5 8 - u 5 8 / u 18 4 * u 18 4 = 0
  · rw [if_pos r, if_pos r, X_shown _ _ _ hh hp, bd_some, ← es, X_asOff _ _ (hd_b hc hs), bd_some]
    by_cases l : u 9 2 = 0
    · rw [if_pos l, if_pos l, fin]
    · have hl2 : rg (u 9 3) 0 35999 := hl.elim (fun z => absurd z l) id
      rw [if_neg l, if_neg l, X_asOff _ _ (hd_b hs hl2), bd_some, fin]
  · rw [if_neg r, if_neg r]
def stX_7_0 (u : S2) : S2 := wr (wr (wr u 19 2 1) 19 3 (shw (u 13 0) (u 13 4) (u 13 6) (u 13 7) (u 7 4) (u 4))) 7 6 (rudr (u 20) (u 20 0) (wrp (u 19 1 - (shw (u 13 0) (u 13 4) (u 13 6) (u 13 7) (u 7 4) (u 4)))) (if u 19 2 = 0 then 0 else wrp ((shw (u 13 0) (u 13 4) (u 13 6) (u 13 7) (u 7 4) (u 4)) - u 19 3)))
theorem X_steer_7_0 (u : S2) (e : u 20 5 = 0) (hh : rg (u 7 4) 0 35999) (hp : rg (u 13 7) (-89) 89) (hN : RN (u 20)) (hc : rg (u 19 1) 0 35999) (hl : u 19 2 = 0 ∨ rg (u 19 3) 0 35999) : f_X0_steerShip_19_7 u = some (if u 7 8 - u 7 8 / u 20 4 * u 20 4 = 0 then stX_7_0 u else u) := by
  have h4 := hN.2.2.2.2.1
  have hz : nz (u 20 4) = true := nz_of h4.1
  have hlt : ¬ u 20 4 < 1 := fun z => by have := ti_lt.mp z; have h5 : (u 20 4).toInt < 1 := this; have := h4.1; omega
  have hpa : f_X7_pointerAt_7 0 u = some (some 13, u) := rfl
  have h9 : 0 ≤ (u 20 3).toInt := hN.2.2.2.1.1
  obtain ⟨sv, es⟩ : ∃ sv, sv = (shw (u 13 0) (u 13 4) (u 13 6) (u 13 7) (u 7 4) (u 4)) := ⟨_, rfl⟩
  have hs : rg sv 0 35999 := by rw [es]; exact shw_rg _ _ _ _ _ _
  have fin : ∀ g : Int32, f_X0_steerShip_19_7_84 sv (wrp (u 19 1 - sv)) g u = some (wr (wr (wr u 19 2 1) 19 3 sv) 7 6 (rudr (u 20) (u 20 0) (wrp (u 19 1 - sv)) g)) := by
    intro g
    unfold f_X0_steerShip_19_7_84 f_X0_steerShip_19_7_127 rudr
    have e0 : (wr (wr u 19 2 1) 19 3 sv) 20 = u 20 := rfl
    rw [nm_is, nm_is, nm_is, nm_is, jabs_siz, e0]
    by_cases c : 10 * u 20 0 < siz (wrp (u 19 1 - sv))
    · rw [if_pos c, if_pos c]
      unfold f_X0_answerTo_19
      rw [nm_is, nm_is, nm_is, e0, X_bounded _ _ _ h9, bd_some, bd_some, nm_is]
    · rw [if_neg c, if_neg c, nm_is]
  unfold f_X0_steerShip_19_7 stX_7_0
  rw [nm_is, nm_is, e, hpa, bq_some]
  show (if u 20 4 < 1 then some u else ck (nz (u 20 4)) _) = _
  rw [if_neg hlt, ck_y hz, nm_is, ← es]
  by_cases r : u 7 8 - u 7 8 / u 20 4 * u 20 4 = 0
  · rw [if_pos r, if_pos r, X_shown _ _ _ hh hp, bd_some, ← es, X_asOff _ _ (hd_b hc hs), bd_some]
    by_cases l : u 19 2 = 0
    · rw [if_pos l, if_pos l, fin]
    · have hl2 : rg (u 19 3) 0 35999 := hl.elim (fun z => absurd z l) id
      rw [if_neg l, if_neg l, X_asOff _ _ (hd_b hs hl2), bd_some, fin]
  · rw [if_neg r, if_neg r]
def stX_7_1 (u : S2) : S2 := wr (wr (wr u 19 2 1) 19 3 (shw (u 14 0) (u 14 4) (u 14 6) (u 14 7) (u 7 4) (u 4))) 7 6 (rudr (u 20) (u 20 0) (wrp (u 19 1 - (shw (u 14 0) (u 14 4) (u 14 6) (u 14 7) (u 7 4) (u 4)))) (if u 19 2 = 0 then 0 else wrp ((shw (u 14 0) (u 14 4) (u 14 6) (u 14 7) (u 7 4) (u 4)) - u 19 3)))
theorem X_steer_7_1 (u : S2) (e : u 20 5 = 1) (hh : rg (u 7 4) 0 35999) (hp : rg (u 14 7) (-89) 89) (hN : RN (u 20)) (hc : rg (u 19 1) 0 35999) (hl : u 19 2 = 0 ∨ rg (u 19 3) 0 35999) : f_X0_steerShip_19_7 u = some (if u 7 8 - u 7 8 / u 20 4 * u 20 4 = 0 then stX_7_1 u else u) := by
  have h4 := hN.2.2.2.2.1
  have hz : nz (u 20 4) = true := nz_of h4.1
  have hlt : ¬ u 20 4 < 1 := fun z => by have := ti_lt.mp z; have h5 : (u 20 4).toInt < 1 := this; have := h4.1; omega
  have hpa : f_X7_pointerAt_7 1 u = some (some 14, u) := rfl
  have h9 : 0 ≤ (u 20 3).toInt := hN.2.2.2.1.1
  obtain ⟨sv, es⟩ : ∃ sv, sv = (shw (u 14 0) (u 14 4) (u 14 6) (u 14 7) (u 7 4) (u 4)) := ⟨_, rfl⟩
  have hs : rg sv 0 35999 := by rw [es]; exact shw_rg _ _ _ _ _ _
  have fin : ∀ g : Int32, f_X0_steerShip_19_7_84 sv (wrp (u 19 1 - sv)) g u = some (wr (wr (wr u 19 2 1) 19 3 sv) 7 6 (rudr (u 20) (u 20 0) (wrp (u 19 1 - sv)) g)) := by
    intro g
    unfold f_X0_steerShip_19_7_84 f_X0_steerShip_19_7_127 rudr
    have e0 : (wr (wr u 19 2 1) 19 3 sv) 20 = u 20 := rfl
    rw [nm_is, nm_is, nm_is, nm_is, jabs_siz, e0]
    by_cases c : 10 * u 20 0 < siz (wrp (u 19 1 - sv))
    · rw [if_pos c, if_pos c]
      unfold f_X0_answerTo_19
      rw [nm_is, nm_is, nm_is, e0, X_bounded _ _ _ h9, bd_some, bd_some, nm_is]
    · rw [if_neg c, if_neg c, nm_is]
  unfold f_X0_steerShip_19_7 stX_7_1
  rw [nm_is, nm_is, e, hpa, bq_some]
  show (if u 20 4 < 1 then some u else ck (nz (u 20 4)) _) = _
  rw [if_neg hlt, ck_y hz, nm_is, ← es]
  by_cases r : u 7 8 - u 7 8 / u 20 4 * u 20 4 = 0
  · rw [if_pos r, if_pos r, X_shown _ _ _ hh hp, bd_some, ← es, X_asOff _ _ (hd_b hc hs), bd_some]
    by_cases l : u 19 2 = 0
    · rw [if_pos l, if_pos l, fin]
    · have hl2 : rg (u 19 3) 0 35999 := hl.elim (fun z => absurd z l) id
      rw [if_neg l, if_neg l, X_asOff _ _ (hd_b hs hl2), bd_some, fin]
  · rw [if_neg r, if_neg r]
def stX_7_2 (u : S2) : S2 := wr (wr (wr u 19 2 1) 19 3 (shw (u 15 0) (u 15 4) (u 15 6) (u 15 7) (u 7 4) (u 4))) 7 6 (rudr (u 20) (u 20 0) (wrp (u 19 1 - (shw (u 15 0) (u 15 4) (u 15 6) (u 15 7) (u 7 4) (u 4)))) (if u 19 2 = 0 then 0 else wrp ((shw (u 15 0) (u 15 4) (u 15 6) (u 15 7) (u 7 4) (u 4)) - u 19 3)))
theorem X_steer_7_2 (u : S2) (e : u 20 5 = 2) (hh : rg (u 7 4) 0 35999) (hp : rg (u 15 7) (-89) 89) (hN : RN (u 20)) (hc : rg (u 19 1) 0 35999) (hl : u 19 2 = 0 ∨ rg (u 19 3) 0 35999) : f_X0_steerShip_19_7 u = some (if u 7 8 - u 7 8 / u 20 4 * u 20 4 = 0 then stX_7_2 u else u) := by
  have h4 := hN.2.2.2.2.1
  have hz : nz (u 20 4) = true := nz_of h4.1
  have hlt : ¬ u 20 4 < 1 := fun z => by have := ti_lt.mp z; have h5 : (u 20 4).toInt < 1 := this; have := h4.1; omega
  have hpa : f_X7_pointerAt_7 2 u = some (some 15, u) := rfl
  have h9 : 0 ≤ (u 20 3).toInt := hN.2.2.2.1.1
  obtain ⟨sv, es⟩ : ∃ sv, sv = (shw (u 15 0) (u 15 4) (u 15 6) (u 15 7) (u 7 4) (u 4)) := ⟨_, rfl⟩
  have hs : rg sv 0 35999 := by rw [es]; exact shw_rg _ _ _ _ _ _
  have fin : ∀ g : Int32, f_X0_steerShip_19_7_84 sv (wrp (u 19 1 - sv)) g u = some (wr (wr (wr u 19 2 1) 19 3 sv) 7 6 (rudr (u 20) (u 20 0) (wrp (u 19 1 - sv)) g)) := by
    intro g
    unfold f_X0_steerShip_19_7_84 f_X0_steerShip_19_7_127 rudr
    have e0 : (wr (wr u 19 2 1) 19 3 sv) 20 = u 20 := rfl
    rw [nm_is, nm_is, nm_is, nm_is, jabs_siz, e0]
    by_cases c : 10 * u 20 0 < siz (wrp (u 19 1 - sv))
    · rw [if_pos c, if_pos c]
      unfold f_X0_answerTo_19
      rw [nm_is, nm_is, nm_is, e0, X_bounded _ _ _ h9, bd_some, bd_some, nm_is]
    · rw [if_neg c, if_neg c, nm_is]
  unfold f_X0_steerShip_19_7 stX_7_2
  rw [nm_is, nm_is, e, hpa, bq_some]
  show (if u 20 4 < 1 then some u else ck (nz (u 20 4)) _) = _
  rw [if_neg hlt, ck_y hz, nm_is, ← es]
  by_cases r : u 7 8 - u 7 8 / u 20 4 * u 20 4 = 0
  · rw [if_pos r, if_pos r, X_shown _ _ _ hh hp, bd_some, ← es, X_asOff _ _ (hd_b hc hs), bd_some]
    by_cases l : u 19 2 = 0
    · rw [if_pos l, if_pos l, fin]
    · have hl2 : rg (u 19 3) 0 35999 := hl.elim (fun z => absurd z l) id
      rw [if_neg l, if_neg l, X_asOff _ _ (hd_b hs hl2), bd_some, fin]
  · rw [if_neg r, if_neg r]
def stM_0_0 (u : S2) (dead : Int32) : S2 := wr (wr u 42 0 (shw (u 44 0) (u 48 0) (u 50 0) (u 51 0) (u 40 0) (u 52))) 39 3 (rudr (u 54) dead (wrp (u 38 20 - (shw (u 44 0) (u 48 0) (u 50 0) (u 51 0) (u 40 0) (u 52)))) (if u 42 0 = -1 then 0 else wrp ((shw (u 44 0) (u 48 0) (u 50 0) (u 51 0) (u 40 0) (u 52)) - u 42 0)))
theorem M_steer_0_0 (u : S2) (dead : Int32) (e : u 54 5 = 0) (hh : rg (u 40 0) 0 35999) (hp : rg (u 51 0) (-89) 89) (h4 : 1 ≤ (u 54 4).toInt) : f_X12_steer 0 dead u = some (if u 41 0 - u 41 0 / u 54 4 * u 54 4 = 0 then stM_0_0 u dead else u) := by
  have hz : nz (u 54 4) = true := nz_of h4
  have ib : inb 0 2 = true := by decide
  have nb : Int32.toNatClampNeg 0 = 0 := by decide
  have i3 : inb (4 * 0 + 3) 8 = true := by decide
  have n3 : Int32.toNatClampNeg (4 * 0 + 3) = 3 := by decide
  obtain ⟨sv, es⟩ : ∃ sv, sv = (shw (u 44 0) (u 48 0) (u 50 0) (u 51 0) (u 40 0) (u 52)) := ⟨_, rfl⟩
  have fin : ∀ g : Int32, f_X12_steer_65 0 dead sv (wrp (u 38 20 - sv)) g u = some (wr (wr u 42 0 sv) 39 3 (rudr (u 54) dead (wrp (u 38 20 - sv)) g)) := by
    intro g
    unfold f_X12_steer_65 f_X12_steer_135 rudr
    have e0 : (wr u 42 0 sv) 54 = u 54 := rfl
    rw [ck_y ib, nm_is, nb, M_size, bd_some, e0]
    by_cases c : 10 * dead < siz (wrp (u 38 20 - sv))
    · rw [if_pos c, if_pos c, nm_is, nm_is, nm_is, M_held, bd_some, ck_y i3, nm_is, n3]
    · rw [if_neg c, if_neg c, ck_y i3, nm_is, n3]
  have hsh := M_shown 0 0 0 0 0 u (by decide) (by decide) (by decide) (by decide) (by decide) (by decide) hh hp
  unfold f_X12_steer stM_0_0
  rw [ck_y ib, nm_is, nb, nm_is, ck_y hz, nm_is, ← es]
  by_cases r : u 41 0 - u 41 0 / u 54 4 * u 54 4 = 0
  · rw [if_pos r, if_pos r, nm_is, e, hsh, bd_some, ← es, M_wrapped, bd_some, ck_y ib, nm_is]
    by_cases l : u 42 0 = -1
    · rw [if_pos l, if_pos l, fin]
    · rw [if_neg l, if_neg l, ck_y ib, nm_is, M_wrapped, bd_some, fin]
  · rw [if_neg r, if_neg r]
def stM_0_1 (u : S2) (dead : Int32) : S2 := wr (wr u 42 0 (shw (u 44 1) (u 48 1) (u 50 1) (u 51 1) (u 40 0) (u 52))) 39 3 (rudr (u 54) dead (wrp (u 38 20 - (shw (u 44 1) (u 48 1) (u 50 1) (u 51 1) (u 40 0) (u 52)))) (if u 42 0 = -1 then 0 else wrp ((shw (u 44 1) (u 48 1) (u 50 1) (u 51 1) (u 40 0) (u 52)) - u 42 0)))
theorem M_steer_0_1 (u : S2) (dead : Int32) (e : u 54 5 = 1) (hh : rg (u 40 0) 0 35999) (hp : rg (u 51 1) (-89) 89) (h4 : 1 ≤ (u 54 4).toInt) : f_X12_steer 0 dead u = some (if u 41 0 - u 41 0 / u 54 4 * u 54 4 = 0 then stM_0_1 u dead else u) := by
  have hz : nz (u 54 4) = true := nz_of h4
  have ib : inb 0 2 = true := by decide
  have nb : Int32.toNatClampNeg 0 = 0 := by decide
  have i3 : inb (4 * 0 + 3) 8 = true := by decide
  have n3 : Int32.toNatClampNeg (4 * 0 + 3) = 3 := by decide
  obtain ⟨sv, es⟩ : ∃ sv, sv = (shw (u 44 1) (u 48 1) (u 50 1) (u 51 1) (u 40 0) (u 52)) := ⟨_, rfl⟩
  have fin : ∀ g : Int32, f_X12_steer_65 0 dead sv (wrp (u 38 20 - sv)) g u = some (wr (wr u 42 0 sv) 39 3 (rudr (u 54) dead (wrp (u 38 20 - sv)) g)) := by
    intro g
    unfold f_X12_steer_65 f_X12_steer_135 rudr
    have e0 : (wr u 42 0 sv) 54 = u 54 := rfl
    rw [ck_y ib, nm_is, nb, M_size, bd_some, e0]
    by_cases c : 10 * dead < siz (wrp (u 38 20 - sv))
    · rw [if_pos c, if_pos c, nm_is, nm_is, nm_is, M_held, bd_some, ck_y i3, nm_is, n3]
    · rw [if_neg c, if_neg c, ck_y i3, nm_is, n3]
  have hsh := M_shown 0 1 0 1 1 u (by decide) (by decide) (by decide) (by decide) (by decide) (by decide) hh hp
  unfold f_X12_steer stM_0_1
  rw [ck_y ib, nm_is, nb, nm_is, ck_y hz, nm_is, ← es]
  by_cases r : u 41 0 - u 41 0 / u 54 4 * u 54 4 = 0
  · rw [if_pos r, if_pos r, nm_is, e, hsh, bd_some, ← es, M_wrapped, bd_some, ck_y ib, nm_is]
    by_cases l : u 42 0 = -1
    · rw [if_pos l, if_pos l, fin]
    · rw [if_neg l, if_neg l, ck_y ib, nm_is, M_wrapped, bd_some, fin]
  · rw [if_neg r, if_neg r]
def stM_0_2 (u : S2) (dead : Int32) : S2 := wr (wr u 42 0 (shw (u 44 2) (u 48 2) (u 50 2) (u 51 2) (u 40 0) (u 52))) 39 3 (rudr (u 54) dead (wrp (u 38 20 - (shw (u 44 2) (u 48 2) (u 50 2) (u 51 2) (u 40 0) (u 52)))) (if u 42 0 = -1 then 0 else wrp ((shw (u 44 2) (u 48 2) (u 50 2) (u 51 2) (u 40 0) (u 52)) - u 42 0)))
theorem M_steer_0_2 (u : S2) (dead : Int32) (e : u 54 5 = 2) (hh : rg (u 40 0) 0 35999) (hp : rg (u 51 2) (-89) 89) (h4 : 1 ≤ (u 54 4).toInt) : f_X12_steer 0 dead u = some (if u 41 0 - u 41 0 / u 54 4 * u 54 4 = 0 then stM_0_2 u dead else u) := by
  have hz : nz (u 54 4) = true := nz_of h4
  have ib : inb 0 2 = true := by decide
  have nb : Int32.toNatClampNeg 0 = 0 := by decide
  have i3 : inb (4 * 0 + 3) 8 = true := by decide
  have n3 : Int32.toNatClampNeg (4 * 0 + 3) = 3 := by decide
  obtain ⟨sv, es⟩ : ∃ sv, sv = (shw (u 44 2) (u 48 2) (u 50 2) (u 51 2) (u 40 0) (u 52)) := ⟨_, rfl⟩
  have fin : ∀ g : Int32, f_X12_steer_65 0 dead sv (wrp (u 38 20 - sv)) g u = some (wr (wr u 42 0 sv) 39 3 (rudr (u 54) dead (wrp (u 38 20 - sv)) g)) := by
    intro g
    unfold f_X12_steer_65 f_X12_steer_135 rudr
    have e0 : (wr u 42 0 sv) 54 = u 54 := rfl
    rw [ck_y ib, nm_is, nb, M_size, bd_some, e0]
    by_cases c : 10 * dead < siz (wrp (u 38 20 - sv))
    · rw [if_pos c, if_pos c, nm_is, nm_is, nm_is, M_held, bd_some, ck_y i3, nm_is, n3]
    · rw [if_neg c, if_neg c, ck_y i3, nm_is, n3]
  have hsh := M_shown 0 2 0 2 2 u (by decide) (by decide) (by decide) (by decide) (by decide) (by decide) hh hp
  unfold f_X12_steer stM_0_2
  rw [ck_y ib, nm_is, nb, nm_is, ck_y hz, nm_is, ← es]
  by_cases r : u 41 0 - u 41 0 / u 54 4 * u 54 4 = 0
  · rw [if_pos r, if_pos r, nm_is, e, hsh, bd_some, ← es, M_wrapped, bd_some, ck_y ib, nm_is]
    by_cases l : u 42 0 = -1
    · rw [if_pos l, if_pos l, fin]
    · rw [if_neg l, if_neg l, ck_y ib, nm_is, M_wrapped, bd_some, fin]
  · rw [if_neg r, if_neg r]
def stM_1_0 (u : S2) (dead : Int32) : S2 := wr (wr u 42 1 (shw (u 44 0) (u 48 3) (u 50 0) (u 51 0) (u 40 1) (u 52))) 39 7 (rudr (u 54) dead (wrp (u 38 20 - (shw (u 44 0) (u 48 3) (u 50 0) (u 51 0) (u 40 1) (u 52)))) (if u 42 1 = -1 then 0 else wrp ((shw (u 44 0) (u 48 3) (u 50 0) (u 51 0) (u 40 1) (u 52)) - u 42 1)))
theorem M_steer_1_0 (u : S2) (dead : Int32) (e : u 54 5 = 0) (hh : rg (u 40 1) 0 35999) (hp : rg (u 51 0) (-89) 89) (h4 : 1 ≤ (u 54 4).toInt) : f_X12_steer 1 dead u = some (if u 41 1 - u 41 1 / u 54 4 * u 54 4 = 0 then stM_1_0 u dead else u) := by
  have hz : nz (u 54 4) = true := nz_of h4
  have ib : inb 1 2 = true := by decide
  have nb : Int32.toNatClampNeg 1 = 1 := by decide
  have i3 : inb (4 * 1 + 3) 8 = true := by decide
  have n3 : Int32.toNatClampNeg (4 * 1 + 3) = 7 := by decide
  obtain ⟨sv, es⟩ : ∃ sv, sv = (shw (u 44 0) (u 48 3) (u 50 0) (u 51 0) (u 40 1) (u 52)) := ⟨_, rfl⟩
  have fin : ∀ g : Int32, f_X12_steer_65 1 dead sv (wrp (u 38 20 - sv)) g u = some (wr (wr u 42 1 sv) 39 7 (rudr (u 54) dead (wrp (u 38 20 - sv)) g)) := by
    intro g
    unfold f_X12_steer_65 f_X12_steer_135 rudr
    have e0 : (wr u 42 1 sv) 54 = u 54 := rfl
    rw [ck_y ib, nm_is, nb, M_size, bd_some, e0]
    by_cases c : 10 * dead < siz (wrp (u 38 20 - sv))
    · rw [if_pos c, if_pos c, nm_is, nm_is, nm_is, M_held, bd_some, ck_y i3, nm_is, n3]
    · rw [if_neg c, if_neg c, ck_y i3, nm_is, n3]
  have hsh := M_shown 1 0 1 0 3 u (by decide) (by decide) (by decide) (by decide) (by decide) (by decide) hh hp
  unfold f_X12_steer stM_1_0
  rw [ck_y ib, nm_is, nb, nm_is, ck_y hz, nm_is, ← es]
  by_cases r : u 41 1 - u 41 1 / u 54 4 * u 54 4 = 0
  · rw [if_pos r, if_pos r, nm_is, e, hsh, bd_some, ← es, M_wrapped, bd_some, ck_y ib, nm_is]
    by_cases l : u 42 1 = -1
    · rw [if_pos l, if_pos l, fin]
    · rw [if_neg l, if_neg l, ck_y ib, nm_is, M_wrapped, bd_some, fin]
  · rw [if_neg r, if_neg r]
def stM_1_1 (u : S2) (dead : Int32) : S2 := wr (wr u 42 1 (shw (u 44 1) (u 48 4) (u 50 1) (u 51 1) (u 40 1) (u 52))) 39 7 (rudr (u 54) dead (wrp (u 38 20 - (shw (u 44 1) (u 48 4) (u 50 1) (u 51 1) (u 40 1) (u 52)))) (if u 42 1 = -1 then 0 else wrp ((shw (u 44 1) (u 48 4) (u 50 1) (u 51 1) (u 40 1) (u 52)) - u 42 1)))
theorem M_steer_1_1 (u : S2) (dead : Int32) (e : u 54 5 = 1) (hh : rg (u 40 1) 0 35999) (hp : rg (u 51 1) (-89) 89) (h4 : 1 ≤ (u 54 4).toInt) : f_X12_steer 1 dead u = some (if u 41 1 - u 41 1 / u 54 4 * u 54 4 = 0 then stM_1_1 u dead else u) := by
  have hz : nz (u 54 4) = true := nz_of h4
  have ib : inb 1 2 = true := by decide
  have nb : Int32.toNatClampNeg 1 = 1 := by decide
  have i3 : inb (4 * 1 + 3) 8 = true := by decide
  have n3 : Int32.toNatClampNeg (4 * 1 + 3) = 7 := by decide
  obtain ⟨sv, es⟩ : ∃ sv, sv = (shw (u 44 1) (u 48 4) (u 50 1) (u 51 1) (u 40 1) (u 52)) := ⟨_, rfl⟩
  have fin : ∀ g : Int32, f_X12_steer_65 1 dead sv (wrp (u 38 20 - sv)) g u = some (wr (wr u 42 1 sv) 39 7 (rudr (u 54) dead (wrp (u 38 20 - sv)) g)) := by
    intro g
    unfold f_X12_steer_65 f_X12_steer_135 rudr
    have e0 : (wr u 42 1 sv) 54 = u 54 := rfl
    rw [ck_y ib, nm_is, nb, M_size, bd_some, e0]
    by_cases c : 10 * dead < siz (wrp (u 38 20 - sv))
    · rw [if_pos c, if_pos c, nm_is, nm_is, nm_is, M_held, bd_some, ck_y i3, nm_is, n3]
    · rw [if_neg c, if_neg c, ck_y i3, nm_is, n3]
  have hsh := M_shown 1 1 1 1 4 u (by decide) (by decide) (by decide) (by decide) (by decide) (by decide) hh hp
  unfold f_X12_steer stM_1_1
  rw [ck_y ib, nm_is, nb, nm_is, ck_y hz, nm_is, ← es]
  by_cases r : u 41 1 - u 41 1 / u 54 4 * u 54 4 = 0
  · rw [if_pos r, if_pos r, nm_is, e, hsh, bd_some, ← es, M_wrapped, bd_some, ck_y ib, nm_is]
    by_cases l : u 42 1 = -1
    · rw [if_pos l, if_pos l, fin]
    · rw [if_neg l, if_neg l, ck_y ib, nm_is, M_wrapped, bd_some, fin]
  · rw [if_neg r, if_neg r]
def stM_1_2 (u : S2) (dead : Int32) : S2 := wr (wr u 42 1 (shw (u 44 2) (u 48 5) (u 50 2) (u 51 2) (u 40 1) (u 52))) 39 7 (rudr (u 54) dead (wrp (u 38 20 - (shw (u 44 2) (u 48 5) (u 50 2) (u 51 2) (u 40 1) (u 52)))) (if u 42 1 = -1 then 0 else wrp ((shw (u 44 2) (u 48 5) (u 50 2) (u 51 2) (u 40 1) (u 52)) - u 42 1)))
theorem M_steer_1_2 (u : S2) (dead : Int32) (e : u 54 5 = 2) (hh : rg (u 40 1) 0 35999) (hp : rg (u 51 2) (-89) 89) (h4 : 1 ≤ (u 54 4).toInt) : f_X12_steer 1 dead u = some (if u 41 1 - u 41 1 / u 54 4 * u 54 4 = 0 then stM_1_2 u dead else u) := by
  have hz : nz (u 54 4) = true := nz_of h4
  have ib : inb 1 2 = true := by decide
  have nb : Int32.toNatClampNeg 1 = 1 := by decide
  have i3 : inb (4 * 1 + 3) 8 = true := by decide
  have n3 : Int32.toNatClampNeg (4 * 1 + 3) = 7 := by decide
  obtain ⟨sv, es⟩ : ∃ sv, sv = (shw (u 44 2) (u 48 5) (u 50 2) (u 51 2) (u 40 1) (u 52)) := ⟨_, rfl⟩
  have fin : ∀ g : Int32, f_X12_steer_65 1 dead sv (wrp (u 38 20 - sv)) g u = some (wr (wr u 42 1 sv) 39 7 (rudr (u 54) dead (wrp (u 38 20 - sv)) g)) := by
    intro g
    unfold f_X12_steer_65 f_X12_steer_135 rudr
    have e0 : (wr u 42 1 sv) 54 = u 54 := rfl
    rw [ck_y ib, nm_is, nb, M_size, bd_some, e0]
    by_cases c : 10 * dead < siz (wrp (u 38 20 - sv))
    · rw [if_pos c, if_pos c, nm_is, nm_is, nm_is, M_held, bd_some, ck_y i3, nm_is, n3]
    · rw [if_neg c, if_neg c, ck_y i3, nm_is, n3]
  have hsh := M_shown 1 2 1 2 5 u (by decide) (by decide) (by decide) (by decide) (by decide) (by decide) hh hp
  unfold f_X12_steer stM_1_2
  rw [ck_y ib, nm_is, nb, nm_is, ck_y hz, nm_is, ← es]
  by_cases r : u 41 1 - u 41 1 / u 54 4 * u 54 4 = 0
  · rw [if_pos r, if_pos r, nm_is, e, hsh, bd_some, ← es, M_wrapped, bd_some, ck_y ib, nm_is]
    by_cases l : u 42 1 = -1
    · rw [if_pos l, if_pos l, fin]
    · rw [if_neg l, if_neg l, ck_y ib, nm_is, M_wrapped, bd_some, fin]
  · rw [if_neg r, if_neg r]
