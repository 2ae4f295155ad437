theorem L_in_0_2 (v : Int32) (u : S2) : f_X12_in (Int32.toInt64 v) (0 : Int64) (2 : Int64) u = some (inR v (0) (2), u) := L_in v (0) (2) u
theorem L_in_0_3 (v : Int32) (u : S2) : f_X12_in (Int32.toInt64 v) (0 : Int64) (3 : Int64) u = some (inR v (0) (3), u) := L_in v (0) (3) u
theorem L_in_m999_999 (v : Int32) (u : S2) : f_X12_in (Int32.toInt64 v) (-999 : Int64) (999 : Int64) u = some (inR v (-999) (999), u) := L_in v (-999) (999) u
theorem L_in_0_5 (v : Int32) (u : S2) : f_X12_in (Int32.toInt64 v) (0 : Int64) (5 : Int64) u = some (inR v (0) (5), u) := L_in v (0) (5) u
theorem L_in_0_99 (v : Int32) (u : S2) : f_X12_in (Int32.toInt64 v) (0 : Int64) (99 : Int64) u = some (inR v (0) (99), u) := L_in v (0) (99) u
theorem L_in_0_7 (v : Int32) (u : S2) : f_X12_in (Int32.toInt64 v) (0 : Int64) (7 : Int64) u = some (inR v (0) (7), u) := L_in v (0) (7) u
theorem L_in_m2000_2000 (v : Int32) (u : S2) : f_X12_in (Int32.toInt64 v) (-2000 : Int64) (2000 : Int64) u = some (inR v (-2000) (2000), u) := L_in v (-2000) (2000) u
theorem L_in_0_1 (v : Int32) (u : S2) : f_X12_in (Int32.toInt64 v) (0 : Int64) (1 : Int64) u = some (inR v (0) (1), u) := L_in v (0) (1) u
theorem L_in_0_35999 (v : Int32) (u : S2) : f_X12_in (Int32.toInt64 v) (0 : Int64) (35999 : Int64) u = some (inR v (0) (35999), u) := L_in v (0) (35999) u
theorem L_in_m18000_17999 (v : Int32) (u : S2) : f_X12_in (Int32.toInt64 v) (-18000 : Int64) (17999 : Int64) u = some (inR v (-18000) (17999), u) := L_in v (-18000) (17999) u
theorem L_in_0_40 (v : Int32) (u : S2) : f_X12_in (Int32.toInt64 v) (0 : Int64) (40 : Int64) u = some (inR v (0) (40), u) := L_in v (0) (40) u
theorem L_in_m89_89 (v : Int32) (u : S2) : f_X12_in (Int32.toInt64 v) (-89 : Int64) (89 : Int64) u = some (inR v (-89) (89), u) := L_in v (-89) (89) u
theorem L_in_1_500 (v : Int32) (u : S2) : f_X12_in (Int32.toInt64 v) (1 : Int64) (500 : Int64) u = some (inR v (1) (500), u) := L_in v (1) (500) u
theorem L_in_1_8 (v : Int32) (u : S2) : f_X12_in (Int32.toInt64 v) (1 : Int64) (8 : Int64) u = some (inR v (1) (8), u) := L_in v (1) (8) u
theorem L_in_0_999 (v : Int32) (u : S2) : f_X12_in (Int32.toInt64 v) (0 : Int64) (999 : Int64) u = some (inR v (0) (999), u) := L_in v (0) (999) u
theorem L_in_m9000_9000 (v : Int32) (u : S2) : f_X12_in (Int32.toInt64 v) (-9000 : Int64) (9000 : Int64) u = some (inR v (-9000) (9000), u) := L_in v (-9000) (9000) u
theorem L_in_1_300 (v : Int32) (u : S2) : f_X12_in (Int32.toInt64 v) (1 : Int64) (300 : Int64) u = some (inR v (1) (300), u) := L_in v (1) (300) u
theorem L_in_0_18000 (v : Int32) (u : S2) : f_X12_in (Int32.toInt64 v) (0 : Int64) (18000 : Int64) u = some (inR v (0) (18000), u) := L_in v (0) (18000) u
theorem L_in_0_9000 (v : Int32) (u : S2) : f_X12_in (Int32.toInt64 v) (0 : Int64) (9000 : Int64) u = some (inR v (0) (9000), u) := L_in v (0) (9000) u
theorem L_in_0_60 (v : Int32) (u : S2) : f_X12_in (Int32.toInt64 v) (0 : Int64) (60 : Int64) u = some (inR v (0) (60), u) := L_in v (0) (60) u
theorem M_isPointer (v : Int32) (u : S2) : f_X12_isPointer v u = some (inR v (0) (2), u) := by
  unfold f_X12_isPointer
  rw [L_in_0_2, bd_some, inR_B, ck_t]
theorem M_isHeading (v : Int32) (u : S2) : f_X12_isHeading v u = some (inR v (0) (35999), u) := by
  unfold f_X12_isHeading
  rw [L_in_0_35999, bd_some, inR_B, ck_t]
theorem M_isOff (v : Int32) (u : S2) : f_X12_isOff v u = some (inR v (-18000) (17999), u) := by
  unfold f_X12_isOff
  rw [L_in_m18000_17999, bd_some, inR_B, ck_t]
theorem M_isSpeed (v : Int32) (u : S2) : f_X12_isSpeed v u = some (inR v (0) (40), u) := by
  unfold f_X12_isSpeed
  rw [L_in_0_40, bd_some, inR_B, ck_t]
theorem M_isPlace (v : Int32) (u : S2) : f_X12_isPlace v u = some (inR v (-89) (89), u) := by
  unfold f_X12_isPlace
  rw [L_in_m89_89, bd_some, inR_B, ck_t]
theorem X_isHeading (v : Int32) (u : S2) : f_X11_isHeading v u = some (inR v (0) (35999), u) := by
  unfold f_X11_isHeading
  rw [L_isWithin, bd_some, inR_B, ck_t]
theorem X_isOff (v : Int32) (u : S2) : f_X11_isOff v u = some (inR v (-18000) (17999), u) := by
  unfold f_X11_isOff
  rw [L_isWithin, bd_some, inR_B, ck_t]
theorem X_isSpeed (v : Int32) (u : S2) : f_X11_isSpeed v u = some (inR v (0) (40), u) := by
  unfold f_X11_isSpeed
  rw [L_isWithin, bd_some, inR_B, ck_t]
theorem X_isPlace (v : Int32) (u : S2) : f_X11_isPlace v u = some (inR v (-89) (89), u) := by
  unfold f_X11_isPlace
  rw [L_isWithin, bd_some, inR_B, ck_t]
theorem X_isTurn (v : Int32) (u : S2) : f_X11_isTurn v u = some (inR v (-999) (999), u) := by
  unfold f_X11_isTurn
  rw [L_isWithin, bd_some, inR_B, ck_t]
theorem X_isEighth (v : Int32) (u : S2) : f_X11_isEighth v u = some (inR v (0) (7), u) := by
  unfold f_X11_isEighth
  rw [L_isWithin, bd_some, inR_B, ck_t]
theorem X_isTrial (v : Int32) (u : S2) : f_X11_isTrial v u = some (inR v (1) (300), u) := by
  unfold f_X11_isTrial
  rw [L_isWithin, bd_some, inR_B, ck_t]
theorem X_pa (v : Int32) (u : S2) (h : inR v 0 2 = 0) : f_X7_pointerAt_5 v u = some (none, u) := by
  unfold f_X7_pointerAt_5
  rw [L_isWithin, bd_some, if_pos h]
theorem X_pa0 (u : S2) : f_X7_pointerAt_5 0 u = some (some 10, u) := rfl
theorem X_pa1 (u : S2) : f_X7_pointerAt_5 1 u = some (some 11, u) := rfl
theorem X_pa2 (u : S2) : f_X7_pointerAt_5 2 u = some (some 12, u) := rfl
