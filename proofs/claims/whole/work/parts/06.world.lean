abbrev S2 : Type := Nat → Nat → Int32
def wr (σ : S2) (k i : Nat) (v : Int32) : S2 := va_up σ k (upd (σ k) i v)
def o_P (σ : S2) (k : Nat) : List Value := [.int (σ k 0), .int (σ k 1), .int (σ k 2), .int (σ k 3), .int (σ k 4), .int (σ k 5), .int (σ k 6), .int (σ k 7)]
def o_0 (ad : Nat → Nat) (σ : S2) : List Value := [.ref (ad 1), .ref (ad 3), .ref (ad 5), .ref (ad 9), .ref (ad 21), .ref (ad 24), .ref (ad 25), .ref (ad 26), .ref (ad 28), .ref (ad 32)]
def o_1 (ad : Nat → Nat) (σ : S2) : List Value := [.ref (ad 2), .int (σ 1 1)]
def o_3 (ad : Nat → Nat) (σ : S2) : List Value := [.ref (ad 4)]
def o_5 (ad : Nat → Nat) (σ : S2) : List Value := [.ref (ad 1), .ref (ad 3), .ref (ad 6), .int (σ 5 3), .int (σ 5 4), .int (σ 5 5), .int (σ 5 6), .int (σ 5 7), .int (σ 5 8)]
def o_7 (ad : Nat → Nat) (σ : S2) : List Value := [.ref (ad 1), .ref (ad 3), .ref (ad 8), .int (σ 7 3), .int (σ 7 4), .int (σ 7 5), .int (σ 7 6), .int (σ 7 7), .int (σ 7 8)]
def o_9 (ad : Nat → Nat) (σ : S2) : List Value := [.ref (ad 18), .int (σ 9 1), .int (σ 9 2), .int (σ 9 3)]
def o_19 (ad : Nat → Nat) (σ : S2) : List Value := [.ref (ad 20), .int (σ 19 1), .int (σ 19 2), .int (σ 19 3)]
def o_21 (ad : Nat → Nat) (σ : S2) : List Value := [.ref (ad 22), .int (σ 21 1), .ref (ad 23), .int (σ 21 3)]
def o_24 (ad : Nat → Nat) (σ : S2) : List Value := [.ref (ad 16), .int (σ 24 1), .int (σ 24 2), .int (σ 24 3)]
def o_25 (ad : Nat → Nat) (σ : S2) : List Value := [.ref (ad 7), .ref (ad 19), .int (σ 25 2), .int (σ 25 3)]
def o_26 (ad : Nat → Nat) (σ : S2) : List Value := [.ref (ad 27), .int (σ 26 1)]
def o_28 (ad : Nat → Nat) (σ : S2) : List Value := [.ref (ad 29), .ref (ad 30), .ref (ad 31), .int (σ 28 3)]
def o_32 (ad : Nat → Nat) (σ : S2) : List Value := [.ref (ad 33), .ref (ad 34), .int (σ 32 2), .ref (ad 17), .ref (ad 35), .ref (ad 36), .ref (ad 37), .int (σ 32 7), .int (σ 32 8)]
def o_38 (ad : Nat → Nat) (σ : S2) : List Value := [.ref (ad 39), .ref (ad 40), .ref (ad 41), .ref (ad 42), .ref (ad 43), .int (σ 38 5), .ref (ad 44), .ref (ad 45), .ref (ad 46), .ref (ad 47), .ref (ad 48), .ref (ad 49), .ref (ad 50), .ref (ad 51), .ref (ad 52), .ref (ad 53), .int (σ 38 16), .ref (ad 54), .ref (ad 55), .int (σ 38 19), .int (σ 38 20), .ref (ad 56), .int (σ 38 22), .ref (ad 57), .ref (ad 58), .int (σ 38 25), .ref (ad 59), .ref (ad 60), .int (σ 38 28), .int (σ 38 29), .int (σ 38 30), .int (σ 38 31), .ref (ad 61), .int (σ 38 33), .int (σ 38 34), .ref (ad 62), .ref (ad 63)]
def wd (ad : Nat → Nat) (cI cP : ClassId) (σ : S2) : va_W := [
  (ad 0, .inr (11, o_0 ad σ)),
  (ad 1, .inr (6, o_1 ad σ)),
  (ad 2, .inl (cI, 24, .inl (σ 2))),
  (ad 3, .inr (3, o_3 ad σ)),
  (ad 4, .inl (cI, 8, .inl (σ 4))),
  (ad 5, .inr (7, o_5 ad σ)),
  (ad 6, .inl (cP, 3, .inr (.inr (.inr (.inr (fun j => some (ad (10 + j)))))))),
  (ad 7, .inr (7, o_7 ad σ)),
  (ad 8, .inl (cP, 3, .inr (.inr (.inr (.inr (fun j => some (ad (13 + j)))))))),
  (ad 9, .inr (0, o_9 ad σ)),
  (ad 10, .inr (4, o_P σ 10)),
  (ad 11, .inr (4, o_P σ 11)),
  (ad 12, .inr (4, o_P σ 12)),
  (ad 13, .inr (4, o_P σ 13)),
  (ad 14, .inr (4, o_P σ 14)),
  (ad 15, .inr (4, o_P σ 15)),
  (ad 16, .inr (4, o_P σ 16)),
  (ad 17, .inr (4, o_P σ 17)),
  (ad 18, .inl (cI, 6, .inl (σ 18))),
  (ad 19, .inr (0, o_19 ad σ)),
  (ad 20, .inl (cI, 6, .inl (σ 20))),
  (ad 21, .inr (5, o_21 ad σ)),
  (ad 22, .inl (cI, 160, .inl (σ 22))),
  (ad 23, .inl (cI, 6, .inl (σ 23))),
  (ad 24, .inr (8, o_24 ad σ)),
  (ad 25, .inr (1, o_25 ad σ)),
  (ad 26, .inr (2, o_26 ad σ)),
  (ad 27, .inl (cI, 48, .inl (σ 27))),
  (ad 28, .inr (9, o_28 ad σ)),
  (ad 29, .inl (cI, 8, .inl (σ 29))),
  (ad 30, .inl (cI, 8, .inl (σ 30))),
  (ad 31, .inl (cI, 8, .inl (σ 31))),
  (ad 32, .inr (10, o_32 ad σ)),
  (ad 33, .inl (cI, 10, .inl (σ 33))),
  (ad 34, .inl (cI, 10, .inl (σ 34))),
  (ad 35, .inl (cI, 61, .inl (σ 35))),
  (ad 36, .inl (cI, 61, .inl (σ 36))),
  (ad 37, .inl (cI, 61, .inl (σ 37))),
  (ad 38, .inr (12, o_38 ad σ)),
  (ad 39, .inl (cI, 8, .inl (σ 39))),
  (ad 40, .inl (cI, 2, .inl (σ 40))),
  (ad 41, .inl (cI, 2, .inl (σ 41))),
  (ad 42, .inl (cI, 2, .inl (σ 42))),
  (ad 43, .inl (cI, 24, .inl (σ 43))),
  (ad 44, .inl (cI, 3, .inl (σ 44))),
  (ad 45, .inl (cI, 3, .inl (σ 45))),
  (ad 46, .inl (cI, 3, .inl (σ 46))),
  (ad 47, .inl (cI, 3, .inl (σ 47))),
  (ad 48, .inl (cI, 6, .inl (σ 48))),
  (ad 49, .inl (cI, 6, .inl (σ 49))),
  (ad 50, .inl (cI, 3, .inl (σ 50))),
  (ad 51, .inl (cI, 3, .inl (σ 51))),
  (ad 52, .inl (cI, 8, .inl (σ 52))),
  (ad 53, .inl (cI, 160, .inl (σ 53))),
  (ad 54, .inl (cI, 6, .inl (σ 54))),
  (ad 55, .inl (cI, 6, .inl (σ 55))),
  (ad 56, .inl (cI, 48, .inl (σ 56))),
  (ad 57, .inl (cI, 24, .inl (σ 57))),
  (ad 58, .inl (cI, 24, .inl (σ 58))),
  (ad 59, .inl (cI, 10, .inl (σ 59))),
  (ad 60, .inl (cI, 10, .inl (σ 60))),
  (ad 61, .inl (cI, 601, .inl (σ 61))),
  (ad 62, .inl (cI, 61, .inl (σ 62))),
  (ad 63, .inl (cI, 61, .inl (σ 63)))]
theorem wd_0 (ad : Nat → Nat) (σ : S2) (cI cP : ClassId) : (wd ad cI cP σ)[0]? = some (ad 0, .inr (11, o_0 ad σ)) := rfl
theorem wd_1 (ad : Nat → Nat) (σ : S2) (cI cP : ClassId) : (wd ad cI cP σ)[1]? = some (ad 1, .inr (6, o_1 ad σ)) := rfl
theorem wd_2 (ad : Nat → Nat) (σ : S2) (cI cP : ClassId) : (wd ad cI cP σ)[2]? = some (ad 2, .inl (cI, 24, .inl (σ 2))) := rfl
theorem wd_3 (ad : Nat → Nat) (σ : S2) (cI cP : ClassId) : (wd ad cI cP σ)[3]? = some (ad 3, .inr (3, o_3 ad σ)) := rfl
theorem wd_4 (ad : Nat → Nat) (σ : S2) (cI cP : ClassId) : (wd ad cI cP σ)[4]? = some (ad 4, .inl (cI, 8, .inl (σ 4))) := rfl
theorem wd_5 (ad : Nat → Nat) (σ : S2) (cI cP : ClassId) : (wd ad cI cP σ)[5]? = some (ad 5, .inr (7, o_5 ad σ)) := rfl
theorem wd_6 (ad : Nat → Nat) (σ : S2) (cI cP : ClassId) : (wd ad cI cP σ)[6]? = some (ad 6, .inl (cP, 3, .inr (.inr (.inr (.inr (fun j => some (ad (10 + j)))))))) := rfl
theorem wd_7 (ad : Nat → Nat) (σ : S2) (cI cP : ClassId) : (wd ad cI cP σ)[7]? = some (ad 7, .inr (7, o_7 ad σ)) := rfl
theorem wd_8 (ad : Nat → Nat) (σ : S2) (cI cP : ClassId) : (wd ad cI cP σ)[8]? = some (ad 8, .inl (cP, 3, .inr (.inr (.inr (.inr (fun j => some (ad (13 + j)))))))) := rfl
theorem wd_9 (ad : Nat → Nat) (σ : S2) (cI cP : ClassId) : (wd ad cI cP σ)[9]? = some (ad 9, .inr (0, o_9 ad σ)) := rfl
theorem wd_10 (ad : Nat → Nat) (σ : S2) (cI cP : ClassId) : (wd ad cI cP σ)[10]? = some (ad 10, .inr (4, o_P σ 10)) := rfl
theorem wd_11 (ad : Nat → Nat) (σ : S2) (cI cP : ClassId) : (wd ad cI cP σ)[11]? = some (ad 11, .inr (4, o_P σ 11)) := rfl
theorem wd_12 (ad : Nat → Nat) (σ : S2) (cI cP : ClassId) : (wd ad cI cP σ)[12]? = some (ad 12, .inr (4, o_P σ 12)) := rfl
theorem wd_13 (ad : Nat → Nat) (σ : S2) (cI cP : ClassId) : (wd ad cI cP σ)[13]? = some (ad 13, .inr (4, o_P σ 13)) := rfl
theorem wd_14 (ad : Nat → Nat) (σ : S2) (cI cP : ClassId) : (wd ad cI cP σ)[14]? = some (ad 14, .inr (4, o_P σ 14)) := rfl
theorem wd_15 (ad : Nat → Nat) (σ : S2) (cI cP : ClassId) : (wd ad cI cP σ)[15]? = some (ad 15, .inr (4, o_P σ 15)) := rfl
theorem wd_16 (ad : Nat → Nat) (σ : S2) (cI cP : ClassId) : (wd ad cI cP σ)[16]? = some (ad 16, .inr (4, o_P σ 16)) := rfl
theorem wd_17 (ad : Nat → Nat) (σ : S2) (cI cP : ClassId) : (wd ad cI cP σ)[17]? = some (ad 17, .inr (4, o_P σ 17)) := rfl
theorem wd_18 (ad : Nat → Nat) (σ : S2) (cI cP : ClassId) : (wd ad cI cP σ)[18]? = some (ad 18, .inl (cI, 6, .inl (σ 18))) := rfl
theorem wd_19 (ad : Nat → Nat) (σ : S2) (cI cP : ClassId) : (wd ad cI cP σ)[19]? = some (ad 19, .inr (0, o_19 ad σ)) := rfl
theorem wd_20 (ad : Nat → Nat) (σ : S2) (cI cP : ClassId) : (wd ad cI cP σ)[20]? = some (ad 20, .inl (cI, 6, .inl (σ 20))) := rfl
theorem wd_21 (ad : Nat → Nat) (σ : S2) (cI cP : ClassId) : (wd ad cI cP σ)[21]? = some (ad 21, .inr (5, o_21 ad σ)) := rfl
theorem wd_22 (ad : Nat → Nat) (σ : S2) (cI cP : ClassId) : (wd ad cI cP σ)[22]? = some (ad 22, .inl (cI, 160, .inl (σ 22))) := rfl
theorem wd_23 (ad : Nat → Nat) (σ : S2) (cI cP : ClassId) : (wd ad cI cP σ)[23]? = some (ad 23, .inl (cI, 6, .inl (σ 23))) := rfl
theorem wd_24 (ad : Nat → Nat) (σ : S2) (cI cP : ClassId) : (wd ad cI cP σ)[24]? = some (ad 24, .inr (8, o_24 ad σ)) := rfl
theorem wd_25 (ad : Nat → Nat) (σ : S2) (cI cP : ClassId) : (wd ad cI cP σ)[25]? = some (ad 25, .inr (1, o_25 ad σ)) := rfl
theorem wd_26 (ad : Nat → Nat) (σ : S2) (cI cP : ClassId) : (wd ad cI cP σ)[26]? = some (ad 26, .inr (2, o_26 ad σ)) := rfl
theorem wd_27 (ad : Nat → Nat) (σ : S2) (cI cP : ClassId) : (wd ad cI cP σ)[27]? = some (ad 27, .inl (cI, 48, .inl (σ 27))) := rfl
theorem wd_28 (ad : Nat → Nat) (σ : S2) (cI cP : ClassId) : (wd ad cI cP σ)[28]? = some (ad 28, .inr (9, o_28 ad σ)) := rfl
theorem wd_29 (ad : Nat → Nat) (σ : S2) (cI cP : ClassId) : (wd ad cI cP σ)[29]? = some (ad 29, .inl (cI, 8, .inl (σ 29))) := rfl
theorem wd_30 (ad : Nat → Nat) (σ : S2) (cI cP : ClassId) : (wd ad cI cP σ)[30]? = some (ad 30, .inl (cI, 8, .inl (σ 30))) := rfl
theorem wd_31 (ad : Nat → Nat) (σ : S2) (cI cP : ClassId) : (wd ad cI cP σ)[31]? = some (ad 31, .inl (cI, 8, .inl (σ 31))) := rfl
theorem wd_32 (ad : Nat → Nat) (σ : S2) (cI cP : ClassId) : (wd ad cI cP σ)[32]? = some (ad 32, .inr (10, o_32 ad σ)) := rfl
theorem wd_33 (ad : Nat → Nat) (σ : S2) (cI cP : ClassId) : (wd ad cI cP σ)[33]? = some (ad 33, .inl (cI, 10, .inl (σ 33))) := rfl
theorem wd_34 (ad : Nat → Nat) (σ : S2) (cI cP : ClassId) : (wd ad cI cP σ)[34]? = some (ad 34, .inl (cI, 10, .inl (σ 34))) := rfl
theorem wd_35 (ad : Nat → Nat) (σ : S2) (cI cP : ClassId) : (wd ad cI cP σ)[35]? = some (ad 35, .inl (cI, 61, .inl (σ 35))) := rfl
theorem wd_36 (ad : Nat → Nat) (σ : S2) (cI cP : ClassId) : (wd ad cI cP σ)[36]? = some (ad 36, .inl (cI, 61, .inl (σ 36))) := rfl
theorem wd_37 (ad : Nat → Nat) (σ : S2) (cI cP : ClassId) : (wd ad cI cP σ)[37]? = some (ad 37, .inl (cI, 61, .inl (σ 37))) := rfl
theorem wd_38 (ad : Nat → Nat) (σ : S2) (cI cP : ClassId) : (wd ad cI cP σ)[38]? = some (ad 38, .inr (12, o_38 ad σ)) := rfl
theorem wd_39 (ad : Nat → Nat) (σ : S2) (cI cP : ClassId) : (wd ad cI cP σ)[39]? = some (ad 39, .inl (cI, 8, .inl (σ 39))) := rfl
theorem wd_40 (ad : Nat → Nat) (σ : S2) (cI cP : ClassId) : (wd ad cI cP σ)[40]? = some (ad 40, .inl (cI, 2, .inl (σ 40))) := rfl
theorem wd_41 (ad : Nat → Nat) (σ : S2) (cI cP : ClassId) : (wd ad cI cP σ)[41]? = some (ad 41, .inl (cI, 2, .inl (σ 41))) := rfl
theorem wd_42 (ad : Nat → Nat) (σ : S2) (cI cP : ClassId) : (wd ad cI cP σ)[42]? = some (ad 42, .inl (cI, 2, .inl (σ 42))) := rfl
theorem wd_43 (ad : Nat → Nat) (σ : S2) (cI cP : ClassId) : (wd ad cI cP σ)[43]? = some (ad 43, .inl (cI, 24, .inl (σ 43))) := rfl
theorem wd_44 (ad : Nat → Nat) (σ : S2) (cI cP : ClassId) : (wd ad cI cP σ)[44]? = some (ad 44, .inl (cI, 3, .inl (σ 44))) := rfl
theorem wd_45 (ad : Nat → Nat) (σ : S2) (cI cP : ClassId) : (wd ad cI cP σ)[45]? = some (ad 45, .inl (cI, 3, .inl (σ 45))) := rfl
theorem wd_46 (ad : Nat → Nat) (σ : S2) (cI cP : ClassId) : (wd ad cI cP σ)[46]? = some (ad 46, .inl (cI, 3, .inl (σ 46))) := rfl
theorem wd_47 (ad : Nat → Nat) (σ : S2) (cI cP : ClassId) : (wd ad cI cP σ)[47]? = some (ad 47, .inl (cI, 3, .inl (σ 47))) := rfl
theorem wd_48 (ad : Nat → Nat) (σ : S2) (cI cP : ClassId) : (wd ad cI cP σ)[48]? = some (ad 48, .inl (cI, 6, .inl (σ 48))) := rfl
theorem wd_49 (ad : Nat → Nat) (σ : S2) (cI cP : ClassId) : (wd ad cI cP σ)[49]? = some (ad 49, .inl (cI, 6, .inl (σ 49))) := rfl
theorem wd_50 (ad : Nat → Nat) (σ : S2) (cI cP : ClassId) : (wd ad cI cP σ)[50]? = some (ad 50, .inl (cI, 3, .inl (σ 50))) := rfl
theorem wd_51 (ad : Nat → Nat) (σ : S2) (cI cP : ClassId) : (wd ad cI cP σ)[51]? = some (ad 51, .inl (cI, 3, .inl (σ 51))) := rfl
theorem wd_52 (ad : Nat → Nat) (σ : S2) (cI cP : ClassId) : (wd ad cI cP σ)[52]? = some (ad 52, .inl (cI, 8, .inl (σ 52))) := rfl
theorem wd_53 (ad : Nat → Nat) (σ : S2) (cI cP : ClassId) : (wd ad cI cP σ)[53]? = some (ad 53, .inl (cI, 160, .inl (σ 53))) := rfl
theorem wd_54 (ad : Nat → Nat) (σ : S2) (cI cP : ClassId) : (wd ad cI cP σ)[54]? = some (ad 54, .inl (cI, 6, .inl (σ 54))) := rfl
theorem wd_55 (ad : Nat → Nat) (σ : S2) (cI cP : ClassId) : (wd ad cI cP σ)[55]? = some (ad 55, .inl (cI, 6, .inl (σ 55))) := rfl
theorem wd_56 (ad : Nat → Nat) (σ : S2) (cI cP : ClassId) : (wd ad cI cP σ)[56]? = some (ad 56, .inl (cI, 48, .inl (σ 56))) := rfl
theorem wd_57 (ad : Nat → Nat) (σ : S2) (cI cP : ClassId) : (wd ad cI cP σ)[57]? = some (ad 57, .inl (cI, 24, .inl (σ 57))) := rfl
theorem wd_58 (ad : Nat → Nat) (σ : S2) (cI cP : ClassId) : (wd ad cI cP σ)[58]? = some (ad 58, .inl (cI, 24, .inl (σ 58))) := rfl
theorem wd_59 (ad : Nat → Nat) (σ : S2) (cI cP : ClassId) : (wd ad cI cP σ)[59]? = some (ad 59, .inl (cI, 10, .inl (σ 59))) := rfl
theorem wd_60 (ad : Nat → Nat) (σ : S2) (cI cP : ClassId) : (wd ad cI cP σ)[60]? = some (ad 60, .inl (cI, 10, .inl (σ 60))) := rfl
theorem wd_61 (ad : Nat → Nat) (σ : S2) (cI cP : ClassId) : (wd ad cI cP σ)[61]? = some (ad 61, .inl (cI, 601, .inl (σ 61))) := rfl
theorem wd_62 (ad : Nat → Nat) (σ : S2) (cI cP : ClassId) : (wd ad cI cP σ)[62]? = some (ad 62, .inl (cI, 61, .inl (σ 62))) := rfl
theorem wd_63 (ad : Nat → Nat) (σ : S2) (cI cP : ClassId) : (wd ad cI cP σ)[63]? = some (ad 63, .inl (cI, 61, .inl (σ 63))) := rfl
theorem sF_1_1 (ad : Nat → Nat) (σ : S2) (v : Int32) (cI cP : ClassId) : (wd ad cI cP σ).set 1 (ad 1, .inr (6, (o_1 ad σ).set 1 (.int v))) = wd ad cI cP (wr σ 1 1 v) := rfl
theorem sA_2 (ad : Nat → Nat) (σ : S2) (f : Nat → Int32) (cI cP : ClassId) : (wd ad cI cP σ).set 2 (ad 2, .inl (cI, 24, .inl f)) = wd ad cI cP (va_up σ 2 f) := rfl
theorem sA_4 (ad : Nat → Nat) (σ : S2) (f : Nat → Int32) (cI cP : ClassId) : (wd ad cI cP σ).set 4 (ad 4, .inl (cI, 8, .inl f)) = wd ad cI cP (va_up σ 4 f) := rfl
theorem sF_5_3 (ad : Nat → Nat) (σ : S2) (v : Int32) (cI cP : ClassId) : (wd ad cI cP σ).set 5 (ad 5, .inr (7, (o_5 ad σ).set 3 (.int v))) = wd ad cI cP (wr σ 5 3 v) := rfl
theorem sF_5_4 (ad : Nat → Nat) (σ : S2) (v : Int32) (cI cP : ClassId) : (wd ad cI cP σ).set 5 (ad 5, .inr (7, (o_5 ad σ).set 4 (.int v))) = wd ad cI cP (wr σ 5 4 v) := rfl
theorem sF_5_5 (ad : Nat → Nat) (σ : S2) (v : Int32) (cI cP : ClassId) : (wd ad cI cP σ).set 5 (ad 5, .inr (7, (o_5 ad σ).set 5 (.int v))) = wd ad cI cP (wr σ 5 5 v) := rfl
theorem sF_5_6 (ad : Nat → Nat) (σ : S2) (v : Int32) (cI cP : ClassId) : (wd ad cI cP σ).set 5 (ad 5, .inr (7, (o_5 ad σ).set 6 (.int v))) = wd ad cI cP (wr σ 5 6 v) := rfl
theorem sF_5_7 (ad : Nat → Nat) (σ : S2) (v : Int32) (cI cP : ClassId) : (wd ad cI cP σ).set 5 (ad 5, .inr (7, (o_5 ad σ).set 7 (.int v))) = wd ad cI cP (wr σ 5 7 v) := rfl
theorem sF_5_8 (ad : Nat → Nat) (σ : S2) (v : Int32) (cI cP : ClassId) : (wd ad cI cP σ).set 5 (ad 5, .inr (7, (o_5 ad σ).set 8 (.int v))) = wd ad cI cP (wr σ 5 8 v) := rfl
theorem sF_7_3 (ad : Nat → Nat) (σ : S2) (v : Int32) (cI cP : ClassId) : (wd ad cI cP σ).set 7 (ad 7, .inr (7, (o_7 ad σ).set 3 (.int v))) = wd ad cI cP (wr σ 7 3 v) := rfl
theorem sF_7_4 (ad : Nat → Nat) (σ : S2) (v : Int32) (cI cP : ClassId) : (wd ad cI cP σ).set 7 (ad 7, .inr (7, (o_7 ad σ).set 4 (.int v))) = wd ad cI cP (wr σ 7 4 v) := rfl
theorem sF_7_5 (ad : Nat → Nat) (σ : S2) (v : Int32) (cI cP : ClassId) : (wd ad cI cP σ).set 7 (ad 7, .inr (7, (o_7 ad σ).set 5 (.int v))) = wd ad cI cP (wr σ 7 5 v) := rfl
theorem sF_7_6 (ad : Nat → Nat) (σ : S2) (v : Int32) (cI cP : ClassId) : (wd ad cI cP σ).set 7 (ad 7, .inr (7, (o_7 ad σ).set 6 (.int v))) = wd ad cI cP (wr σ 7 6 v) := rfl
theorem sF_7_7 (ad : Nat → Nat) (σ : S2) (v : Int32) (cI cP : ClassId) : (wd ad cI cP σ).set 7 (ad 7, .inr (7, (o_7 ad σ).set 7 (.int v))) = wd ad cI cP (wr σ 7 7 v) := rfl
theorem sF_7_8 (ad : Nat → Nat) (σ : S2) (v : Int32) (cI cP : ClassId) : (wd ad cI cP σ).set 7 (ad 7, .inr (7, (o_7 ad σ).set 8 (.int v))) = wd ad cI cP (wr σ 7 8 v) := rfl
theorem sF_9_1 (ad : Nat → Nat) (σ : S2) (v : Int32) (cI cP : ClassId) : (wd ad cI cP σ).set 9 (ad 9, .inr (0, (o_9 ad σ).set 1 (.int v))) = wd ad cI cP (wr σ 9 1 v) := rfl
theorem sF_9_2 (ad : Nat → Nat) (σ : S2) (v : Int32) (cI cP : ClassId) : (wd ad cI cP σ).set 9 (ad 9, .inr (0, (o_9 ad σ).set 2 (.int v))) = wd ad cI cP (wr σ 9 2 v) := rfl
theorem sF_9_3 (ad : Nat → Nat) (σ : S2) (v : Int32) (cI cP : ClassId) : (wd ad cI cP σ).set 9 (ad 9, .inr (0, (o_9 ad σ).set 3 (.int v))) = wd ad cI cP (wr σ 9 3 v) := rfl
theorem sA_18 (ad : Nat → Nat) (σ : S2) (f : Nat → Int32) (cI cP : ClassId) : (wd ad cI cP σ).set 18 (ad 18, .inl (cI, 6, .inl f)) = wd ad cI cP (va_up σ 18 f) := rfl
theorem sF_19_1 (ad : Nat → Nat) (σ : S2) (v : Int32) (cI cP : ClassId) : (wd ad cI cP σ).set 19 (ad 19, .inr (0, (o_19 ad σ).set 1 (.int v))) = wd ad cI cP (wr σ 19 1 v) := rfl
theorem sF_19_2 (ad : Nat → Nat) (σ : S2) (v : Int32) (cI cP : ClassId) : (wd ad cI cP σ).set 19 (ad 19, .inr (0, (o_19 ad σ).set 2 (.int v))) = wd ad cI cP (wr σ 19 2 v) := rfl
theorem sF_19_3 (ad : Nat → Nat) (σ : S2) (v : Int32) (cI cP : ClassId) : (wd ad cI cP σ).set 19 (ad 19, .inr (0, (o_19 ad σ).set 3 (.int v))) = wd ad cI cP (wr σ 19 3 v) := rfl
theorem sA_20 (ad : Nat → Nat) (σ : S2) (f : Nat → Int32) (cI cP : ClassId) : (wd ad cI cP σ).set 20 (ad 20, .inl (cI, 6, .inl f)) = wd ad cI cP (va_up σ 20 f) := rfl
theorem sF_21_1 (ad : Nat → Nat) (σ : S2) (v : Int32) (cI cP : ClassId) : (wd ad cI cP σ).set 21 (ad 21, .inr (5, (o_21 ad σ).set 1 (.int v))) = wd ad cI cP (wr σ 21 1 v) := rfl
theorem sF_21_3 (ad : Nat → Nat) (σ : S2) (v : Int32) (cI cP : ClassId) : (wd ad cI cP σ).set 21 (ad 21, .inr (5, (o_21 ad σ).set 3 (.int v))) = wd ad cI cP (wr σ 21 3 v) := rfl
theorem sA_22 (ad : Nat → Nat) (σ : S2) (f : Nat → Int32) (cI cP : ClassId) : (wd ad cI cP σ).set 22 (ad 22, .inl (cI, 160, .inl f)) = wd ad cI cP (va_up σ 22 f) := rfl
theorem sA_23 (ad : Nat → Nat) (σ : S2) (f : Nat → Int32) (cI cP : ClassId) : (wd ad cI cP σ).set 23 (ad 23, .inl (cI, 6, .inl f)) = wd ad cI cP (va_up σ 23 f) := rfl
theorem sF_24_1 (ad : Nat → Nat) (σ : S2) (v : Int32) (cI cP : ClassId) : (wd ad cI cP σ).set 24 (ad 24, .inr (8, (o_24 ad σ).set 1 (.int v))) = wd ad cI cP (wr σ 24 1 v) := rfl
theorem sF_24_2 (ad : Nat → Nat) (σ : S2) (v : Int32) (cI cP : ClassId) : (wd ad cI cP σ).set 24 (ad 24, .inr (8, (o_24 ad σ).set 2 (.int v))) = wd ad cI cP (wr σ 24 2 v) := rfl
theorem sF_24_3 (ad : Nat → Nat) (σ : S2) (v : Int32) (cI cP : ClassId) : (wd ad cI cP σ).set 24 (ad 24, .inr (8, (o_24 ad σ).set 3 (.int v))) = wd ad cI cP (wr σ 24 3 v) := rfl
theorem sF_25_2 (ad : Nat → Nat) (σ : S2) (v : Int32) (cI cP : ClassId) : (wd ad cI cP σ).set 25 (ad 25, .inr (1, (o_25 ad σ).set 2 (.int v))) = wd ad cI cP (wr σ 25 2 v) := rfl
theorem sF_25_3 (ad : Nat → Nat) (σ : S2) (v : Int32) (cI cP : ClassId) : (wd ad cI cP σ).set 25 (ad 25, .inr (1, (o_25 ad σ).set 3 (.int v))) = wd ad cI cP (wr σ 25 3 v) := rfl
theorem sF_26_1 (ad : Nat → Nat) (σ : S2) (v : Int32) (cI cP : ClassId) : (wd ad cI cP σ).set 26 (ad 26, .inr (2, (o_26 ad σ).set 1 (.int v))) = wd ad cI cP (wr σ 26 1 v) := rfl
theorem sA_27 (ad : Nat → Nat) (σ : S2) (f : Nat → Int32) (cI cP : ClassId) : (wd ad cI cP σ).set 27 (ad 27, .inl (cI, 48, .inl f)) = wd ad cI cP (va_up σ 27 f) := rfl
theorem sF_28_3 (ad : Nat → Nat) (σ : S2) (v : Int32) (cI cP : ClassId) : (wd ad cI cP σ).set 28 (ad 28, .inr (9, (o_28 ad σ).set 3 (.int v))) = wd ad cI cP (wr σ 28 3 v) := rfl
theorem sA_29 (ad : Nat → Nat) (σ : S2) (f : Nat → Int32) (cI cP : ClassId) : (wd ad cI cP σ).set 29 (ad 29, .inl (cI, 8, .inl f)) = wd ad cI cP (va_up σ 29 f) := rfl
theorem sA_30 (ad : Nat → Nat) (σ : S2) (f : Nat → Int32) (cI cP : ClassId) : (wd ad cI cP σ).set 30 (ad 30, .inl (cI, 8, .inl f)) = wd ad cI cP (va_up σ 30 f) := rfl
theorem sA_31 (ad : Nat → Nat) (σ : S2) (f : Nat → Int32) (cI cP : ClassId) : (wd ad cI cP σ).set 31 (ad 31, .inl (cI, 8, .inl f)) = wd ad cI cP (va_up σ 31 f) := rfl
theorem sF_32_2 (ad : Nat → Nat) (σ : S2) (v : Int32) (cI cP : ClassId) : (wd ad cI cP σ).set 32 (ad 32, .inr (10, (o_32 ad σ).set 2 (.int v))) = wd ad cI cP (wr σ 32 2 v) := rfl
theorem sF_32_7 (ad : Nat → Nat) (σ : S2) (v : Int32) (cI cP : ClassId) : (wd ad cI cP σ).set 32 (ad 32, .inr (10, (o_32 ad σ).set 7 (.int v))) = wd ad cI cP (wr σ 32 7 v) := rfl
theorem sF_32_8 (ad : Nat → Nat) (σ : S2) (v : Int32) (cI cP : ClassId) : (wd ad cI cP σ).set 32 (ad 32, .inr (10, (o_32 ad σ).set 8 (.int v))) = wd ad cI cP (wr σ 32 8 v) := rfl
theorem sA_33 (ad : Nat → Nat) (σ : S2) (f : Nat → Int32) (cI cP : ClassId) : (wd ad cI cP σ).set 33 (ad 33, .inl (cI, 10, .inl f)) = wd ad cI cP (va_up σ 33 f) := rfl
theorem sA_34 (ad : Nat → Nat) (σ : S2) (f : Nat → Int32) (cI cP : ClassId) : (wd ad cI cP σ).set 34 (ad 34, .inl (cI, 10, .inl f)) = wd ad cI cP (va_up σ 34 f) := rfl
theorem sA_35 (ad : Nat → Nat) (σ : S2) (f : Nat → Int32) (cI cP : ClassId) : (wd ad cI cP σ).set 35 (ad 35, .inl (cI, 61, .inl f)) = wd ad cI cP (va_up σ 35 f) := rfl
theorem sA_36 (ad : Nat → Nat) (σ : S2) (f : Nat → Int32) (cI cP : ClassId) : (wd ad cI cP σ).set 36 (ad 36, .inl (cI, 61, .inl f)) = wd ad cI cP (va_up σ 36 f) := rfl
theorem sA_37 (ad : Nat → Nat) (σ : S2) (f : Nat → Int32) (cI cP : ClassId) : (wd ad cI cP σ).set 37 (ad 37, .inl (cI, 61, .inl f)) = wd ad cI cP (va_up σ 37 f) := rfl
theorem sF_38_5 (ad : Nat → Nat) (σ : S2) (v : Int32) (cI cP : ClassId) : (wd ad cI cP σ).set 38 (ad 38, .inr (12, (o_38 ad σ).set 5 (.int v))) = wd ad cI cP (wr σ 38 5 v) := rfl
theorem sF_38_16 (ad : Nat → Nat) (σ : S2) (v : Int32) (cI cP : ClassId) : (wd ad cI cP σ).set 38 (ad 38, .inr (12, (o_38 ad σ).set 16 (.int v))) = wd ad cI cP (wr σ 38 16 v) := rfl
theorem sF_38_19 (ad : Nat → Nat) (σ : S2) (v : Int32) (cI cP : ClassId) : (wd ad cI cP σ).set 38 (ad 38, .inr (12, (o_38 ad σ).set 19 (.int v))) = wd ad cI cP (wr σ 38 19 v) := rfl
theorem sF_38_20 (ad : Nat → Nat) (σ : S2) (v : Int32) (cI cP : ClassId) : (wd ad cI cP σ).set 38 (ad 38, .inr (12, (o_38 ad σ).set 20 (.int v))) = wd ad cI cP (wr σ 38 20 v) := rfl
theorem sF_38_22 (ad : Nat → Nat) (σ : S2) (v : Int32) (cI cP : ClassId) : (wd ad cI cP σ).set 38 (ad 38, .inr (12, (o_38 ad σ).set 22 (.int v))) = wd ad cI cP (wr σ 38 22 v) := rfl
theorem sF_38_25 (ad : Nat → Nat) (σ : S2) (v : Int32) (cI cP : ClassId) : (wd ad cI cP σ).set 38 (ad 38, .inr (12, (o_38 ad σ).set 25 (.int v))) = wd ad cI cP (wr σ 38 25 v) := rfl
theorem sF_38_28 (ad : Nat → Nat) (σ : S2) (v : Int32) (cI cP : ClassId) : (wd ad cI cP σ).set 38 (ad 38, .inr (12, (o_38 ad σ).set 28 (.int v))) = wd ad cI cP (wr σ 38 28 v) := rfl
theorem sF_38_29 (ad : Nat → Nat) (σ : S2) (v : Int32) (cI cP : ClassId) : (wd ad cI cP σ).set 38 (ad 38, .inr (12, (o_38 ad σ).set 29 (.int v))) = wd ad cI cP (wr σ 38 29 v) := rfl
theorem sF_38_30 (ad : Nat → Nat) (σ : S2) (v : Int32) (cI cP : ClassId) : (wd ad cI cP σ).set 38 (ad 38, .inr (12, (o_38 ad σ).set 30 (.int v))) = wd ad cI cP (wr σ 38 30 v) := rfl
theorem sF_38_31 (ad : Nat → Nat) (σ : S2) (v : Int32) (cI cP : ClassId) : (wd ad cI cP σ).set 38 (ad 38, .inr (12, (o_38 ad σ).set 31 (.int v))) = wd ad cI cP (wr σ 38 31 v) := rfl
theorem sF_38_33 (ad : Nat → Nat) (σ : S2) (v : Int32) (cI cP : ClassId) : (wd ad cI cP σ).set 38 (ad 38, .inr (12, (o_38 ad σ).set 33 (.int v))) = wd ad cI cP (wr σ 38 33 v) := rfl
theorem sF_38_34 (ad : Nat → Nat) (σ : S2) (v : Int32) (cI cP : ClassId) : (wd ad cI cP σ).set 38 (ad 38, .inr (12, (o_38 ad σ).set 34 (.int v))) = wd ad cI cP (wr σ 38 34 v) := rfl
theorem sA_39 (ad : Nat → Nat) (σ : S2) (f : Nat → Int32) (cI cP : ClassId) : (wd ad cI cP σ).set 39 (ad 39, .inl (cI, 8, .inl f)) = wd ad cI cP (va_up σ 39 f) := rfl
theorem sA_40 (ad : Nat → Nat) (σ : S2) (f : Nat → Int32) (cI cP : ClassId) : (wd ad cI cP σ).set 40 (ad 40, .inl (cI, 2, .inl f)) = wd ad cI cP (va_up σ 40 f) := rfl
theorem sA_41 (ad : Nat → Nat) (σ : S2) (f : Nat → Int32) (cI cP : ClassId) : (wd ad cI cP σ).set 41 (ad 41, .inl (cI, 2, .inl f)) = wd ad cI cP (va_up σ 41 f) := rfl
theorem sA_42 (ad : Nat → Nat) (σ : S2) (f : Nat → Int32) (cI cP : ClassId) : (wd ad cI cP σ).set 42 (ad 42, .inl (cI, 2, .inl f)) = wd ad cI cP (va_up σ 42 f) := rfl
theorem sA_43 (ad : Nat → Nat) (σ : S2) (f : Nat → Int32) (cI cP : ClassId) : (wd ad cI cP σ).set 43 (ad 43, .inl (cI, 24, .inl f)) = wd ad cI cP (va_up σ 43 f) := rfl
theorem sA_44 (ad : Nat → Nat) (σ : S2) (f : Nat → Int32) (cI cP : ClassId) : (wd ad cI cP σ).set 44 (ad 44, .inl (cI, 3, .inl f)) = wd ad cI cP (va_up σ 44 f) := rfl
theorem sA_45 (ad : Nat → Nat) (σ : S2) (f : Nat → Int32) (cI cP : ClassId) : (wd ad cI cP σ).set 45 (ad 45, .inl (cI, 3, .inl f)) = wd ad cI cP (va_up σ 45 f) := rfl
theorem sA_46 (ad : Nat → Nat) (σ : S2) (f : Nat → Int32) (cI cP : ClassId) : (wd ad cI cP σ).set 46 (ad 46, .inl (cI, 3, .inl f)) = wd ad cI cP (va_up σ 46 f) := rfl
theorem sA_47 (ad : Nat → Nat) (σ : S2) (f : Nat → Int32) (cI cP : ClassId) : (wd ad cI cP σ).set 47 (ad 47, .inl (cI, 3, .inl f)) = wd ad cI cP (va_up σ 47 f) := rfl
theorem sA_48 (ad : Nat → Nat) (σ : S2) (f : Nat → Int32) (cI cP : ClassId) : (wd ad cI cP σ).set 48 (ad 48, .inl (cI, 6, .inl f)) = wd ad cI cP (va_up σ 48 f) := rfl
theorem sA_49 (ad : Nat → Nat) (σ : S2) (f : Nat → Int32) (cI cP : ClassId) : (wd ad cI cP σ).set 49 (ad 49, .inl (cI, 6, .inl f)) = wd ad cI cP (va_up σ 49 f) := rfl
theorem sA_50 (ad : Nat → Nat) (σ : S2) (f : Nat → Int32) (cI cP : ClassId) : (wd ad cI cP σ).set 50 (ad 50, .inl (cI, 3, .inl f)) = wd ad cI cP (va_up σ 50 f) := rfl
theorem sA_51 (ad : Nat → Nat) (σ : S2) (f : Nat → Int32) (cI cP : ClassId) : (wd ad cI cP σ).set 51 (ad 51, .inl (cI, 3, .inl f)) = wd ad cI cP (va_up σ 51 f) := rfl
theorem sA_52 (ad : Nat → Nat) (σ : S2) (f : Nat → Int32) (cI cP : ClassId) : (wd ad cI cP σ).set 52 (ad 52, .inl (cI, 8, .inl f)) = wd ad cI cP (va_up σ 52 f) := rfl
theorem sA_53 (ad : Nat → Nat) (σ : S2) (f : Nat → Int32) (cI cP : ClassId) : (wd ad cI cP σ).set 53 (ad 53, .inl (cI, 160, .inl f)) = wd ad cI cP (va_up σ 53 f) := rfl
theorem sA_54 (ad : Nat → Nat) (σ : S2) (f : Nat → Int32) (cI cP : ClassId) : (wd ad cI cP σ).set 54 (ad 54, .inl (cI, 6, .inl f)) = wd ad cI cP (va_up σ 54 f) := rfl
theorem sA_55 (ad : Nat → Nat) (σ : S2) (f : Nat → Int32) (cI cP : ClassId) : (wd ad cI cP σ).set 55 (ad 55, .inl (cI, 6, .inl f)) = wd ad cI cP (va_up σ 55 f) := rfl
theorem sA_56 (ad : Nat → Nat) (σ : S2) (f : Nat → Int32) (cI cP : ClassId) : (wd ad cI cP σ).set 56 (ad 56, .inl (cI, 48, .inl f)) = wd ad cI cP (va_up σ 56 f) := rfl
theorem sA_57 (ad : Nat → Nat) (σ : S2) (f : Nat → Int32) (cI cP : ClassId) : (wd ad cI cP σ).set 57 (ad 57, .inl (cI, 24, .inl f)) = wd ad cI cP (va_up σ 57 f) := rfl
theorem sA_58 (ad : Nat → Nat) (σ : S2) (f : Nat → Int32) (cI cP : ClassId) : (wd ad cI cP σ).set 58 (ad 58, .inl (cI, 24, .inl f)) = wd ad cI cP (va_up σ 58 f) := rfl
theorem sA_59 (ad : Nat → Nat) (σ : S2) (f : Nat → Int32) (cI cP : ClassId) : (wd ad cI cP σ).set 59 (ad 59, .inl (cI, 10, .inl f)) = wd ad cI cP (va_up σ 59 f) := rfl
theorem sA_60 (ad : Nat → Nat) (σ : S2) (f : Nat → Int32) (cI cP : ClassId) : (wd ad cI cP σ).set 60 (ad 60, .inl (cI, 10, .inl f)) = wd ad cI cP (va_up σ 60 f) := rfl
theorem sA_61 (ad : Nat → Nat) (σ : S2) (f : Nat → Int32) (cI cP : ClassId) : (wd ad cI cP σ).set 61 (ad 61, .inl (cI, 601, .inl f)) = wd ad cI cP (va_up σ 61 f) := rfl
theorem sA_62 (ad : Nat → Nat) (σ : S2) (f : Nat → Int32) (cI cP : ClassId) : (wd ad cI cP σ).set 62 (ad 62, .inl (cI, 61, .inl f)) = wd ad cI cP (va_up σ 62 f) := rfl
theorem sA_63 (ad : Nat → Nat) (σ : S2) (f : Nat → Int32) (cI cP : ClassId) : (wd ad cI cP σ).set 63 (ad 63, .inl (cI, 61, .inl f)) = wd ad cI cP (va_up σ 63 f) := rfl
theorem pt_cases {P : Nat → Prop} {k : Nat} (h1 : 10 ≤ k) (h2 : k < 18) (h : P 10 ∧ P 11 ∧ P 12 ∧ P 13 ∧ P 14 ∧ P 15 ∧ P 16 ∧ P 17) : P k := by
  obtain ⟨a, b, c, d, e, f, g, i⟩ := h
  rcases (show k = 10 ∨ k = 11 ∨ k = 12 ∨ k = 13 ∨ k = 14 ∨ k = 15 ∨ k = 16 ∨ k = 17 by omega) with rfl | rfl | rfl | rfl | rfl | rfl | rfl | rfl <;> assumption
theorem wd_P (ad : Nat → Nat) (σ : S2) {k : Nat} (h1 : 10 ≤ k) (h2 : k < 18) (cI cP : ClassId) : (wd ad cI cP σ)[k]? = some (ad k, .inr (4, o_P σ k)) := by
  revert cI cP
  exact pt_cases (P := fun k => ∀ (cI cP : ClassId), (wd ad cI cP σ)[k]? = some (ad k, .inr (4, o_P σ k))) h1 h2 ⟨fun _ _ => rfl, fun _ _ => rfl, fun _ _ => rfl, fun _ _ => rfl, fun _ _ => rfl, fun _ _ => rfl, fun _ _ => rfl, fun _ _ => rfl⟩
theorem sP_0 (ad : Nat → Nat) (σ : S2) {k : Nat} (h1 : 10 ≤ k) (h2 : k < 18) (v : Int32) (cI cP : ClassId) : (wd ad cI cP σ).set k (ad k, .inr (4, (o_P σ k).set 0 (.int v))) = wd ad cI cP (wr σ k 0 v) := by
  revert cI cP
  exact pt_cases (P := fun k => ∀ (cI cP : ClassId), (wd ad cI cP σ).set k (ad k, .inr (4, (o_P σ k).set 0 (.int v))) = wd ad cI cP (wr σ k 0 v)) h1 h2 ⟨fun _ _ => rfl, fun _ _ => rfl, fun _ _ => rfl, fun _ _ => rfl, fun _ _ => rfl, fun _ _ => rfl, fun _ _ => rfl, fun _ _ => rfl⟩
theorem sP_1 (ad : Nat → Nat) (σ : S2) {k : Nat} (h1 : 10 ≤ k) (h2 : k < 18) (v : Int32) (cI cP : ClassId) : (wd ad cI cP σ).set k (ad k, .inr (4, (o_P σ k).set 1 (.int v))) = wd ad cI cP (wr σ k 1 v) := by
  revert cI cP
  exact pt_cases (P := fun k => ∀ (cI cP : ClassId), (wd ad cI cP σ).set k (ad k, .inr (4, (o_P σ k).set 1 (.int v))) = wd ad cI cP (wr σ k 1 v)) h1 h2 ⟨fun _ _ => rfl, fun _ _ => rfl, fun _ _ => rfl, fun _ _ => rfl, fun _ _ => rfl, fun _ _ => rfl, fun _ _ => rfl, fun _ _ => rfl⟩
theorem sP_2 (ad : Nat → Nat) (σ : S2) {k : Nat} (h1 : 10 ≤ k) (h2 : k < 18) (v : Int32) (cI cP : ClassId) : (wd ad cI cP σ).set k (ad k, .inr (4, (o_P σ k).set 2 (.int v))) = wd ad cI cP (wr σ k 2 v) := by
  revert cI cP
  exact pt_cases (P := fun k => ∀ (cI cP : ClassId), (wd ad cI cP σ).set k (ad k, .inr (4, (o_P σ k).set 2 (.int v))) = wd ad cI cP (wr σ k 2 v)) h1 h2 ⟨fun _ _ => rfl, fun _ _ => rfl, fun _ _ => rfl, fun _ _ => rfl, fun _ _ => rfl, fun _ _ => rfl, fun _ _ => rfl, fun _ _ => rfl⟩
theorem sP_3 (ad : Nat → Nat) (σ : S2) {k : Nat} (h1 : 10 ≤ k) (h2 : k < 18) (v : Int32) (cI cP : ClassId) : (wd ad cI cP σ).set k (ad k, .inr (4, (o_P σ k).set 3 (.int v))) = wd ad cI cP (wr σ k 3 v) := by
  revert cI cP
  exact pt_cases (P := fun k => ∀ (cI cP : ClassId), (wd ad cI cP σ).set k (ad k, .inr (4, (o_P σ k).set 3 (.int v))) = wd ad cI cP (wr σ k 3 v)) h1 h2 ⟨fun _ _ => rfl, fun _ _ => rfl, fun _ _ => rfl, fun _ _ => rfl, fun _ _ => rfl, fun _ _ => rfl, fun _ _ => rfl, fun _ _ => rfl⟩
theorem sP_4 (ad : Nat → Nat) (σ : S2) {k : Nat} (h1 : 10 ≤ k) (h2 : k < 18) (v : Int32) (cI cP : ClassId) : (wd ad cI cP σ).set k (ad k, .inr (4, (o_P σ k).set 4 (.int v))) = wd ad cI cP (wr σ k 4 v) := by
  revert cI cP
  exact pt_cases (P := fun k => ∀ (cI cP : ClassId), (wd ad cI cP σ).set k (ad k, .inr (4, (o_P σ k).set 4 (.int v))) = wd ad cI cP (wr σ k 4 v)) h1 h2 ⟨fun _ _ => rfl, fun _ _ => rfl, fun _ _ => rfl, fun _ _ => rfl, fun _ _ => rfl, fun _ _ => rfl, fun _ _ => rfl, fun _ _ => rfl⟩
theorem sP_5 (ad : Nat → Nat) (σ : S2) {k : Nat} (h1 : 10 ≤ k) (h2 : k < 18) (v : Int32) (cI cP : ClassId) : (wd ad cI cP σ).set k (ad k, .inr (4, (o_P σ k).set 5 (.int v))) = wd ad cI cP (wr σ k 5 v) := by
  revert cI cP
  exact pt_cases (P := fun k => ∀ (cI cP : ClassId), (wd ad cI cP σ).set k (ad k, .inr (4, (o_P σ k).set 5 (.int v))) = wd ad cI cP (wr σ k 5 v)) h1 h2 ⟨fun _ _ => rfl, fun _ _ => rfl, fun _ _ => rfl, fun _ _ => rfl, fun _ _ => rfl, fun _ _ => rfl, fun _ _ => rfl, fun _ _ => rfl⟩
theorem sP_6 (ad : Nat → Nat) (σ : S2) {k : Nat} (h1 : 10 ≤ k) (h2 : k < 18) (v : Int32) (cI cP : ClassId) : (wd ad cI cP σ).set k (ad k, .inr (4, (o_P σ k).set 6 (.int v))) = wd ad cI cP (wr σ k 6 v) := by
  revert cI cP
  exact pt_cases (P := fun k => ∀ (cI cP : ClassId), (wd ad cI cP σ).set k (ad k, .inr (4, (o_P σ k).set 6 (.int v))) = wd ad cI cP (wr σ k 6 v)) h1 h2 ⟨fun _ _ => rfl, fun _ _ => rfl, fun _ _ => rfl, fun _ _ => rfl, fun _ _ => rfl, fun _ _ => rfl, fun _ _ => rfl, fun _ _ => rfl⟩
theorem sP_7 (ad : Nat → Nat) (σ : S2) {k : Nat} (h1 : 10 ≤ k) (h2 : k < 18) (v : Int32) (cI cP : ClassId) : (wd ad cI cP σ).set k (ad k, .inr (4, (o_P σ k).set 7 (.int v))) = wd ad cI cP (wr σ k 7 v) := by
  revert cI cP
  exact pt_cases (P := fun k => ∀ (cI cP : ClassId), (wd ad cI cP σ).set k (ad k, .inr (4, (o_P σ k).set 7 (.int v))) = wd ad cI cP (wr σ k 7 v)) h1 h2 ⟨fun _ _ => rfl, fun _ _ => rfl, fun _ _ => rfl, fun _ _ => rfl, fun _ _ => rfl, fun _ _ => rfl, fun _ _ => rfl, fun _ _ => rfl⟩
