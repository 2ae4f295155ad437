def f_X12_in (v0 : Int64) (v2 : Int64) (v4 : Int64) (u : S2) : Option (Int32 × S2) := (if (lg_cmp v0 v2) < 0 then some ((0 : Int32), u) else (if 0 < (lg_cmp v0 v4) then some ((0 : Int32), u) else some ((1 : Int32), u)))
set_option maxRecDepth 20000 in
theorem c_X12_in (ad : Nat → Nat) (v0 : Int64) (v2 : Int64) (v4 : Int64)    (u : S2) (r : Int32) (w : S2) (hf : f_X12_in v0 v2 v4 u = some (r, w)) : HI yX12_in cX12_in 6 (some .boolean) 0 0 ad [.long v0, .long v2, .long v4] u r w := by
  refine HI_of (by decide) (Nat.le_of_ble_eq_true rfl) (fun K C hR E => ?_)
  refine r_sub [(0, .long v0), (2, .long v2), (4, .long v4)] [0, 1, 2] rfl ?_
  unfold f_X12_in at hf
  refine r_lload_n 1 0 C dX12_in_0 rfl rfl rfl ?_
  refine r_lload_n 2 1 C dX12_in_1 rfl rfl rfl ?_
  refine r_lcmp 3 C dX12_in_2 rfl ?_
  refine r_if_lt 6 17 C dX12_in_3 (by decide) rfl (fun c0 => ?_) (fun c0 => ?_)
  · have hf := ifT c0 hf
    refine r_iconst (v := 0) 18 C dX12_in_17 (by decide) rfl ?_
    exact r_zret C E rfl (pr1 hf) (pr2 hf) dX12_in_18
  · have hf := ifF c0 hf
    refine r_lload_n 7 0 C dX12_in_6 rfl rfl rfl ?_
    refine r_lload 9 2 C dX12_in_7 rfl rfl ?_
    refine r_lcmp 10 C dX12_in_9 rfl ?_
    refine r_if_gt 13 17 C dX12_in_10 (by decide) rfl (fun c1 => ?_) (fun c1 => ?_)
    · have hf := ifT c1 hf
      refine r_iconst (v := 0) 18 C dX12_in_17 (by decide) rfl ?_
      exact r_zret C E rfl (pr1 hf) (pr2 hf) dX12_in_18
    · have hf := ifF c1 hf
      refine r_iconst (v := 1) 14 C dX12_in_13 (by decide) rfl ?_
      refine r_goto 18 C dX12_in_14 (by decide) ?_
      exact r_zret C E rfl (pr1 hf) (pr2 hf) dX12_in_18
def f_X12_isPointer (v0 : Int32) (u : S2) : Option (Int32 × S2) := bd (f_X12_in ((Int32.toInt64 v0)) ((0 : Int64)) ((2 : Int64)) u) (fun r0 u0 => ck (isB r0) (some (r0, u0)))
set_option maxRecDepth 20000 in
theorem c_X12_isPointer (ad : Nat → Nat) (v0 : Int32)  (u : S2) (r : Int32) (w : S2) (hf : f_X12_isPointer v0 u = some (r, w)) : HI yX12_isPointer cX12_isPointer 1 (some .boolean) 1 25 ad [.int v0] u r w := by
  refine HI_of (by decide) (Nat.le_of_ble_eq_true rfl) (fun K C hR E => ?_)
  refine r_sub [(0, .int v0)] [0] rfl ?_
  unfold f_X12_isPointer at hf
  refine r_iload_n 1 0 C dX12_isPointer_0 rfl rfl rfl ?_
  refine r_i2l 2 C dX12_isPointer_1 rfl ?_
  refine r_lconst (v := 0) 3 C dX12_isPointer_2 (by decide) rfl ?_
  refine r_ldc2 (v := 2) 6 C tw_979 dX12_isPointer_3 rfl ?_
  obtain ⟨r0, u0, h0, hf⟩ := bd_of hf
  refine r_cSI 9 [.long (Int32.toInt64 v0), .long (0 : Int64), .long (2 : Int64)] C hR (c_X12_in ad ((Int32.toInt64 v0)) ((0 : Int64)) ((2 : Int64))    u r0 u0 h0) q_X12_in tw_945 tw_946 (Nat.le_of_ble_eq_true rfl) (Nat.le_of_ble_eq_true rfl) rfl rfl (Nat.le_of_ble_eq_true rfl) dX12_isPointer_6 rfl ?_
  obtain ⟨hc0, hf⟩ := ck_of hf
  exact r_zret C E (isB_nar hc0) (pr1 hf) (pr2 hf) dX12_isPointer_9
def f_X12_round (v0 : Int32) (u : S2) : Option (Int32 × S2) := nm (v0 - v0 / (36000 : Int32) * (36000 : Int32)) (fun x0 => (if 0 ≤ x0 then some (x0, u) else some (x0 + (36000 : Int32), u)))
set_option maxRecDepth 20000 in
theorem c_X12_round (ad : Nat → Nat) (v0 : Int32)  (u : S2) (r : Int32) (w : S2) (hf : f_X12_round v0 u = some (r, w)) : HI yX12_round cX12_round 2 (some .int) 0 0 ad [.int v0] u r w := by
  refine HI_of (by decide) (Nat.le_of_ble_eq_true rfl) (fun K C hR E => ?_)
  refine r_sub [(0, .int v0)] [0] rfl ?_
  unfold f_X12_round at hf
  refine r_iload_n 1 0 C dX12_round_0 rfl rfl rfl ?_
  refine r_ldc (v := 36000) 3 C tw_1022 dX12_round_1 rfl ?_
  refine r_irem 4 C dX12_round_3 (by decide) rfl ?_
  obtain ⟨x0, ex0, hf⟩ := nm_of hf
  refine r_nm ex0 ?_
  refine r_istore_n 5 [(0, .int v0), (1, .int x0)] [1, 0] C dX12_round_4 rfl (by decide) rfl rfl ?_
  refine r_iload_n 6 1 C dX12_round_5 rfl rfl rfl ?_
  refine r_if_ge 9 16 C dX12_round_6 (by decide) rfl (fun c0 => ?_) (fun c0 => ?_)
  · have hf := ifT c0 hf
    refine r_iload_n 17 1 C dX12_round_16 rfl rfl rfl ?_
    exact r_iret C E (pr1 hf) (pr2 hf) dX12_round_17
  · have hf := ifF c0 hf
    refine r_iload_n 10 1 C dX12_round_9 rfl rfl rfl ?_
    refine r_ldc (v := 36000) 12 C tw_1022 dX12_round_10 rfl ?_
    refine r_iadd 13 C dX12_round_12 rfl ?_
    refine r_goto 17 C dX12_round_13 (by decide) ?_
    exact r_iret C E (pr1 hf) (pr2 hf) dX12_round_17
def f_X12_wrapped (v0 : Int32) (u : S2) : Option (Int32 × S2) := bd (f_X12_round v0 u) (fun r0 u0 => (if r0 < (18000 : Int32) then some (r0, u0) else some (r0 - (36000 : Int32), u0)))
set_option maxRecDepth 20000 in
theorem c_X12_wrapped (ad : Nat → Nat) (v0 : Int32)  (u : S2) (r : Int32) (w : S2) (hf : f_X12_wrapped v0 u = some (r, w)) : HI yX12_wrapped cX12_wrapped 2 (some .int) 1 21 ad [.int v0] u r w := by
  refine HI_of (by decide) (Nat.le_of_ble_eq_true rfl) (fun K C hR E => ?_)
  refine r_sub [(0, .int v0)] [0] rfl ?_
  unfold f_X12_wrapped at hf
  refine r_iload_n 1 0 C dX12_wrapped_0 rfl rfl rfl ?_
  obtain ⟨r0, u0, h0, hf⟩ := bd_of hf
  refine r_cSI 4 [.int v0] C hR (c_X12_round ad v0  u r0 u0 h0) q_X12_round tw_1019 tw_1020 (Nat.le_of_ble_eq_true rfl) (Nat.le_of_ble_eq_true rfl) rfl rfl (Nat.le_of_ble_eq_true rfl) dX12_wrapped_1 rfl ?_
  refine r_istore_n 5 [(0, .int v0), (1, .int r0)] [1, 0] C dX12_wrapped_4 rfl (by decide) rfl rfl ?_
  refine r_iload_n 6 1 C dX12_wrapped_5 rfl rfl rfl ?_
  refine r_sipush (v := 18000) 9 C dX12_wrapped_6 (by decide) rfl ?_
  refine r_icmp_lt 12 19 C dX12_wrapped_9 (by decide) rfl (fun c0 => ?_) (fun c0 => ?_)
  · have hf := ifT c0 hf
    refine r_iload_n 20 1 C dX12_wrapped_19 rfl rfl rfl ?_
    exact r_iret C E (pr1 hf) (pr2 hf) dX12_wrapped_20
  · have hf := ifF c0 hf
    refine r_iload_n 13 1 C dX12_wrapped_12 rfl rfl rfl ?_
    refine r_ldc (v := 36000) 15 C tw_1022 dX12_wrapped_13 rfl ?_
    refine r_isub 16 C dX12_wrapped_15 rfl ?_
    refine r_goto 20 C dX12_wrapped_16 (by decide) ?_
    exact r_iret C E (pr1 hf) (pr2 hf) dX12_wrapped_20
def f_X12_size (v0 : Int32) (u : S2) : Option (Int32 × S2) := (if 0 ≤ v0 then some (v0, u) else some (-v0, u))
set_option maxRecDepth 20000 in
theorem c_X12_size (ad : Nat → Nat) (v0 : Int32)  (u : S2) (r : Int32) (w : S2) (hf : f_X12_size v0 u = some (r, w)) : HI yX12_size cX12_size 1 (some .int) 0 0 ad [.int v0] u r w := by
  refine HI_of (by decide) (Nat.le_of_ble_eq_true rfl) (fun K C hR E => ?_)
  refine r_sub [(0, .int v0)] [0] rfl ?_
  unfold f_X12_size at hf
  refine r_iload_n 1 0 C dX12_size_0 rfl rfl rfl ?_
  refine r_if_ge 4 9 C dX12_size_1 (by decide) rfl (fun c0 => ?_) (fun c0 => ?_)
  · have hf := ifT c0 hf
    refine r_iload_n 10 0 C dX12_size_9 rfl rfl rfl ?_
    exact r_iret C E (pr1 hf) (pr2 hf) dX12_size_10
  · have hf := ifF c0 hf
    refine r_iload_n 5 0 C dX12_size_4 rfl rfl rfl ?_
    refine r_ineg 6 C dX12_size_5 rfl ?_
    refine r_goto 10 C dX12_size_6 (by decide) ?_
    exact r_iret C E (pr1 hf) (pr2 hf) dX12_size_10
def f_X12_held (v0 : Int32) (v1 : Int32) (u : S2) : Option (Int32 × S2) := (if (-v1) ≤ v0 then (if v0 ≤ v1 then some (v0, u) else some (v1, u)) else some (-v1, u))
set_option maxRecDepth 20000 in
theorem c_X12_held (ad : Nat → Nat) (v0 : Int32) (v1 : Int32)   (u : S2) (r : Int32) (w : S2) (hf : f_X12_held v0 v1 u = some (r, w)) : HI yX12_held cX12_held 2 (some .int) 0 0 ad [.int v0, .int v1] u r w := by
  refine HI_of (by decide) (Nat.le_of_ble_eq_true rfl) (fun K C hR E => ?_)
  refine r_sub [(0, .int v0), (1, .int v1)] [0, 1] rfl ?_
  unfold f_X12_held at hf
  refine r_iload_n 1 0 C dX12_held_0 rfl rfl rfl ?_
  refine r_iload_n 2 1 C dX12_held_1 rfl rfl rfl ?_
  refine r_ineg 3 C dX12_held_2 rfl ?_
  refine r_icmp_ge 6 11 C dX12_held_3 (by decide) rfl (fun c0 => ?_) (fun c0 => ?_)
  · have hf := ifT c0 hf
    refine r_iload_n 12 0 C dX12_held_11 rfl rfl rfl ?_
    refine r_iload_n 13 1 C dX12_held_12 rfl rfl rfl ?_
    refine r_icmp_le 16 20 C dX12_held_13 (by decide) rfl (fun c1 => ?_) (fun c1 => ?_)
    · have hf := ifT c1 hf
      refine r_iload_n 21 0 C dX12_held_20 rfl rfl rfl ?_
      exact r_iret C E (pr1 hf) (pr2 hf) dX12_held_21
    · have hf := ifF c1 hf
      refine r_iload_n 17 1 C dX12_held_16 rfl rfl rfl ?_
      refine r_goto 21 C dX12_held_17 (by decide) ?_
      exact r_iret C E (pr1 hf) (pr2 hf) dX12_held_21
  · have hf := ifF c0 hf
    refine r_iload_n 7 1 C dX12_held_6 rfl rfl rfl ?_
    refine r_ineg 8 C dX12_held_7 rfl ?_
    refine r_goto 21 C dX12_held_8 (by decide) ?_
    exact r_iret C E (pr1 hf) (pr2 hf) dX12_held_21
def f_X12_holdOf (v0 : Int32) (u : S2) : Option (Int32 × S2) := bd (f_X12_size v0 u) (fun r0 u0 => some ((90 : Int32) - r0, u0))
set_option maxRecDepth 20000 in
theorem c_X12_holdOf (ad : Nat → Nat) (v0 : Int32)  (u : S2) (r : Int32) (w : S2) (hf : f_X12_holdOf v0 u = some (r, w)) : HI yX12_holdOf cX12_holdOf 1 (some .int) 1 20 ad [.int v0] u r w := by
  refine HI_of (by decide) (Nat.le_of_ble_eq_true rfl) (fun K C hR E => ?_)
  refine r_sub [(0, .int v0)] [0] rfl ?_
  unfold f_X12_holdOf at hf
  refine r_bipush (v := 90) 2 C dX12_holdOf_0 (by decide) rfl ?_
  refine r_iload_n 3 0 C dX12_holdOf_2 rfl rfl rfl ?_
  obtain ⟨r0, u0, h0, hf⟩ := bd_of hf
  refine r_cSI 6 [.int v0] C hR (c_X12_size ad v0  u r0 u0 h0) q_X12_size tw_1033 tw_1034 (Nat.le_of_ble_eq_true rfl) (Nat.le_of_ble_eq_true rfl) rfl rfl (Nat.le_of_ble_eq_true rfl) dX12_holdOf_3 rfl ?_
  refine r_isub 7 C dX12_holdOf_6 rfl ?_
  exact r_iret C E (pr1 hf) (pr2 hf) dX12_holdOf_7
def f_X12_set_71  (v1 : Int32) (v2 : Int32) (t0 : Int64) (t1 : Int64) (t2 : Int64) (u : S2) : Option (Int32 × S2) := bd (f_X12_in t0 t1 t2 u) (fun r0 u0 => (if r0 = 0 then some ((-3 : Int32), u0) else ck (inb v1 8) (nm (u0 39 (Int32.toNatClampNeg v1)) (fun x0 => ck (inb v1 8) (nm (wr u0 39 (Int32.toNatClampNeg v1) v2) (fun u1 => some (x0 + (100 : Int32), u1)))))))
set_option maxRecDepth 20000 in
theorem w_X12_set_71 {K : Ctx} {ad : Nat → Nat} (C : Cx K ad cX12_set 4 yX12_set.cls (some .int)) (hR : Rm K 1 25) {r : Int32} {w : S2} (E : EI K ad r w)  (v1 : Int32) (v2 : Int32) (t0 : Int64) (t1 : Int64) (t2 : Int64)      (u : S2) (hf : f_X12_set_71  v1 v2 t0 t1 t2 u = some (r, w)) : RW K ad 4 71 [(0, .ref (ad 38)), (1, .int v1), (2, .int v2)] [.long t2, .long t1, .long t0] u := by
  unfold f_X12_set_71 at hf
  obtain ⟨r0, u0, h0, hf⟩ := bd_of hf
  refine r_cSI 74 [.long t0, .long t1, .long t2] C hR (c_X12_in ad t0 t1 t2    u r0 u0 h0) q_X12_in tw_945 tw_946 (Nat.le_of_ble_eq_true rfl) (Nat.le_of_ble_eq_true rfl) rfl rfl (Nat.le_of_ble_eq_true rfl) dX12_set_71 rfl ?_
  refine r_if_ne 77 80 C dX12_set_74 (by decide) rfl (fun c0 => ?_) (fun c0 => ?_)
  · have hf := ifF c0 hf
    refine r_aload_n 81 0 C dX12_set_80 rfl rfl rfl ?_
    refine r_get 84 38 0 C inX12 (wd_38 ad u0) rfl (by decide) tw_828 rfl rfl dX12_set_81 rfl ?_
    refine r_iload_n 85 1 C dX12_set_84 rfl rfl rfl ?_
    obtain ⟨hc0, hf⟩ := ck_of hf
    refine r_iaload 86 39 8 C (wd_39 ad u0) hc0 dX12_set_85 rfl ?_
    obtain ⟨x0, ex0, hf⟩ := nm_of hf
    refine r_nm ex0 ?_
    refine r_istore_n 87 [(0, .ref (ad 38)), (1, .int v1), (2, .int v2), (3, .int x0)] [1, 2, 3, 0] C dX12_set_86 rfl (by decide) rfl rfl ?_
    refine r_aload_n 88 0 C dX12_set_87 rfl rfl rfl ?_
    refine r_get 91 38 0 C inX12 (wd_38 ad u0) rfl (by decide) tw_828 rfl rfl dX12_set_88 rfl ?_
    refine r_iload_n 92 1 C dX12_set_91 rfl rfl rfl ?_
    refine r_iload_n 93 2 C dX12_set_92 rfl rfl rfl ?_
    obtain ⟨hc1, hf⟩ := ck_of hf
    refine r_iastore 94 39 8 C (wd_39 ad u0) (sA_39 ad u0) hc1 dX12_set_93 rfl ?_
    obtain ⟨u1, eu1, hf⟩ := nm_of hf
    refine r_st eu1 ?_
    refine r_iload_n 95 3 C dX12_set_94 rfl rfl rfl ?_
    refine r_bipush (v := 100) 97 C dX12_set_95 (by decide) rfl ?_
    refine r_iadd 98 C dX12_set_97 rfl ?_
    exact r_iret C E (pr1 hf) (pr2 hf) dX12_set_98
  · have hf := ifT c0 hf
    refine r_bipush (v := -3) 79 C dX12_set_77 (by decide) rfl ?_
    exact r_iret C E (pr1 hf) (pr2 hf) dX12_set_79
def f_X12_set_36  (v1 : Int32) (v2 : Int32) (t0 : Int64) (t1 : Int64) (u : S2) : Option (Int32 × S2) := (if v1 = 0 then f_X12_set_71   v1 v2 t0 t1 ((89 : Int64)) u else (if v1 = (1 : Int32) then f_X12_set_71   v1 v2 t0 t1 ((40 : Int64)) u else (if v1 = (2 : Int32) then f_X12_set_71   v1 v2 t0 t1 ((99 : Int64)) u else f_X12_set_71   v1 v2 t0 t1 ((35 : Int64)) u)))
set_option maxRecDepth 20000 in
theorem w_X12_set_36 {K : Ctx} {ad : Nat → Nat} (C : Cx K ad cX12_set 4 yX12_set.cls (some .int)) (hR : Rm K 1 25) {r : Int32} {w : S2} (E : EI K ad r w)  (v1 : Int32) (v2 : Int32) (t0 : Int64) (t1 : Int64)     (u : S2) (hf : f_X12_set_36  v1 v2 t0 t1 u = some (r, w)) : RW K ad 4 36 [(0, .ref (ad 38)), (1, .int v1), (2, .int v2)] [.long t1, .long t0] u := by
  unfold f_X12_set_36 at hf
  refine r_iload_n 37 1 C dX12_set_36 rfl rfl rfl ?_
  refine r_if_ne 40 46 C dX12_set_37 (by decide) rfl (fun c0 => ?_) (fun c0 => ?_)
  · have hf := ifF c0 hf
    refine r_iload_n 47 1 C dX12_set_46 rfl rfl rfl ?_
    refine r_iconst (v := 1) 48 C dX12_set_47 (by decide) rfl ?_
    refine r_icmp_ne 51 57 C dX12_set_48 (by decide) rfl (fun c1 => ?_) (fun c1 => ?_)
    · have hf := ifF c1 hf
      refine r_iload_n 58 1 C dX12_set_57 rfl rfl rfl ?_
      refine r_iconst (v := 2) 59 C dX12_set_58 (by decide) rfl ?_
      refine r_icmp_ne 62 68 C dX12_set_59 (by decide) rfl (fun c2 => ?_) (fun c2 => ?_)
      · have hf := ifF c2 hf
        refine r_ldc2 (v := 35) 71 C tw_953 dX12_set_68 rfl ?_
        refine r_sub [(0, .ref (ad 38)), (1, .int v1), (2, .int v2)] [0, 1, 2] rfl ?_
        exact w_X12_set_71 C hR E   v1 v2 t0 t1 ((35 : Int64))      u hf
      · have hf := ifT c2 hf
        refine r_ldc2 (v := 99) 65 C tw_952 dX12_set_62 rfl ?_
        refine r_goto 71 C dX12_set_65 (by decide) ?_
        refine r_sub [(0, .ref (ad 38)), (1, .int v1), (2, .int v2)] [0, 1, 2] rfl ?_
        exact w_X12_set_71 C hR E   v1 v2 t0 t1 ((99 : Int64))      u hf
    · have hf := ifT c1 hf
      refine r_ldc2 (v := 40) 54 C tw_951 dX12_set_51 rfl ?_
      refine r_goto 71 C dX12_set_54 (by decide) ?_
      refine r_sub [(0, .ref (ad 38)), (1, .int v1), (2, .int v2)] [0, 1, 2] rfl ?_
      exact w_X12_set_71 C hR E   v1 v2 t0 t1 ((40 : Int64))      u hf
  · have hf := ifT c0 hf
    refine r_ldc2 (v := 89) 43 C tw_950 dX12_set_40 rfl ?_
    refine r_goto 71 C dX12_set_43 (by decide) ?_
    refine r_sub [(0, .ref (ad 38)), (1, .int v1), (2, .int v2)] [0, 1, 2] rfl ?_
    exact w_X12_set_71 C hR E   v1 v2 t0 t1 ((89 : Int64))      u hf
def f_X12_set (v1 : Int32) (v2 : Int32) (u : S2) : Option (Int32 × S2) := bd (f_X12_in ((Int32.toInt64 v1)) ((0 : Int64)) ((3 : Int64)) u) (fun r0 u0 => (if r0 = 0 then some ((-3 : Int32), u0) else (if v1 = 0 then f_X12_set_36   v1 v2 ((Int32.toInt64 v2)) ((-89 : Int64)) u0 else (if v1 = (3 : Int32) then f_X12_set_36   v1 v2 ((Int32.toInt64 v2)) ((-35 : Int64)) u0 else f_X12_set_36   v1 v2 ((Int32.toInt64 v2)) ((0 : Int64)) u0))))
set_option maxRecDepth 20000 in
theorem c_X12_set (ad : Nat → Nat) (v1 : Int32) (v2 : Int32)   (u : S2) (r : Int32) (w : S2) (hf : f_X12_set v1 v2 u = some (r, w)) : HI yX12_set cX12_set 4 (some .int) 1 25 ad [.ref (ad 38), .int v1, .int v2] u r w := by
  refine HI_of (by decide) (Nat.le_of_ble_eq_true rfl) (fun K C hR E => ?_)
  refine r_sub [(0, .ref (ad 38)), (1, .int v1), (2, .int v2)] [0, 1, 2] rfl ?_
  unfold f_X12_set at hf
  refine r_iload_n 1 1 C dX12_set_0 rfl rfl rfl ?_
  refine r_i2l 2 C dX12_set_1 rfl ?_
  refine r_lconst (v := 0) 3 C dX12_set_2 (by decide) rfl ?_
  refine r_ldc2 (v := 3) 6 C tw_944 dX12_set_3 rfl ?_
  obtain ⟨r0, u0, h0, hf⟩ := bd_of hf
  refine r_cSI 9 [.long (Int32.toInt64 v1), .long (0 : Int64), .long (3 : Int64)] C hR (c_X12_in ad ((Int32.toInt64 v1)) ((0 : Int64)) ((3 : Int64))    u r0 u0 h0) q_X12_in tw_945 tw_946 (Nat.le_of_ble_eq_true rfl) (Nat.le_of_ble_eq_true rfl) rfl rfl (Nat.le_of_ble_eq_true rfl) dX12_set_6 rfl ?_
  refine r_if_eq 12 77 C dX12_set_9 (by decide) rfl (fun c0 => ?_) (fun c0 => ?_)
  · have hf := ifT c0 hf
    refine r_bipush (v := -3) 79 C dX12_set_77 (by decide) rfl ?_
    exact r_iret C E (pr1 hf) (pr2 hf) dX12_set_79
  · have hf := ifF c0 hf
    refine r_iload_n 13 2 C dX12_set_12 rfl rfl rfl ?_
    refine r_i2l 14 C dX12_set_13 rfl ?_
    refine r_iload_n 15 1 C dX12_set_14 rfl rfl rfl ?_
    refine r_if_ne 18 24 C dX12_set_15 (by decide) rfl (fun c1 => ?_) (fun c1 => ?_)
    · have hf := ifF c1 hf
      refine r_iload_n 25 1 C dX12_set_24 rfl rfl rfl ?_
      refine r_iconst (v := 3) 26 C dX12_set_25 (by decide) rfl ?_
      refine r_icmp_ne 29 35 C dX12_set_26 (by decide) rfl (fun c2 => ?_) (fun c2 => ?_)
      · have hf := ifF c2 hf
        refine r_lconst (v := 0) 36 C dX12_set_35 (by decide) rfl ?_
        refine r_sub [(0, .ref (ad 38)), (1, .int v1), (2, .int v2)] [0, 1, 2] rfl ?_
        exact w_X12_set_36 C hR E   v1 v2 ((Int32.toInt64 v2)) ((0 : Int64))     u0 hf
      · have hf := ifT c2 hf
        refine r_ldc2 (v := -35) 32 C tw_949 dX12_set_29 rfl ?_
        refine r_goto 36 C dX12_set_32 (by decide) ?_
        refine r_sub [(0, .ref (ad 38)), (1, .int v1), (2, .int v2)] [0, 1, 2] rfl ?_
        exact w_X12_set_36 C hR E   v1 v2 ((Int32.toInt64 v2)) ((-35 : Int64))     u0 hf
    · have hf := ifT c1 hf
      refine r_ldc2 (v := -89) 21 C tw_948 dX12_set_18 rfl ?_
      refine r_goto 36 C dX12_set_21 (by decide) ?_
      refine r_sub [(0, .ref (ad 38)), (1, .int v1), (2, .int v2)] [0, 1, 2] rfl ?_
      exact w_X12_set_36 C hR E   v1 v2 ((Int32.toInt64 v2)) ((-89 : Int64))     u0 hf
def f_X12_isHeading (v0 : Int32) (u : S2) : Option (Int32 × S2) := bd (f_X12_in ((Int32.toInt64 v0)) ((0 : Int64)) ((35999 : Int64)) u) (fun r0 u0 => ck (isB r0) (some (r0, u0)))
set_option maxRecDepth 20000 in
theorem c_X12_isHeading (ad : Nat → Nat) (v0 : Int32)  (u : S2) (r : Int32) (w : S2) (hf : f_X12_isHeading v0 u = some (r, w)) : HI yX12_isHeading cX12_isHeading 1 (some .boolean) 1 25 ad [.int v0] u r w := by
  refine HI_of (by decide) (Nat.le_of_ble_eq_true rfl) (fun K C hR E => ?_)
  refine r_sub [(0, .int v0)] [0] rfl ?_
  unfold f_X12_isHeading at hf
  refine r_iload_n 1 0 C dX12_isHeading_0 rfl rfl rfl ?_
  refine r_i2l 2 C dX12_isHeading_1 rfl ?_
  refine r_lconst (v := 0) 3 C dX12_isHeading_2 (by decide) rfl ?_
  refine r_ldc2 (v := 35999) 6 C tw_961 dX12_isHeading_3 rfl ?_
  obtain ⟨r0, u0, h0, hf⟩ := bd_of hf
  refine r_cSI 9 [.long (Int32.toInt64 v0), .long (0 : Int64), .long (35999 : Int64)] C hR (c_X12_in ad ((Int32.toInt64 v0)) ((0 : Int64)) ((35999 : Int64))    u r0 u0 h0) q_X12_in tw_945 tw_946 (Nat.le_of_ble_eq_true rfl) (Nat.le_of_ble_eq_true rfl) rfl rfl (Nat.le_of_ble_eq_true rfl) dX12_isHeading_6 rfl ?_
  obtain ⟨hc0, hf⟩ := ck_of hf
  exact r_zret C E (isB_nar hc0) (pr1 hf) (pr2 hf) dX12_isHeading_9
def f_X12_head (v1 : Int32) (u : S2) : Option (Int32 × S2) := bd (f_X12_isHeading v1 u) (fun r0 u0 => (if r0 = 0 then some ((-3 : Int32), u0) else nm (u0 40 0) (fun x0 => nm (wr u0 40 0 v1) (fun u1 => some (x0, u1)))))
set_option maxRecDepth 20000 in
theorem c_X12_head (ad : Nat → Nat) (v1 : Int32)  (u : S2) (r : Int32) (w : S2) (hf : f_X12_head v1 u = some (r, w)) : HI yX12_head cX12_head 3 (some .int) 2 45 ad [.ref (ad 38), .int v1] u r w := by
  refine HI_of (by decide) (Nat.le_of_ble_eq_true rfl) (fun K C hR E => ?_)
  refine r_sub [(0, .ref (ad 38)), (1, .int v1)] [0, 1] rfl ?_
  unfold f_X12_head at hf
  refine r_iload_n 1 1 C dX12_head_0 rfl rfl rfl ?_
  obtain ⟨r0, u0, h0, hf⟩ := bd_of hf
  refine r_cSI 4 [.int v1] C hR (c_X12_isHeading ad v1  u r0 u0 h0) q_X12_isHeading tw_958 tw_959 (Nat.le_of_ble_eq_true rfl) (Nat.le_of_ble_eq_true rfl) rfl rfl (Nat.le_of_ble_eq_true rfl) dX12_head_1 rfl ?_
  refine r_if_ne 7 10 C dX12_head_4 (by decide) rfl (fun c0 => ?_) (fun c0 => ?_)
  · have hf := ifF c0 hf
    refine r_aload_n 11 0 C dX12_head_10 rfl rfl rfl ?_
    refine r_get 14 38 1 C inX12 (wd_38 ad u0) rfl (by decide) tw_829 rfl rfl dX12_head_11 rfl ?_
    refine r_iconst (v := 0) 15 C dX12_head_14 (by decide) rfl ?_
    refine r_iaload 16 40 2 C (wd_40 ad u0) (by decide) dX12_head_15 rfl ?_
    obtain ⟨x0, ex0, hf⟩ := nm_of hf
    refine r_nm ex0 ?_
    refine r_istore_n 17 [(0, .ref (ad 38)), (1, .int v1), (2, .int x0)] [1, 2, 0] C dX12_head_16 rfl (by decide) rfl rfl ?_
    refine r_aload_n 18 0 C dX12_head_17 rfl rfl rfl ?_
    refine r_get 21 38 1 C inX12 (wd_38 ad u0) rfl (by decide) tw_829 rfl rfl dX12_head_18 rfl ?_
    refine r_iconst (v := 0) 22 C dX12_head_21 (by decide) rfl ?_
    refine r_iload_n 23 1 C dX12_head_22 rfl rfl rfl ?_
    refine r_iastore 24 40 2 C (wd_40 ad u0) (sA_40 ad u0) (by decide) dX12_head_23 rfl ?_
    obtain ⟨u1, eu1, hf⟩ := nm_of hf
    refine r_st eu1 ?_
    refine r_iload_n 25 2 C dX12_head_24 rfl rfl rfl ?_
    exact r_iret C E (pr1 hf) (pr2 hf) dX12_head_25
  · have hf := ifT c0 hf
    refine r_bipush (v := -3) 9 C dX12_head_7 (by decide) rfl ?_
    exact r_iret C E (pr1 hf) (pr2 hf) dX12_head_9
def f_X12_sea (v1 : Int32) (u : S2) : Option (Int32 × S2) := bd (f_X12_in ((Int32.toInt64 v1)) ((-999 : Int64)) ((999 : Int64)) u) (fun r0 u0 => (if r0 = 0 then some ((-3 : Int32), u0) else (if (u0 38 5) = (24 : Int32) then some ((-5 : Int32), u0) else ck (inb (u0 38 5) 24) (nm (wr u0 43 (Int32.toNatClampNeg (u0 38 5)) v1) (fun u1 => nm ((u1 38 5) + (1 : Int32)) (fun x0 => nm (wr u1 38 5 x0) (fun u2 => some (u2 38 5, u2))))))))
set_option maxRecDepth 20000 in
theorem c_X12_sea (ad : Nat → Nat) (v1 : Int32)  (u : S2) (r : Int32) (w : S2) (hf : f_X12_sea v1 u = some (r, w)) : HI yX12_sea cX12_sea 2 (some .int) 1 25 ad [.ref (ad 38), .int v1] u r w := by
  refine HI_of (by decide) (Nat.le_of_ble_eq_true rfl) (fun K C hR E => ?_)
  refine r_sub [(0, .ref (ad 38)), (1, .int v1)] [0, 1] rfl ?_
  unfold f_X12_sea at hf
  refine r_iload_n 1 1 C dX12_sea_0 rfl rfl rfl ?_
  refine r_i2l 2 C dX12_sea_1 rfl ?_
  refine r_ldc2 (v := -999) 5 C tw_966 dX12_sea_2 rfl ?_
  refine r_ldc2 (v := 999) 8 C tw_967 dX12_sea_5 rfl ?_
  obtain ⟨r0, u0, h0, hf⟩ := bd_of hf
  refine r_cSI 11 [.long (Int32.toInt64 v1), .long (-999 : Int64), .long (999 : Int64)] C hR (c_X12_in ad ((Int32.toInt64 v1)) ((-999 : Int64)) ((999 : Int64))    u r0 u0 h0) q_X12_in tw_945 tw_946 (Nat.le_of_ble_eq_true rfl) (Nat.le_of_ble_eq_true rfl) rfl rfl (Nat.le_of_ble_eq_true rfl) dX12_sea_8 rfl ?_
  refine r_if_ne 14 17 C dX12_sea_11 (by decide) rfl (fun c0 => ?_) (fun c0 => ?_)
  · have hf := ifF c0 hf
    refine r_aload_n 18 0 C dX12_sea_17 rfl rfl rfl ?_
    refine r_get 21 38 5 C inX12 (wd_38 ad u0) rfl (by decide) tw_833 rfl rfl dX12_sea_18 rfl ?_
    refine r_bipush (v := 24) 23 C dX12_sea_21 (by decide) rfl ?_
    refine r_icmp_ne 26 29 C dX12_sea_23 (by decide) rfl (fun c1 => ?_) (fun c1 => ?_)
    · have hf := ifF c1 hf
      refine r_aload_n 30 0 C dX12_sea_29 rfl rfl rfl ?_
      refine r_get 33 38 4 C inX12 (wd_38 ad u0) rfl (by decide) tw_832 rfl rfl dX12_sea_30 rfl ?_
      refine r_aload_n 34 0 C dX12_sea_33 rfl rfl rfl ?_
      refine r_get 37 38 5 C inX12 (wd_38 ad u0) rfl (by decide) tw_833 rfl rfl dX12_sea_34 rfl ?_
      refine r_iload_n 38 1 C dX12_sea_37 rfl rfl rfl ?_
      obtain ⟨hc0, hf⟩ := ck_of hf
      refine r_iastore 39 43 24 C (wd_43 ad u0) (sA_43 ad u0) hc0 dX12_sea_38 rfl ?_
      obtain ⟨u1, eu1, hf⟩ := nm_of hf
      refine r_st eu1 ?_
      refine r_aload_n 40 0 C dX12_sea_39 rfl rfl rfl ?_
      refine r_dup 41 C dX12_sea_40 rfl rfl ?_
      refine r_get 44 38 5 C inX12 (wd_38 ad u1) rfl (by decide) tw_833 rfl rfl dX12_sea_41 rfl ?_
      refine r_iconst (v := 1) 45 C dX12_sea_44 (by decide) rfl ?_
      refine r_iadd 46 C dX12_sea_45 rfl ?_
      obtain ⟨x0, ex0, hf⟩ := nm_of hf
      refine r_nm ex0 ?_
      refine r_put 49 38 5 C inX12 tyX12_ok nmX12 (wd_38 ad u1) (sF_38_5 ad u1 x0) rfl (by decide) tw_833 rfl rfl (tyX12_ok 5 (by decide)) rfl rfl (Nat.le_of_ble_eq_true rfl) dX12_sea_46 rfl ?_
      obtain ⟨u2, eu2, hf⟩ := nm_of hf
      refine r_st eu2 ?_
      refine r_aload_n 50 0 C dX12_sea_49 rfl rfl rfl ?_
      refine r_get 53 38 5 C inX12 (wd_38 ad u2) rfl (by decide) tw_833 rfl rfl dX12_sea_50 rfl ?_
      exact r_iret C E (pr1 hf) (pr2 hf) dX12_sea_53
    · have hf := ifT c1 hf
      refine r_bipush (v := -5) 28 C dX12_sea_26 (by decide) rfl ?_
      exact r_iret C E (pr1 hf) (pr2 hf) dX12_sea_28
  · have hf := ifT c0 hf
    refine r_bipush (v := -3) 16 C dX12_sea_14 (by decide) rfl ?_
    exact r_iret C E (pr1 hf) (pr2 hf) dX12_sea_16
def f_X12_calm  (u : S2) : Option (Int32 × S2) := nm (u 38 5) (fun x0 => nm (wr u 38 5 (0 : Int32)) (fun u0 => some (x0, u0)))
set_option maxRecDepth 20000 in
theorem c_X12_calm (ad : Nat → Nat)   (u : S2) (r : Int32) (w : S2) (hf : f_X12_calm  u = some (r, w)) : HI yX12_calm cX12_calm 2 (some .int) 0 0 ad [.ref (ad 38)] u r w := by
  refine HI_of (by decide) (Nat.le_of_ble_eq_true rfl) (fun K C hR E => ?_)
  refine r_sub [(0, .ref (ad 38))] [0] rfl ?_
  unfold f_X12_calm at hf
  refine r_aload_n 1 0 C dX12_calm_0 rfl rfl rfl ?_
  refine r_get 4 38 5 C inX12 (wd_38 ad u) rfl (by decide) tw_833 rfl rfl dX12_calm_1 rfl ?_
  obtain ⟨x0, ex0, hf⟩ := nm_of hf
  refine r_nm ex0 ?_
  refine r_istore_n 5 [(0, .ref (ad 38)), (1, .int x0)] [1, 0] C dX12_calm_4 rfl (by decide) rfl rfl ?_
  refine r_aload_n 6 0 C dX12_calm_5 rfl rfl rfl ?_
  refine r_iconst (v := 0) 7 C dX12_calm_6 (by decide) rfl ?_
  refine r_put 10 38 5 C inX12 tyX12_ok nmX12 (wd_38 ad u) (sF_38_5 ad u (0 : Int32)) rfl (by decide) tw_833 rfl rfl (tyX12_ok 5 (by decide)) rfl rfl (Nat.le_of_ble_eq_true rfl) dX12_calm_7 rfl ?_
  obtain ⟨u0, eu0, hf⟩ := nm_of hf
  refine r_st eu0 ?_
  refine r_iload_n 11 1 C dX12_calm_10 rfl rfl rfl ?_
  exact r_iret C E (pr1 hf) (pr2 hf) dX12_calm_11
def f_X12_kind (v1 : Int32) (v2 : Int32) (u : S2) : Option (Int32 × S2) := bd (f_X12_isPointer v1 u) (fun r0 u0 => (if r0 = 0 then some ((-2 : Int32), u0) else bd (f_X12_in ((Int32.toInt64 v2)) ((0 : Int64)) ((5 : Int64)) u0) (fun r1 u1 => (if r1 = 0 then some ((-3 : Int32), u1) else ck (inb v1 3) (nm (u1 44 (Int32.toNatClampNeg v1)) (fun x0 => ck (inb v1 3) (nm (wr u1 44 (Int32.toNatClampNeg v1) v2) (fun u2 => ck (inb v1 6) (nm (wr u2 48 (Int32.toNatClampNeg v1) (0 : Int32)) (fun u3 => ck (inb v1 6) (nm (wr u3 49 (Int32.toNatClampNeg v1) (0 : Int32)) (fun u4 => some (x0, u4)))))))))))))
set_option maxRecDepth 20000 in
theorem c_X12_kind (ad : Nat → Nat) (v1 : Int32) (v2 : Int32)   (u : S2) (r : Int32) (w : S2) (hf : f_X12_kind v1 v2 u = some (r, w)) : HI yX12_kind cX12_kind 4 (some .int) 2 45 ad [.ref (ad 38), .int v1, .int v2] u r w := by
  refine HI_of (by decide) (Nat.le_of_ble_eq_true rfl) (fun K C hR E => ?_)
  refine r_sub [(0, .ref (ad 38)), (1, .int v1), (2, .int v2)] [0, 1, 2] rfl ?_
  unfold f_X12_kind at hf
  refine r_iload_n 1 1 C dX12_kind_0 rfl rfl rfl ?_
  obtain ⟨r0, u0, h0, hf⟩ := bd_of hf
  refine r_cSI 4 [.int v1] C hR (c_X12_isPointer ad v1  u r0 u0 h0) q_X12_isPointer tw_976 tw_977 (Nat.le_of_ble_eq_true rfl) (Nat.le_of_ble_eq_true rfl) rfl rfl (Nat.le_of_ble_eq_true rfl) dX12_kind_1 rfl ?_
  refine r_if_ne 7 10 C dX12_kind_4 (by decide) rfl (fun c0 => ?_) (fun c0 => ?_)
  · have hf := ifF c0 hf
    refine r_iload_n 11 2 C dX12_kind_10 rfl rfl rfl ?_
    refine r_i2l 12 C dX12_kind_11 rfl ?_
    refine r_lconst (v := 0) 13 C dX12_kind_12 (by decide) rfl ?_
    refine r_ldc2 (v := 5) 16 C tw_980 dX12_kind_13 rfl ?_
    obtain ⟨r1, u1, h1, hf⟩ := bd_of hf
    refine r_cSI 19 [.long (Int32.toInt64 v2), .long (0 : Int64), .long (5 : Int64)] C hR (c_X12_in ad ((Int32.toInt64 v2)) ((0 : Int64)) ((5 : Int64))    u0 r1 u1 h1) q_X12_in tw_945 tw_946 (Nat.le_of_ble_eq_true rfl) (Nat.le_of_ble_eq_true rfl) rfl rfl (Nat.le_of_ble_eq_true rfl) dX12_kind_16 rfl ?_
    refine r_if_ne 22 25 C dX12_kind_19 (by decide) rfl (fun c1 => ?_) (fun c1 => ?_)
    · have hf := ifF c1 hf
      refine r_aload_n 26 0 C dX12_kind_25 rfl rfl rfl ?_
      refine r_get 29 38 6 C inX12 (wd_38 ad u1) rfl (by decide) tw_834 rfl rfl dX12_kind_26 rfl ?_
      refine r_iload_n 30 1 C dX12_kind_29 rfl rfl rfl ?_
      obtain ⟨hc0, hf⟩ := ck_of hf
      refine r_iaload 31 44 3 C (wd_44 ad u1) hc0 dX12_kind_30 rfl ?_
      obtain ⟨x0, ex0, hf⟩ := nm_of hf
      refine r_nm ex0 ?_
      refine r_istore_n 32 [(0, .ref (ad 38)), (1, .int v1), (2, .int v2), (3, .int x0)] [1, 2, 3, 0] C dX12_kind_31 rfl (by decide) rfl rfl ?_
      refine r_aload_n 33 0 C dX12_kind_32 rfl rfl rfl ?_
      refine r_get 36 38 6 C inX12 (wd_38 ad u1) rfl (by decide) tw_834 rfl rfl dX12_kind_33 rfl ?_
      refine r_iload_n 37 1 C dX12_kind_36 rfl rfl rfl ?_
      refine r_iload_n 38 2 C dX12_kind_37 rfl rfl rfl ?_
      obtain ⟨hc1, hf⟩ := ck_of hf
      refine r_iastore 39 44 3 C (wd_44 ad u1) (sA_44 ad u1) hc1 dX12_kind_38 rfl ?_
      obtain ⟨u2, eu2, hf⟩ := nm_of hf
      refine r_st eu2 ?_
      refine r_aload_n 40 0 C dX12_kind_39 rfl rfl rfl ?_
      refine r_get 43 38 10 C inX12 (wd_38 ad u2) rfl (by decide) tw_838 rfl rfl dX12_kind_40 rfl ?_
      refine r_iload_n 44 1 C dX12_kind_43 rfl rfl rfl ?_
      refine r_iconst (v := 0) 45 C dX12_kind_44 (by decide) rfl ?_
      obtain ⟨hc2, hf⟩ := ck_of hf
      refine r_iastore 46 48 6 C (wd_48 ad u2) (sA_48 ad u2) hc2 dX12_kind_45 rfl ?_
      obtain ⟨u3, eu3, hf⟩ := nm_of hf
      refine r_st eu3 ?_
      refine r_aload_n 47 0 C dX12_kind_46 rfl rfl rfl ?_
      refine r_get 50 38 11 C inX12 (wd_38 ad u3) rfl (by decide) tw_839 rfl rfl dX12_kind_47 rfl ?_
      refine r_iload_n 51 1 C dX12_kind_50 rfl rfl rfl ?_
      refine r_iconst (v := 0) 52 C dX12_kind_51 (by decide) rfl ?_
      obtain ⟨hc3, hf⟩ := ck_of hf
      refine r_iastore 53 49 6 C (wd_49 ad u3) (sA_49 ad u3) hc3 dX12_kind_52 rfl ?_
      obtain ⟨u4, eu4, hf⟩ := nm_of hf
      refine r_st eu4 ?_
      refine r_iload_n 54 3 C dX12_kind_53 rfl rfl rfl ?_
      exact r_iret C E (pr1 hf) (pr2 hf) dX12_kind_54
    · have hf := ifT c1 hf
      refine r_bipush (v := -3) 24 C dX12_kind_22 (by decide) rfl ?_
      exact r_iret C E (pr1 hf) (pr2 hf) dX12_kind_24
  · have hf := ifT c0 hf
    refine r_bipush (v := -2) 9 C dX12_kind_7 (by decide) rfl ?_
    exact r_iret C E (pr1 hf) (pr2 hf) dX12_kind_9
def f_X12_tune_133  (v4 : Int32) (t1 : Int32) (t2 : Int32) (u : S2) : Option (Int32 × S2) := ck (inb t1 3) (nm (wr u 47 (Int32.toNatClampNeg t1) t2) (fun u0 => some (v4, u0)))
set_option maxRecDepth 20000 in
theorem w_X12_tune_133 {K : Ctx} {ad : Nat → Nat} (C : Cx K ad cX12_tune 5 yX12_tune.cls (some .int)) (hR : Rm K 2 45) {r : Int32} {w : S2} (E : EI K ad r w)  (v4 : Int32) (t1 : Int32) (t2 : Int32)    (u : S2) (hf : f_X12_tune_133  v4 t1 t2 u = some (r, w)) : RW K ad 5 133 [(4, .int v4)] [.int t2, .int t1, .ref (ad 47)] u := by
  unfold f_X12_tune_133 at hf
  obtain ⟨hc0, hf⟩ := ck_of hf
  refine r_iastore 134 47 3 C (wd_47 ad u) (sA_47 ad u) hc0 dX12_tune_133 rfl ?_
  obtain ⟨u0, eu0, hf⟩ := nm_of hf
  refine r_st eu0 ?_
  refine r_iload 136 0 C dX12_tune_134 rfl rfl ?_
  exact r_iret C E (pr1 hf) (pr2 hf) dX12_tune_136
def f_X12_tune_112  (v1 : Int32) (v2 : Int32) (v3 : Int32) (v4 : Int32) (t1 : Int32) (t2 : Int32) (u : S2) : Option (Int32 × S2) := ck (inb t1 3) (nm (wr u 46 (Int32.toNatClampNeg t1) t2) (fun u0 => (if v2 = (2 : Int32) then f_X12_tune_133   v4 v1 v3 u0 else ck (inb v1 3) (nm (u0 47 (Int32.toNatClampNeg v1)) (fun x0 => f_X12_tune_133   v4 v1 x0 u0)))))
set_option maxRecDepth 20000 in
theorem w_X12_tune_112 {K : Ctx} {ad : Nat → Nat} (C : Cx K ad cX12_tune 5 yX12_tune.cls (some .int)) (hR : Rm K 2 45) {r : Int32} {w : S2} (E : EI K ad r w)  (v1 : Int32) (v2 : Int32) (v3 : Int32) (v4 : Int32) (t1 : Int32) (t2 : Int32)       (u : S2) (hf : f_X12_tune_112  v1 v2 v3 v4 t1 t2 u = some (r, w)) : RW K ad 5 112 [(0, .ref (ad 38)), (1, .int v1), (2, .int v2), (3, .int v3), (4, .int v4)] [.int t2, .int t1, .ref (ad 46)] u := by
  unfold f_X12_tune_112 at hf
  obtain ⟨hc0, hf⟩ := ck_of hf
  refine r_iastore 113 46 3 C (wd_46 ad u) (sA_46 ad u) hc0 dX12_tune_112 rfl ?_
  obtain ⟨u0, eu0, hf⟩ := nm_of hf
  refine r_st eu0 ?_
  refine r_aload_n 114 0 C dX12_tune_113 rfl rfl rfl ?_
  refine r_get 117 38 9 C inX12 (wd_38 ad u0) rfl (by decide) tw_837 rfl rfl dX12_tune_114 rfl ?_
  refine r_iload_n 118 1 C dX12_tune_117 rfl rfl rfl ?_
  refine r_iload_n 119 2 C dX12_tune_118 rfl rfl rfl ?_
  refine r_iconst (v := 2) 120 C dX12_tune_119 (by decide) rfl ?_
  refine r_icmp_ne 123 127 C dX12_tune_120 (by decide) rfl (fun c0 => ?_) (fun c0 => ?_)
  · have hf := ifF c0 hf
    refine r_aload_n 128 0 C dX12_tune_127 rfl rfl rfl ?_
    refine r_get 131 38 9 C inX12 (wd_38 ad u0) rfl (by decide) tw_837 rfl rfl dX12_tune_128 rfl ?_
    refine r_iload_n 132 1 C dX12_tune_131 rfl rfl rfl ?_
    obtain ⟨hc1, hf⟩ := ck_of hf
    refine r_iaload 133 47 3 C (wd_47 ad u0) hc1 dX12_tune_132 rfl ?_
    obtain ⟨x0, ex0, hf⟩ := nm_of hf
    refine r_nm ex0 ?_
    refine r_sub [(4, .int v4)] [4] rfl ?_
    exact w_X12_tune_133 C hR E   v4 v1 x0    u0 hf
  · have hf := ifT c0 hf
    refine r_iload_n 124 3 C dX12_tune_123 rfl rfl rfl ?_
    refine r_goto 133 C dX12_tune_124 (by decide) ?_
    refine r_sub [(4, .int v4)] [4] rfl ?_
    exact w_X12_tune_133 C hR E   v4 v1 v3    u0 hf
def f_X12_tune_91  (v1 : Int32) (v2 : Int32) (v3 : Int32) (v4 : Int32) (t1 : Int32) (t2 : Int32) (u : S2) : Option (Int32 × S2) := ck (inb t1 3) (nm (wr u 45 (Int32.toNatClampNeg t1) t2) (fun u0 => (if v2 = (1 : Int32) then f_X12_tune_112   v1 v2 v3 v4 v1 v3 u0 else ck (inb v1 3) (nm (u0 46 (Int32.toNatClampNeg v1)) (fun x0 => f_X12_tune_112   v1 v2 v3 v4 v1 x0 u0)))))
set_option maxRecDepth 20000 in
theorem w_X12_tune_91 {K : Ctx} {ad : Nat → Nat} (C : Cx K ad cX12_tune 5 yX12_tune.cls (some .int)) (hR : Rm K 2 45) {r : Int32} {w : S2} (E : EI K ad r w)  (v1 : Int32) (v2 : Int32) (v3 : Int32) (v4 : Int32) (t1 : Int32) (t2 : Int32)       (u : S2) (hf : f_X12_tune_91  v1 v2 v3 v4 t1 t2 u = some (r, w)) : RW K ad 5 91 [(0, .ref (ad 38)), (1, .int v1), (2, .int v2), (3, .int v3), (4, .int v4)] [.int t2, .int t1, .ref (ad 45)] u := by
  unfold f_X12_tune_91 at hf
  obtain ⟨hc0, hf⟩ := ck_of hf
  refine r_iastore 92 45 3 C (wd_45 ad u) (sA_45 ad u) hc0 dX12_tune_91 rfl ?_
  obtain ⟨u0, eu0, hf⟩ := nm_of hf
  refine r_st eu0 ?_
  refine r_aload_n 93 0 C dX12_tune_92 rfl rfl rfl ?_
  refine r_get 96 38 8 C inX12 (wd_38 ad u0) rfl (by decide) tw_836 rfl rfl dX12_tune_93 rfl ?_
  refine r_iload_n 97 1 C dX12_tune_96 rfl rfl rfl ?_
  refine r_iload_n 98 2 C dX12_tune_97 rfl rfl rfl ?_
  refine r_iconst (v := 1) 99 C dX12_tune_98 (by decide) rfl ?_
  refine r_icmp_ne 102 106 C dX12_tune_99 (by decide) rfl (fun c0 => ?_) (fun c0 => ?_)
  · have hf := ifF c0 hf
    refine r_aload_n 107 0 C dX12_tune_106 rfl rfl rfl ?_
    refine r_get 110 38 8 C inX12 (wd_38 ad u0) rfl (by decide) tw_836 rfl rfl dX12_tune_107 rfl ?_
    refine r_iload_n 111 1 C dX12_tune_110 rfl rfl rfl ?_
    obtain ⟨hc1, hf⟩ := ck_of hf
    refine r_iaload 112 46 3 C (wd_46 ad u0) hc1 dX12_tune_111 rfl ?_
    obtain ⟨x0, ex0, hf⟩ := nm_of hf
    refine r_nm ex0 ?_
    refine r_sub [(0, .ref (ad 38)), (1, .int v1), (2, .int v2), (3, .int v3), (4, .int v4)] [0, 1, 2, 3, 4] rfl ?_
    exact w_X12_tune_112 C hR E   v1 v2 v3 v4 v1 x0       u0 hf
  · have hf := ifT c0 hf
    refine r_iload_n 103 3 C dX12_tune_102 rfl rfl rfl ?_
    refine r_goto 112 C dX12_tune_103 (by decide) ?_
    refine r_sub [(0, .ref (ad 38)), (1, .int v1), (2, .int v2), (3, .int v3), (4, .int v4)] [0, 1, 2, 3, 4] rfl ?_
    exact w_X12_tune_112 C hR E   v1 v2 v3 v4 v1 v3       u0 hf
def f_X12_tune_70  (v1 : Int32) (v2 : Int32) (v3 : Int32) (t0 : Int32) (u : S2) : Option (Int32 × S2) := (if v2 = 0 then f_X12_tune_91   v1 v2 v3 t0 v1 v3 u else ck (inb v1 3) (nm (u 45 (Int32.toNatClampNeg v1)) (fun x0 => f_X12_tune_91   v1 v2 v3 t0 v1 x0 u)))
set_option maxRecDepth 20000 in
theorem w_X12_tune_70 {K : Ctx} {ad : Nat → Nat} (C : Cx K ad cX12_tune 5 yX12_tune.cls (some .int)) (hR : Rm K 2 45) {r : Int32} {w : S2} (E : EI K ad r w)  (v1 : Int32) (v2 : Int32) (v3 : Int32) (t0 : Int32)     (u : S2) (hf : f_X12_tune_70  v1 v2 v3 t0 u = some (r, w)) : RW K ad 5 70 [(0, .ref (ad 38)), (1, .int v1), (2, .int v2), (3, .int v3)] [.int t0] u := by
  unfold f_X12_tune_70 at hf
  refine r_istore 72 [(0, .ref (ad 38)), (1, .int v1), (2, .int v2), (3, .int v3), (4, .int t0)] [1, 2, 3, 4, 0] C dX12_tune_70 (by decide) rfl rfl ?_
  refine r_aload_n 73 0 C dX12_tune_72 rfl rfl rfl ?_
  refine r_get 76 38 7 C inX12 (wd_38 ad u) rfl (by decide) tw_835 rfl rfl dX12_tune_73 rfl ?_
  refine r_iload_n 77 1 C dX12_tune_76 rfl rfl rfl ?_
  refine r_iload_n 78 2 C dX12_tune_77 rfl rfl rfl ?_
  refine r_if_ne 81 85 C dX12_tune_78 (by decide) rfl (fun c0 => ?_) (fun c0 => ?_)
  · have hf := ifF c0 hf
    refine r_aload_n 86 0 C dX12_tune_85 rfl rfl rfl ?_
    refine r_get 89 38 7 C inX12 (wd_38 ad u) rfl (by decide) tw_835 rfl rfl dX12_tune_86 rfl ?_
    refine r_iload_n 90 1 C dX12_tune_89 rfl rfl rfl ?_
    obtain ⟨hc0, hf⟩ := ck_of hf
    refine r_iaload 91 45 3 C (wd_45 ad u) hc0 dX12_tune_90 rfl ?_
    obtain ⟨x0, ex0, hf⟩ := nm_of hf
    refine r_nm ex0 ?_
    refine r_sub [(0, .ref (ad 38)), (1, .int v1), (2, .int v2), (3, .int v3), (4, .int t0)] [0, 1, 2, 3, 4] rfl ?_
    exact w_X12_tune_91 C hR E   v1 v2 v3 t0 v1 x0       u hf
  · have hf := ifT c0 hf
    refine r_iload_n 82 3 C dX12_tune_81 rfl rfl rfl ?_
    refine r_goto 91 C dX12_tune_82 (by decide) ?_
    refine r_sub [(0, .ref (ad 38)), (1, .int v1), (2, .int v2), (3, .int v3), (4, .int t0)] [0, 1, 2, 3, 4] rfl ?_
    exact w_X12_tune_91 C hR E   v1 v2 v3 t0 v1 v3       u hf
def f_X12_tune (v1 : Int32) (v2 : Int32) (v3 : Int32) (u : S2) : Option (Int32 × S2) := bd (f_X12_isPointer v1 u) (fun r0 u0 => (if r0 = 0 then some ((-2 : Int32), u0) else bd (f_X12_in ((Int32.toInt64 v2)) ((0 : Int64)) ((2 : Int64)) u0) (fun r1 u1 => (if r1 = 0 then some ((-3 : Int32), u1) else bd (f_X12_in ((Int32.toInt64 v3)) ((0 : Int64)) ((99 : Int64)) u1) (fun r2 u2 => (if r2 = 0 then some ((-3 : Int32), u2) else (if v2 = 0 then ck (inb v1 3) (nm (u2 45 (Int32.toNatClampNeg v1)) (fun x2 => f_X12_tune_70   v1 v2 v3 x2 u2)) else (if v2 = (1 : Int32) then ck (inb v1 3) (nm (u2 46 (Int32.toNatClampNeg v1)) (fun x1 => f_X12_tune_70   v1 v2 v3 x1 u2)) else ck (inb v1 3) (nm (u2 47 (Int32.toNatClampNeg v1)) (fun x0 => f_X12_tune_70   v1 v2 v3 x0 u2))))))))))
set_option maxRecDepth 20000 in
theorem c_X12_tune (ad : Nat → Nat) (v1 : Int32) (v2 : Int32) (v3 : Int32)    (u : S2) (r : Int32) (w : S2) (hf : f_X12_tune v1 v2 v3 u = some (r, w)) : HI yX12_tune cX12_tune 5 (some .int) 2 45 ad [.ref (ad 38), .int v1, .int v2, .int v3] u r w := by
  refine HI_of (by decide) (Nat.le_of_ble_eq_true rfl) (fun K C hR E => ?_)
  refine r_sub [(0, .ref (ad 38)), (1, .int v1), (2, .int v2), (3, .int v3)] [0, 1, 2, 3] rfl ?_
  unfold f_X12_tune at hf
  refine r_iload_n 1 1 C dX12_tune_0 rfl rfl rfl ?_
  obtain ⟨r0, u0, h0, hf⟩ := bd_of hf
  refine r_cSI 4 [.int v1] C hR (c_X12_isPointer ad v1  u r0 u0 h0) q_X12_isPointer tw_976 tw_977 (Nat.le_of_ble_eq_true rfl) (Nat.le_of_ble_eq_true rfl) rfl rfl (Nat.le_of_ble_eq_true rfl) dX12_tune_1 rfl ?_
  refine r_if_ne 7 10 C dX12_tune_4 (by decide) rfl (fun c0 => ?_) (fun c0 => ?_)
  · have hf := ifF c0 hf
    refine r_iload_n 11 2 C dX12_tune_10 rfl rfl rfl ?_
    refine r_i2l 12 C dX12_tune_11 rfl ?_
    refine r_lconst (v := 0) 13 C dX12_tune_12 (by decide) rfl ?_
    refine r_ldc2 (v := 2) 16 C tw_979 dX12_tune_13 rfl ?_
    obtain ⟨r1, u1, h1, hf⟩ := bd_of hf
    refine r_cSI 19 [.long (Int32.toInt64 v2), .long (0 : Int64), .long (2 : Int64)] C hR (c_X12_in ad ((Int32.toInt64 v2)) ((0 : Int64)) ((2 : Int64))    u0 r1 u1 h1) q_X12_in tw_945 tw_946 (Nat.le_of_ble_eq_true rfl) (Nat.le_of_ble_eq_true rfl) rfl rfl (Nat.le_of_ble_eq_true rfl) dX12_tune_16 rfl ?_
    refine r_if_eq 22 34 C dX12_tune_19 (by decide) rfl (fun c1 => ?_) (fun c1 => ?_)
    · have hf := ifT c1 hf
      refine r_bipush (v := -3) 36 C dX12_tune_34 (by decide) rfl ?_
      exact r_iret C E (pr1 hf) (pr2 hf) dX12_tune_36
    · have hf := ifF c1 hf
      refine r_iload_n 23 3 C dX12_tune_22 rfl rfl rfl ?_
      refine r_i2l 24 C dX12_tune_23 rfl ?_
      refine r_lconst (v := 0) 25 C dX12_tune_24 (by decide) rfl ?_
      refine r_ldc2 (v := 99) 28 C tw_952 dX12_tune_25 rfl ?_
      obtain ⟨r2, u2, h2, hf⟩ := bd_of hf
      refine r_cSI 31 [.long (Int32.toInt64 v3), .long (0 : Int64), .long (99 : Int64)] C hR (c_X12_in ad ((Int32.toInt64 v3)) ((0 : Int64)) ((99 : Int64))    u1 r2 u2 h2) q_X12_in tw_945 tw_946 (Nat.le_of_ble_eq_true rfl) (Nat.le_of_ble_eq_true rfl) rfl rfl (Nat.le_of_ble_eq_true rfl) dX12_tune_28 rfl ?_
      refine r_if_ne 34 37 C dX12_tune_31 (by decide) rfl (fun c2 => ?_) (fun c2 => ?_)
      · have hf := ifF c2 hf
        refine r_iload_n 38 2 C dX12_tune_37 rfl rfl rfl ?_
        refine r_if_ne 41 50 C dX12_tune_38 (by decide) rfl (fun c3 => ?_) (fun c3 => ?_)
        · have hf := ifF c3 hf
          refine r_iload_n 51 2 C dX12_tune_50 rfl rfl rfl ?_
          refine r_iconst (v := 1) 52 C dX12_tune_51 (by decide) rfl ?_
          refine r_icmp_ne 55 64 C dX12_tune_52 (by decide) rfl (fun c4 => ?_) (fun c4 => ?_)
          · have hf := ifF c4 hf
            refine r_aload_n 65 0 C dX12_tune_64 rfl rfl rfl ?_
            refine r_get 68 38 9 C inX12 (wd_38 ad u2) rfl (by decide) tw_837 rfl rfl dX12_tune_65 rfl ?_
            refine r_iload_n 69 1 C dX12_tune_68 rfl rfl rfl ?_
            obtain ⟨hc0, hf⟩ := ck_of hf
            refine r_iaload 70 47 3 C (wd_47 ad u2) hc0 dX12_tune_69 rfl ?_
            obtain ⟨x0, ex0, hf⟩ := nm_of hf
            refine r_nm ex0 ?_
            refine r_sub [(0, .ref (ad 38)), (1, .int v1), (2, .int v2), (3, .int v3)] [0, 1, 2, 3] rfl ?_
            exact w_X12_tune_70 C hR E   v1 v2 v3 x0     u2 hf
          · have hf := ifT c4 hf
            refine r_aload_n 56 0 C dX12_tune_55 rfl rfl rfl ?_
            refine r_get 59 38 8 C inX12 (wd_38 ad u2) rfl (by decide) tw_836 rfl rfl dX12_tune_56 rfl ?_
            refine r_iload_n 60 1 C dX12_tune_59 rfl rfl rfl ?_
            obtain ⟨hc1, hf⟩ := ck_of hf
            refine r_iaload 61 46 3 C (wd_46 ad u2) hc1 dX12_tune_60 rfl ?_
            obtain ⟨x1, ex1, hf⟩ := nm_of hf
            refine r_nm ex1 ?_
            refine r_goto 70 C dX12_tune_61 (by decide) ?_
            refine r_sub [(0, .ref (ad 38)), (1, .int v1), (2, .int v2), (3, .int v3)] [0, 1, 2, 3] rfl ?_
            exact w_X12_tune_70 C hR E   v1 v2 v3 x1     u2 hf
        · have hf := ifT c3 hf
          refine r_aload_n 42 0 C dX12_tune_41 rfl rfl rfl ?_
          refine r_get 45 38 7 C inX12 (wd_38 ad u2) rfl (by decide) tw_835 rfl rfl dX12_tune_42 rfl ?_
          refine r_iload_n 46 1 C dX12_tune_45 rfl rfl rfl ?_
          obtain ⟨hc2, hf⟩ := ck_of hf
          refine r_iaload 47 45 3 C (wd_45 ad u2) hc2 dX12_tune_46 rfl ?_
          obtain ⟨x2, ex2, hf⟩ := nm_of hf
          refine r_nm ex2 ?_
          refine r_goto 70 C dX12_tune_47 (by decide) ?_
          refine r_sub [(0, .ref (ad 38)), (1, .int v1), (2, .int v2), (3, .int v3)] [0, 1, 2, 3] rfl ?_
          exact w_X12_tune_70 C hR E   v1 v2 v3 x2     u2 hf
      · have hf := ifT c2 hf
        refine r_bipush (v := -3) 36 C dX12_tune_34 (by decide) rfl ?_
        exact r_iret C E (pr1 hf) (pr2 hf) dX12_tune_36
  · have hf := ifT c0 hf
    refine r_bipush (v := -2) 9 C dX12_tune_7 (by decide) rfl ?_
    exact r_iret C E (pr1 hf) (pr2 hf) dX12_tune_9
def f_X12_isOff (v0 : Int32) (u : S2) : Option (Int32 × S2) := bd (f_X12_in ((Int32.toInt64 v0)) ((-18000 : Int64)) ((17999 : Int64)) u) (fun r0 u0 => ck (isB r0) (some (r0, u0)))
set_option maxRecDepth 20000 in
theorem c_X12_isOff (ad : Nat → Nat) (v0 : Int32)  (u : S2) (r : Int32) (w : S2) (hf : f_X12_isOff v0 u = some (r, w)) : HI yX12_isOff cX12_isOff 1 (some .boolean) 1 25 ad [.int v0] u r w := by
  refine HI_of (by decide) (Nat.le_of_ble_eq_true rfl) (fun K C hR E => ?_)
  refine r_sub [(0, .int v0)] [0] rfl ?_
  unfold f_X12_isOff at hf
  refine r_iload_n 1 0 C dX12_isOff_0 rfl rfl rfl ?_
  refine r_i2l 2 C dX12_isOff_1 rfl ?_
  refine r_ldc2 (v := -18000) 5 C tw_992 dX12_isOff_2 rfl ?_
  refine r_ldc2 (v := 17999) 8 C tw_993 dX12_isOff_5 rfl ?_
  obtain ⟨r0, u0, h0, hf⟩ := bd_of hf
  refine r_cSI 11 [.long (Int32.toInt64 v0), .long (-18000 : Int64), .long (17999 : Int64)] C hR (c_X12_in ad ((Int32.toInt64 v0)) ((-18000 : Int64)) ((17999 : Int64))    u r0 u0 h0) q_X12_in tw_945 tw_946 (Nat.le_of_ble_eq_true rfl) (Nat.le_of_ble_eq_true rfl) rfl rfl (Nat.le_of_ble_eq_true rfl) dX12_isOff_8 rfl ?_
  obtain ⟨hc0, hf⟩ := ck_of hf
  exact r_zret C E (isB_nar hc0) (pr1 hf) (pr2 hf) dX12_isOff_11
def f_X12_off (v1 : Int32) (v2 : Int32) (u : S2) : Option (Int32 × S2) := bd (f_X12_isPointer v1 u) (fun r0 u0 => (if r0 = 0 then some ((-2 : Int32), u0) else bd (f_X12_isOff v2 u0) (fun r1 u1 => (if r1 = 0 then some ((-3 : Int32), u1) else ck (inb v1 6) (nm (wr u1 48 (Int32.toNatClampNeg v1) v2) (fun u2 => ck (inb v1 6) (nm (wr u2 49 (Int32.toNatClampNeg v1) (0 : Int32)) (fun u3 => some ((1 : Int32), u3)))))))))
set_option maxRecDepth 20000 in
theorem c_X12_off (ad : Nat → Nat) (v1 : Int32) (v2 : Int32)   (u : S2) (r : Int32) (w : S2) (hf : f_X12_off v1 v2 u = some (r, w)) : HI yX12_off cX12_off 3 (some .int) 2 45 ad [.ref (ad 38), .int v1, .int v2] u r w := by
  refine HI_of (by decide) (Nat.le_of_ble_eq_true rfl) (fun K C hR E => ?_)
  refine r_sub [(0, .ref (ad 38)), (1, .int v1), (2, .int v2)] [0, 1, 2] rfl ?_
  unfold f_X12_off at hf
  refine r_iload_n 1 1 C dX12_off_0 rfl rfl rfl ?_
  obtain ⟨r0, u0, h0, hf⟩ := bd_of hf
  refine r_cSI 4 [.int v1] C hR (c_X12_isPointer ad v1  u r0 u0 h0) q_X12_isPointer tw_976 tw_977 (Nat.le_of_ble_eq_true rfl) (Nat.le_of_ble_eq_true rfl) rfl rfl (Nat.le_of_ble_eq_true rfl) dX12_off_1 rfl ?_
  refine r_if_ne 7 10 C dX12_off_4 (by decide) rfl (fun c0 => ?_) (fun c0 => ?_)
  · have hf := ifF c0 hf
    refine r_iload_n 11 2 C dX12_off_10 rfl rfl rfl ?_
    obtain ⟨r1, u1, h1, hf⟩ := bd_of hf
    refine r_cSI 14 [.int v2] C hR (c_X12_isOff ad v2  u0 r1 u1 h1) q_X12_isOff tw_989 tw_990 (Nat.le_of_ble_eq_true rfl) (Nat.le_of_ble_eq_true rfl) rfl rfl (Nat.le_of_ble_eq_true rfl) dX12_off_11 rfl ?_
    refine r_if_ne 17 20 C dX12_off_14 (by decide) rfl (fun c1 => ?_) (fun c1 => ?_)
    · have hf := ifF c1 hf
      refine r_aload_n 21 0 C dX12_off_20 rfl rfl rfl ?_
      refine r_get 24 38 10 C inX12 (wd_38 ad u1) rfl (by decide) tw_838 rfl rfl dX12_off_21 rfl ?_
      refine r_iload_n 25 1 C dX12_off_24 rfl rfl rfl ?_
      refine r_iload_n 26 2 C dX12_off_25 rfl rfl rfl ?_
      obtain ⟨hc0, hf⟩ := ck_of hf
      refine r_iastore 27 48 6 C (wd_48 ad u1) (sA_48 ad u1) hc0 dX12_off_26 rfl ?_
      obtain ⟨u2, eu2, hf⟩ := nm_of hf
      refine r_st eu2 ?_
      refine r_aload_n 28 0 C dX12_off_27 rfl rfl rfl ?_
      refine r_get 31 38 11 C inX12 (wd_38 ad u2) rfl (by decide) tw_839 rfl rfl dX12_off_28 rfl ?_
      refine r_iload_n 32 1 C dX12_off_31 rfl rfl rfl ?_
      refine r_iconst (v := 0) 33 C dX12_off_32 (by decide) rfl ?_
      obtain ⟨hc1, hf⟩ := ck_of hf
      refine r_iastore 34 49 6 C (wd_49 ad u2) (sA_49 ad u2) hc1 dX12_off_33 rfl ?_
      obtain ⟨u3, eu3, hf⟩ := nm_of hf
      refine r_st eu3 ?_
      refine r_iconst (v := 1) 35 C dX12_off_34 (by decide) rfl ?_
      exact r_iret C E (pr1 hf) (pr2 hf) dX12_off_35
    · have hf := ifT c1 hf
      refine r_bipush (v := -3) 19 C dX12_off_17 (by decide) rfl ?_
      exact r_iret C E (pr1 hf) (pr2 hf) dX12_off_19
  · have hf := ifT c0 hf
    refine r_bipush (v := -2) 9 C dX12_off_7 (by decide) rfl ?_
    exact r_iret C E (pr1 hf) (pr2 hf) dX12_off_9
def f_X12_isSpeed (v0 : Int32) (u : S2) : Option (Int32 × S2) := bd (f_X12_in ((Int32.toInt64 v0)) ((0 : Int64)) ((40 : Int64)) u) (fun r0 u0 => ck (isB r0) (some (r0, u0)))
set_option maxRecDepth 20000 in
theorem c_X12_isSpeed (ad : Nat → Nat) (v0 : Int32)  (u : S2) (r : Int32) (w : S2) (hf : f_X12_isSpeed v0 u = some (r, w)) : HI yX12_isSpeed cX12_isSpeed 1 (some .boolean) 1 25 ad [.int v0] u r w := by
  refine HI_of (by decide) (Nat.le_of_ble_eq_true rfl) (fun K C hR E => ?_)
  refine r_sub [(0, .int v0)] [0] rfl ?_
  unfold f_X12_isSpeed at hf
  refine r_iload_n 1 0 C dX12_isSpeed_0 rfl rfl rfl ?_
  refine r_i2l 2 C dX12_isSpeed_1 rfl ?_
  refine r_lconst (v := 0) 3 C dX12_isSpeed_2 (by decide) rfl ?_
  refine r_ldc2 (v := 40) 6 C tw_951 dX12_isSpeed_3 rfl ?_
  obtain ⟨r0, u0, h0, hf⟩ := bd_of hf
  refine r_cSI 9 [.long (Int32.toInt64 v0), .long (0 : Int64), .long (40 : Int64)] C hR (c_X12_in ad ((Int32.toInt64 v0)) ((0 : Int64)) ((40 : Int64))    u r0 u0 h0) q_X12_in tw_945 tw_946 (Nat.le_of_ble_eq_true rfl) (Nat.le_of_ble_eq_true rfl) rfl rfl (Nat.le_of_ble_eq_true rfl) dX12_isSpeed_6 rfl ?_
  obtain ⟨hc0, hf⟩ := ck_of hf
  exact r_zret C E (isB_nar hc0) (pr1 hf) (pr2 hf) dX12_isSpeed_9
def f_X12_isPlace (v0 : Int32) (u : S2) : Option (Int32 × S2) := bd (f_X12_in ((Int32.toInt64 v0)) ((-89 : Int64)) ((89 : Int64)) u) (fun r0 u0 => ck (isB r0) (some (r0, u0)))
set_option maxRecDepth 20000 in
theorem c_X12_isPlace (ad : Nat → Nat) (v0 : Int32)  (u : S2) (r : Int32) (w : S2) (hf : f_X12_isPlace v0 u = some (r, w)) : HI yX12_isPlace cX12_isPlace 1 (some .boolean) 1 25 ad [.int v0] u r w := by
  refine HI_of (by decide) (Nat.le_of_ble_eq_true rfl) (fun K C hR E => ?_)
  refine r_sub [(0, .int v0)] [0] rfl ?_
  unfold f_X12_isPlace at hf
  refine r_iload_n 1 0 C dX12_isPlace_0 rfl rfl rfl ?_
  refine r_i2l 2 C dX12_isPlace_1 rfl ?_
  refine r_ldc2 (v := -89) 5 C tw_948 dX12_isPlace_2 rfl ?_
  refine r_ldc2 (v := 89) 8 C tw_950 dX12_isPlace_5 rfl ?_
  obtain ⟨r0, u0, h0, hf⟩ := bd_of hf
  refine r_cSI 11 [.long (Int32.toInt64 v0), .long (-89 : Int64), .long (89 : Int64)] C hR (c_X12_in ad ((Int32.toInt64 v0)) ((-89 : Int64)) ((89 : Int64))    u r0 u0 h0) q_X12_in tw_945 tw_946 (Nat.le_of_ble_eq_true rfl) (Nat.le_of_ble_eq_true rfl) rfl rfl (Nat.le_of_ble_eq_true rfl) dX12_isPlace_8 rfl ?_
  obtain ⟨hc0, hf⟩ := ck_of hf
  exact r_zret C E (isB_nar hc0) (pr1 hf) (pr2 hf) dX12_isPlace_11
def f_X12_told (v1 : Int32) (v2 : Int32) (v3 : Int32) (u : S2) : Option (Int32 × S2) := bd (f_X12_isPointer v1 u) (fun r0 u0 => (if r0 = 0 then some ((-2 : Int32), u0) else bd (f_X12_isSpeed v2 u0) (fun r1 u1 => (if r1 = 0 then some ((-3 : Int32), u1) else bd (f_X12_isPlace v3 u1) (fun r2 u2 => (if r2 = 0 then some ((-3 : Int32), u2) else ck (inb v1 3) (nm (wr u2 50 (Int32.toNatClampNeg v1) v2) (fun u3 => ck (inb v1 3) (nm (wr u3 51 (Int32.toNatClampNeg v1) v3) (fun u4 => some ((1 : Int32), u4)))))))))))
set_option maxRecDepth 20000 in
theorem c_X12_told (ad : Nat → Nat) (v1 : Int32) (v2 : Int32) (v3 : Int32)    (u : S2) (r : Int32) (w : S2) (hf : f_X12_told v1 v2 v3 u = some (r, w)) : HI yX12_told cX12_told 4 (some .int) 2 45 ad [.ref (ad 38), .int v1, .int v2, .int v3] u r w := by
  refine HI_of (by decide) (Nat.le_of_ble_eq_true rfl) (fun K C hR E => ?_)
  refine r_sub [(0, .ref (ad 38)), (1, .int v1), (2, .int v2), (3, .int v3)] [0, 1, 2, 3] rfl ?_
  unfold f_X12_told at hf
  refine r_iload_n 1 1 C dX12_told_0 rfl rfl rfl ?_
  obtain ⟨r0, u0, h0, hf⟩ := bd_of hf
  refine r_cSI 4 [.int v1] C hR (c_X12_isPointer ad v1  u r0 u0 h0) q_X12_isPointer tw_976 tw_977 (Nat.le_of_ble_eq_true rfl) (Nat.le_of_ble_eq_true rfl) rfl rfl (Nat.le_of_ble_eq_true rfl) dX12_told_1 rfl ?_
  refine r_if_ne 7 10 C dX12_told_4 (by decide) rfl (fun c0 => ?_) (fun c0 => ?_)
  · have hf := ifF c0 hf
    refine r_iload_n 11 2 C dX12_told_10 rfl rfl rfl ?_
    obtain ⟨r1, u1, h1, hf⟩ := bd_of hf
    refine r_cSI 14 [.int v2] C hR (c_X12_isSpeed ad v2  u0 r1 u1 h1) q_X12_isSpeed tw_998 tw_999 (Nat.le_of_ble_eq_true rfl) (Nat.le_of_ble_eq_true rfl) rfl rfl (Nat.le_of_ble_eq_true rfl) dX12_told_11 rfl ?_
    refine r_if_eq 17 24 C dX12_told_14 (by decide) rfl (fun c1 => ?_) (fun c1 => ?_)
    · have hf := ifT c1 hf
      refine r_bipush (v := -3) 26 C dX12_told_24 (by decide) rfl ?_
      exact r_iret C E (pr1 hf) (pr2 hf) dX12_told_26
    · have hf := ifF c1 hf
      refine r_iload_n 18 3 C dX12_told_17 rfl rfl rfl ?_
      obtain ⟨r2, u2, h2, hf⟩ := bd_of hf
      refine r_cSI 21 [.int v3] C hR (c_X12_isPlace ad v3  u1 r2 u2 h2) q_X12_isPlace tw_1001 tw_1002 (Nat.le_of_ble_eq_true rfl) (Nat.le_of_ble_eq_true rfl) rfl rfl (Nat.le_of_ble_eq_true rfl) dX12_told_18 rfl ?_
      refine r_if_ne 24 27 C dX12_told_21 (by decide) rfl (fun c2 => ?_) (fun c2 => ?_)
      · have hf := ifF c2 hf
        refine r_aload_n 28 0 C dX12_told_27 rfl rfl rfl ?_
        refine r_get 31 38 12 C inX12 (wd_38 ad u2) rfl (by decide) tw_840 rfl rfl dX12_told_28 rfl ?_
        refine r_iload_n 32 1 C dX12_told_31 rfl rfl rfl ?_
        refine r_iload_n 33 2 C dX12_told_32 rfl rfl rfl ?_
        obtain ⟨hc0, hf⟩ := ck_of hf
        refine r_iastore 34 50 3 C (wd_50 ad u2) (sA_50 ad u2) hc0 dX12_told_33 rfl ?_
        obtain ⟨u3, eu3, hf⟩ := nm_of hf
        refine r_st eu3 ?_
        refine r_aload_n 35 0 C dX12_told_34 rfl rfl rfl ?_
        refine r_get 38 38 13 C inX12 (wd_38 ad u3) rfl (by decide) tw_841 rfl rfl dX12_told_35 rfl ?_
        refine r_iload_n 39 1 C dX12_told_38 rfl rfl rfl ?_
        refine r_iload_n 40 3 C dX12_told_39 rfl rfl rfl ?_
        obtain ⟨hc1, hf⟩ := ck_of hf
        refine r_iastore 41 51 3 C (wd_51 ad u3) (sA_51 ad u3) hc1 dX12_told_40 rfl ?_
        obtain ⟨u4, eu4, hf⟩ := nm_of hf
        refine r_st eu4 ?_
        refine r_iconst (v := 1) 42 C dX12_told_41 (by decide) rfl ?_
        exact r_iret C E (pr1 hf) (pr2 hf) dX12_told_42
      · have hf := ifT c2 hf
        refine r_bipush (v := -3) 26 C dX12_told_24 (by decide) rfl ?_
        exact r_iret C E (pr1 hf) (pr2 hf) dX12_told_26
  · have hf := ifT c0 hf
    refine r_bipush (v := -2) 9 C dX12_told_7 (by decide) rfl ?_
    exact r_iret C E (pr1 hf) (pr2 hf) dX12_told_9
def f_X12_iron (v1 : Int32) (v2 : Int32) (u : S2) : Option (Int32 × S2) := bd (f_X12_in ((Int32.toInt64 v1)) ((0 : Int64)) ((7 : Int64)) u) (fun r0 u0 => (if r0 = 0 then some ((-3 : Int32), u0) else bd (f_X12_in ((Int32.toInt64 v2)) ((-2000 : Int64)) ((2000 : Int64)) u0) (fun r1 u1 => (if r1 = 0 then some ((-3 : Int32), u1) else ck (inb v1 8) (nm (wr u1 52 (Int32.toNatClampNeg v1) v2) (fun u2 => some ((1 : Int32), u2)))))))
set_option maxRecDepth 20000 in
theorem c_X12_iron (ad : Nat → Nat) (v1 : Int32) (v2 : Int32)   (u : S2) (r : Int32) (w : S2) (hf : f_X12_iron v1 v2 u = some (r, w)) : HI yX12_iron cX12_iron 3 (some .int) 1 25 ad [.ref (ad 38), .int v1, .int v2] u r w := by
  refine HI_of (by decide) (Nat.le_of_ble_eq_true rfl) (fun K C hR E => ?_)
  refine r_sub [(0, .ref (ad 38)), (1, .int v1), (2, .int v2)] [0, 1, 2] rfl ?_
  unfold f_X12_iron at hf
  refine r_iload_n 1 1 C dX12_iron_0 rfl rfl rfl ?_
  refine r_i2l 2 C dX12_iron_1 rfl ?_
  refine r_lconst (v := 0) 3 C dX12_iron_2 (by decide) rfl ?_
  refine r_ldc2 (v := 7) 6 C tw_1008 dX12_iron_3 rfl ?_
  obtain ⟨r0, u0, h0, hf⟩ := bd_of hf
  refine r_cSI 9 [.long (Int32.toInt64 v1), .long (0 : Int64), .long (7 : Int64)] C hR (c_X12_in ad ((Int32.toInt64 v1)) ((0 : Int64)) ((7 : Int64))    u r0 u0 h0) q_X12_in tw_945 tw_946 (Nat.le_of_ble_eq_true rfl) (Nat.le_of_ble_eq_true rfl) rfl rfl (Nat.le_of_ble_eq_true rfl) dX12_iron_6 rfl ?_
  refine r_if_eq 12 26 C dX12_iron_9 (by decide) rfl (fun c0 => ?_) (fun c0 => ?_)
  · have hf := ifT c0 hf
    refine r_bipush (v := -3) 28 C dX12_iron_26 (by decide) rfl ?_
    exact r_iret C E (pr1 hf) (pr2 hf) dX12_iron_28
  · have hf := ifF c0 hf
    refine r_iload_n 13 2 C dX12_iron_12 rfl rfl rfl ?_
    refine r_i2l 14 C dX12_iron_13 rfl ?_
    refine r_ldc2 (v := -2000) 17 C tw_1009 dX12_iron_14 rfl ?_
    refine r_ldc2 (v := 2000) 20 C tw_1010 dX12_iron_17 rfl ?_
    obtain ⟨r1, u1, h1, hf⟩ := bd_of hf
    refine r_cSI 23 [.long (Int32.toInt64 v2), .long (-2000 : Int64), .long (2000 : Int64)] C hR (c_X12_in ad ((Int32.toInt64 v2)) ((-2000 : Int64)) ((2000 : Int64))    u0 r1 u1 h1) q_X12_in tw_945 tw_946 (Nat.le_of_ble_eq_true rfl) (Nat.le_of_ble_eq_true rfl) rfl rfl (Nat.le_of_ble_eq_true rfl) dX12_iron_20 rfl ?_
    refine r_if_ne 26 29 C dX12_iron_23 (by decide) rfl (fun c1 => ?_) (fun c1 => ?_)
    · have hf := ifF c1 hf
      refine r_aload_n 30 0 C dX12_iron_29 rfl rfl rfl ?_
      refine r_get 33 38 14 C inX12 (wd_38 ad u1) rfl (by decide) tw_842 rfl rfl dX12_iron_30 rfl ?_
      refine r_iload_n 34 1 C dX12_iron_33 rfl rfl rfl ?_
      refine r_iload_n 35 2 C dX12_iron_34 rfl rfl rfl ?_
      obtain ⟨hc0, hf⟩ := ck_of hf
      refine r_iastore 36 52 8 C (wd_52 ad u1) (sA_52 ad u1) hc0 dX12_iron_35 rfl ?_
      obtain ⟨u2, eu2, hf⟩ := nm_of hf
      refine r_st eu2 ?_
      refine r_iconst (v := 1) 37 C dX12_iron_36 (by decide) rfl ?_
      exact r_iret C E (pr1 hf) (pr2 hf) dX12_iron_37
    · have hf := ifT c1 hf
      refine r_bipush (v := -3) 28 C dX12_iron_26 (by decide) rfl ?_
      exact r_iret C E (pr1 hf) (pr2 hf) dX12_iron_28
def f_X12_leanOf_15  (v0 : Int32) (v1 : Int32) (t0 : Int32) (u : S2) : Option (Int32 × S2) := bd (f_X12_holdOf v1 u) (fun r0 u0 => ck (nz r0) (some (((v0 * ((90 : Int32) - (t0 / (100 : Int32)))) * (20 : Int32)) / r0, u0)))
set_option maxRecDepth 20000 in
theorem w_X12_leanOf_15 {K : Ctx} {ad : Nat → Nat} (C : Cx K ad cX12_leanOf 4 yX12_leanOf.cls (some .int)) (hR : Rm K 2 40) {r : Int32} {w : S2} (E : EI K ad r w)  (v0 : Int32) (v1 : Int32) (t0 : Int32)    (u : S2) (hf : f_X12_leanOf_15  v0 v1 t0 u = some (r, w)) : RW K ad 4 15 [(0, .int v0), (1, .int v1)] [.int t0] u := by
  unfold f_X12_leanOf_15 at hf
  refine r_istore_n 16 [(0, .int v0), (1, .int v1), (3, .int t0)] [1, 2, 0] C dX12_leanOf_15 rfl (by decide) rfl rfl ?_
  refine r_iload_n 17 0 C dX12_leanOf_16 rfl rfl rfl ?_
  refine r_bipush (v := 90) 19 C dX12_leanOf_17 (by decide) rfl ?_
  refine r_iload_n 20 2 C dX12_leanOf_19 rfl rfl rfl ?_
  refine r_bipush (v := 100) 22 C dX12_leanOf_20 (by decide) rfl ?_
  refine r_idiv 23 C dX12_leanOf_22 (by decide) rfl ?_
  refine r_isub 24 C dX12_leanOf_23 rfl ?_
  refine r_imul 25 C dX12_leanOf_24 rfl ?_
  refine r_bipush (v := 20) 27 C dX12_leanOf_25 (by decide) rfl ?_
  refine r_imul 28 C dX12_leanOf_27 rfl ?_
  refine r_iload_n 29 1 C dX12_leanOf_28 rfl rfl rfl ?_
  obtain ⟨r0, u0, h0, hf⟩ := bd_of hf
  refine r_cSI 32 [.int v1] C hR (c_X12_holdOf ad v1  u r0 u0 h0) q_X12_holdOf tw_1030 tw_1031 (Nat.le_of_ble_eq_true rfl) (Nat.le_of_ble_eq_true rfl) rfl rfl (Nat.le_of_ble_eq_true rfl) dX12_leanOf_29 rfl ?_
  obtain ⟨hc0, hf⟩ := ck_of hf
  refine r_idiv 33 C dX12_leanOf_32 (nz_ne hc0) rfl ?_
  exact r_iret C E (pr1 hf) (pr2 hf) dX12_leanOf_33
def f_X12_leanOf (v0 : Int32) (v1 : Int32) (v2 : Int32) (u : S2) : Option (Int32 × S2) := (if v2 ≤ (18000 : Int32) then f_X12_leanOf_15   v0 v1 v2 u else f_X12_leanOf_15   v0 v1 ((36000 : Int32) - v2) u)
set_option maxRecDepth 20000 in
theorem c_X12_leanOf (ad : Nat → Nat) (v0 : Int32) (v1 : Int32) (v2 : Int32)    (u : S2) (r : Int32) (w : S2) (hf : f_X12_leanOf v0 v1 v2 u = some (r, w)) : HI yX12_leanOf cX12_leanOf 4 (some .int) 2 40 ad [.int v0, .int v1, .int v2] u r w := by
  refine HI_of (by decide) (Nat.le_of_ble_eq_true rfl) (fun K C hR E => ?_)
  refine r_sub [(0, .int v0), (1, .int v1), (2, .int v2)] [0, 1, 2] rfl ?_
  unfold f_X12_leanOf at hf
  refine r_iload_n 1 2 C dX12_leanOf_0 rfl rfl rfl ?_
  refine r_sipush (v := 18000) 4 C dX12_leanOf_1 (by decide) rfl ?_
  refine r_icmp_le 7 14 C dX12_leanOf_4 (by decide) rfl (fun c0 => ?_) (fun c0 => ?_)
  · have hf := ifT c0 hf
    refine r_iload_n 15 2 C dX12_leanOf_14 rfl rfl rfl ?_
    refine r_sub [(0, .int v0), (1, .int v1)] [0, 1] rfl ?_
    exact w_X12_leanOf_15 C hR E   v0 v1 v2    u hf
  · have hf := ifF c0 hf
    refine r_ldc (v := 36000) 9 C tw_1022 dX12_leanOf_7 rfl ?_
    refine r_iload_n 10 2 C dX12_leanOf_9 rfl rfl rfl ?_
    refine r_isub 11 C dX12_leanOf_10 rfl ?_
    refine r_goto 15 C dX12_leanOf_11 (by decide) ?_
    refine r_sub [(0, .int v0), (1, .int v1)] [0, 1] rfl ?_
    exact w_X12_leanOf_15 C hR E   v0 v1 ((36000 : Int32) - v2)    u hf
def f_X12_ironAt (v1 : Int32) (u : S2) : Option (Int32 × S2) := nm (v1 / (4500 : Int32)) (fun x0 => ck (inb x0 8) (nm (u 52 (Int32.toNatClampNeg x0)) (fun x1 => nm ((x0 + (1 : Int32)) - (x0 + (1 : Int32)) / (8 : Int32) * (8 : Int32)) (fun x2 => ck (inb x2 8) (nm (u 52 (Int32.toNatClampNeg x2)) (fun x3 => ck (inb x0 8) (nm (u 52 (Int32.toNatClampNeg x0)) (fun x4 => nm (v1 - v1 / (4500 : Int32) * (4500 : Int32)) (fun x5 => some (x1 + (((x3 - x4) * x5) / (4500 : Int32)), u))))))))))
set_option maxRecDepth 20000 in
theorem c_X12_ironAt (ad : Nat → Nat) (v1 : Int32)  (u : S2) (r : Int32) (w : S2) (hf : f_X12_ironAt v1 u = some (r, w)) : HI yX12_ironAt cX12_ironAt 3 (some .int) 0 0 ad [.ref (ad 38), .int v1] u r w := by
  refine HI_of (by decide) (Nat.le_of_ble_eq_true rfl) (fun K C hR E => ?_)
  refine r_sub [(0, .ref (ad 38)), (1, .int v1)] [0, 1] rfl ?_
  unfold f_X12_ironAt at hf
  refine r_iload_n 1 1 C dX12_ironAt_0 rfl rfl rfl ?_
  refine r_sipush (v := 4500) 4 C dX12_ironAt_1 (by decide) rfl ?_
  refine r_idiv 5 C dX12_ironAt_4 (by decide) rfl ?_
  obtain ⟨x0, ex0, hf⟩ := nm_of hf
  refine r_nm ex0 ?_
  refine r_istore_n 6 [(0, .ref (ad 38)), (1, .int v1), (2, .int x0)] [1, 2, 0] C dX12_ironAt_5 rfl (by decide) rfl rfl ?_
  refine r_aload_n 7 0 C dX12_ironAt_6 rfl rfl rfl ?_
  refine r_get 10 38 14 C inX12 (wd_38 ad u) rfl (by decide) tw_842 rfl rfl dX12_ironAt_7 rfl ?_
  refine r_iload_n 11 2 C dX12_ironAt_10 rfl rfl rfl ?_
  obtain ⟨hc0, hf⟩ := ck_of hf
  refine r_iaload 12 52 8 C (wd_52 ad u) hc0 dX12_ironAt_11 rfl ?_
  obtain ⟨x1, ex1, hf⟩ := nm_of hf
  refine r_nm ex1 ?_
  refine r_aload_n 13 0 C dX12_ironAt_12 rfl rfl rfl ?_
  refine r_get 16 38 14 C inX12 (wd_38 ad u) rfl (by decide) tw_842 rfl rfl dX12_ironAt_13 rfl ?_
  refine r_iload_n 17 2 C dX12_ironAt_16 rfl rfl rfl ?_
  refine r_iconst (v := 1) 18 C dX12_ironAt_17 (by decide) rfl ?_
  refine r_iadd 19 C dX12_ironAt_18 rfl ?_
  refine r_bipush (v := 8) 21 C dX12_ironAt_19 (by decide) rfl ?_
  refine r_irem 22 C dX12_ironAt_21 (by decide) rfl ?_
  obtain ⟨x2, ex2, hf⟩ := nm_of hf
  refine r_nm ex2 ?_
  obtain ⟨hc1, hf⟩ := ck_of hf
  refine r_iaload 23 52 8 C (wd_52 ad u) hc1 dX12_ironAt_22 rfl ?_
  obtain ⟨x3, ex3, hf⟩ := nm_of hf
  refine r_nm ex3 ?_
  refine r_aload_n 24 0 C dX12_ironAt_23 rfl rfl rfl ?_
  refine r_get 27 38 14 C inX12 (wd_38 ad u) rfl (by decide) tw_842 rfl rfl dX12_ironAt_24 rfl ?_
  refine r_iload_n 28 2 C dX12_ironAt_27 rfl rfl rfl ?_
  obtain ⟨hc2, hf⟩ := ck_of hf
  refine r_iaload 29 52 8 C (wd_52 ad u) hc2 dX12_ironAt_28 rfl ?_
  obtain ⟨x4, ex4, hf⟩ := nm_of hf
  refine r_nm ex4 ?_
  refine r_isub 30 C dX12_ironAt_29 rfl ?_
  refine r_iload_n 31 1 C dX12_ironAt_30 rfl rfl rfl ?_
  refine r_sipush (v := 4500) 34 C dX12_ironAt_31 (by decide) rfl ?_
  refine r_irem 35 C dX12_ironAt_34 (by decide) rfl ?_
  obtain ⟨x5, ex5, hf⟩ := nm_of hf
  refine r_nm ex5 ?_
  refine r_imul 36 C dX12_ironAt_35 rfl ?_
  refine r_sipush (v := 4500) 39 C dX12_ironAt_36 (by decide) rfl ?_
  refine r_idiv 40 C dX12_ironAt_39 (by decide) rfl ?_
  refine r_iadd 41 C dX12_ironAt_40 rfl ?_
  exact r_iret C E (pr1 hf) (pr2 hf) dX12_ironAt_41
def f_X12_showsOf (v1 : Int32) (v2 : Int32) (u : S2) : Option (Int32 × S2) := ck (inb v1 2) (nm (u 40 (Int32.toNatClampNeg v1)) (fun x0 => ck (inb (((3 : Int32) * v1) + v2) 6) (nm (u 48 (Int32.toNatClampNeg (((3 : Int32) * v1) + v2))) (fun x1 => bd (f_X12_round (x0 - x1) u) (fun r0 u0 => ck (inb v2 3) (nm (u0 44 (Int32.toNatClampNeg v2)) (fun x2 => (if x2 = 0 then some ((0 : Int32), u0) else (if x2 = (5 : Int32) then ck (inb v1 2) (nm (u0 40 (Int32.toNatClampNeg v1)) (fun x5 => ck (inb v1 2) (nm (u0 40 (Int32.toNatClampNeg v1)) (fun x6 => bd (f_X12_ironAt x6 u0) (fun r3 u3 => bd (f_X12_round (x5 - r3) u3) (fun r4 u4 => some (r4, u4))))))) else (if x2 = (4 : Int32) then ck (inb v2 3) (nm (u0 50 (Int32.toNatClampNeg v2)) (fun x3 => ck (inb v2 3) (nm (u0 51 (Int32.toNatClampNeg v2)) (fun x4 => bd (f_X12_leanOf x3 x4 r0 u0) (fun r1 u1 => bd (f_X12_round (r0 + r1) u1) (fun r2 u2 => some (r2, u2))))))) else some (r0, u0)))))))))))
set_option maxRecDepth 20000 in
theorem c_X12_showsOf (ad : Nat → Nat) (v1 : Int32) (v2 : Int32)   (u : S2) (r : Int32) (w : S2) (hf : f_X12_showsOf v1 v2 u = some (r, w)) : HI yX12_showsOf cX12_showsOf 5 (some .int) 3 63 ad [.ref (ad 38), .int v1, .int v2] u r w := by
  refine HI_of (by decide) (Nat.le_of_ble_eq_true rfl) (fun K C hR E => ?_)
  refine r_sub [(0, .ref (ad 38)), (1, .int v1), (2, .int v2)] [0, 1, 2] rfl ?_
  unfold f_X12_showsOf at hf
  refine r_aload_n 1 0 C dX12_showsOf_0 rfl rfl rfl ?_
  refine r_get 4 38 1 C inX12 (wd_38 ad u) rfl (by decide) tw_829 rfl rfl dX12_showsOf_1 rfl ?_
  refine r_iload_n 5 1 C dX12_showsOf_4 rfl rfl rfl ?_
  obtain ⟨hc0, hf⟩ := ck_of hf
  refine r_iaload 6 40 2 C (wd_40 ad u) hc0 dX12_showsOf_5 rfl ?_
  obtain ⟨x0, ex0, hf⟩ := nm_of hf
  refine r_nm ex0 ?_
  refine r_aload_n 7 0 C dX12_showsOf_6 rfl rfl rfl ?_
  refine r_get 10 38 10 C inX12 (wd_38 ad u) rfl (by decide) tw_838 rfl rfl dX12_showsOf_7 rfl ?_
  refine r_iconst (v := 3) 11 C dX12_showsOf_10 (by decide) rfl ?_
  refine r_iload_n 12 1 C dX12_showsOf_11 rfl rfl rfl ?_
  refine r_imul 13 C dX12_showsOf_12 rfl ?_
  refine r_iload_n 14 2 C dX12_showsOf_13 rfl rfl rfl ?_
  refine r_iadd 15 C dX12_showsOf_14 rfl ?_
  obtain ⟨hc1, hf⟩ := ck_of hf
  refine r_iaload 16 48 6 C (wd_48 ad u) hc1 dX12_showsOf_15 rfl ?_
  obtain ⟨x1, ex1, hf⟩ := nm_of hf
  refine r_nm ex1 ?_
  refine r_isub 17 C dX12_showsOf_16 rfl ?_
  obtain ⟨r0, u0, h0, hf⟩ := bd_of hf
  refine r_cSI 20 [.int (x0 - x1)] C hR (c_X12_round ad (x0 - x1)  u r0 u0 h0) q_X12_round tw_1019 tw_1020 (Nat.le_of_ble_eq_true rfl) (Nat.le_of_ble_eq_true rfl) rfl rfl (Nat.le_of_ble_eq_true rfl) dX12_showsOf_17 rfl ?_
  refine r_istore_n 21 [(0, .ref (ad 38)), (1, .int v1), (2, .int v2), (3, .int r0)] [1, 2, 3, 0] C dX12_showsOf_20 rfl (by decide) rfl rfl ?_
  refine r_aload_n 22 0 C dX12_showsOf_21 rfl rfl rfl ?_
  refine r_get 25 38 6 C inX12 (wd_38 ad u0) rfl (by decide) tw_834 rfl rfl dX12_showsOf_22 rfl ?_
  refine r_iload_n 26 2 C dX12_showsOf_25 rfl rfl rfl ?_
  obtain ⟨hc2, hf⟩ := ck_of hf
  refine r_iaload 27 44 3 C (wd_44 ad u0) hc2 dX12_showsOf_26 rfl ?_
  obtain ⟨x2, ex2, hf⟩ := nm_of hf
  refine r_nm ex2 ?_
  refine r_istore 29 [(0, .ref (ad 38)), (1, .int v1), (2, .int v2), (3, .int r0), (4, .int x2)] [1, 2, 3, 4, 0] C dX12_showsOf_27 (by decide) rfl rfl ?_
  refine r_iload 31 4 C dX12_showsOf_29 rfl rfl ?_
  refine r_if_ne 34 36 C dX12_showsOf_31 (by decide) rfl (fun c0 => ?_) (fun c0 => ?_)
  · have hf := ifF c0 hf
    refine r_iload 38 4 C dX12_showsOf_36 rfl rfl ?_
    refine r_iconst (v := 5) 39 C dX12_showsOf_38 (by decide) rfl ?_
    refine r_icmp_ne 42 63 C dX12_showsOf_39 (by decide) rfl (fun c1 => ?_) (fun c1 => ?_)
    · have hf := ifF c1 hf
      refine r_iload 65 4 C dX12_showsOf_63 rfl rfl ?_
      refine r_iconst (v := 4) 66 C dX12_showsOf_65 (by decide) rfl ?_
      refine r_icmp_ne 69 93 C dX12_showsOf_66 (by decide) rfl (fun c2 => ?_) (fun c2 => ?_)
      · have hf := ifF c2 hf
        refine r_iload_n 94 3 C dX12_showsOf_93 rfl rfl rfl ?_
        exact r_iret C E (pr1 hf) (pr2 hf) dX12_showsOf_94
      · have hf := ifT c2 hf
        refine r_iload_n 70 3 C dX12_showsOf_69 rfl rfl rfl ?_
        refine r_aload_n 71 0 C dX12_showsOf_70 rfl rfl rfl ?_
        refine r_get 74 38 12 C inX12 (wd_38 ad u0) rfl (by decide) tw_840 rfl rfl dX12_showsOf_71 rfl ?_
        refine r_iload_n 75 2 C dX12_showsOf_74 rfl rfl rfl ?_
        obtain ⟨hc3, hf⟩ := ck_of hf
        refine r_iaload 76 50 3 C (wd_50 ad u0) hc3 dX12_showsOf_75 rfl ?_
        obtain ⟨x3, ex3, hf⟩ := nm_of hf
        refine r_nm ex3 ?_
        refine r_aload_n 77 0 C dX12_showsOf_76 rfl rfl rfl ?_
        refine r_get 80 38 13 C inX12 (wd_38 ad u0) rfl (by decide) tw_841 rfl rfl dX12_showsOf_77 rfl ?_
        refine r_iload_n 81 2 C dX12_showsOf_80 rfl rfl rfl ?_
        obtain ⟨hc4, hf⟩ := ck_of hf
        refine r_iaload 82 51 3 C (wd_51 ad u0) hc4 dX12_showsOf_81 rfl ?_
        obtain ⟨x4, ex4, hf⟩ := nm_of hf
        refine r_nm ex4 ?_
        refine r_iload_n 83 3 C dX12_showsOf_82 rfl rfl rfl ?_
        obtain ⟨r1, u1, h1, hf⟩ := bd_of hf
        refine r_cSI 86 [.int x3, .int x4, .int r0] C hR (c_X12_leanOf ad x3 x4 r0    u0 r1 u1 h1) q_X12_leanOf tw_1027 tw_1028 (Nat.le_of_ble_eq_true rfl) (Nat.le_of_ble_eq_true rfl) rfl rfl (Nat.le_of_ble_eq_true rfl) dX12_showsOf_83 rfl ?_
        refine r_iadd 87 C dX12_showsOf_86 rfl ?_
        obtain ⟨r2, u2, h2, hf⟩ := bd_of hf
        refine r_cSI 90 [.int (r0 + r1)] C hR (c_X12_round ad (r0 + r1)  u1 r2 u2 h2) q_X12_round tw_1019 tw_1020 (Nat.le_of_ble_eq_true rfl) (Nat.le_of_ble_eq_true rfl) rfl rfl (Nat.le_of_ble_eq_true rfl) dX12_showsOf_87 rfl ?_
        refine r_goto 94 C dX12_showsOf_90 (by decide) ?_
        exact r_iret C E (pr1 hf) (pr2 hf) dX12_showsOf_94
    · have hf := ifT c1 hf
      refine r_aload_n 43 0 C dX12_showsOf_42 rfl rfl rfl ?_
      refine r_get 46 38 1 C inX12 (wd_38 ad u0) rfl (by decide) tw_829 rfl rfl dX12_showsOf_43 rfl ?_
      refine r_iload_n 47 1 C dX12_showsOf_46 rfl rfl rfl ?_
      obtain ⟨hc5, hf⟩ := ck_of hf
      refine r_iaload 48 40 2 C (wd_40 ad u0) hc5 dX12_showsOf_47 rfl ?_
      obtain ⟨x5, ex5, hf⟩ := nm_of hf
      refine r_nm ex5 ?_
      refine r_aload_n 49 0 C dX12_showsOf_48 rfl rfl rfl ?_
      refine r_aload_n 50 0 C dX12_showsOf_49 rfl rfl rfl ?_
      refine r_get 53 38 1 C inX12 (wd_38 ad u0) rfl (by decide) tw_829 rfl rfl dX12_showsOf_50 rfl ?_
      refine r_iload_n 54 1 C dX12_showsOf_53 rfl rfl rfl ?_
      obtain ⟨hc6, hf⟩ := ck_of hf
      refine r_iaload 55 40 2 C (wd_40 ad u0) hc6 dX12_showsOf_54 rfl ?_
      obtain ⟨x6, ex6, hf⟩ := nm_of hf
      refine r_nm ex6 ?_
      obtain ⟨r3, u3, h3, hf⟩ := bd_of hf
      refine r_cVI 58 [.int x6] C hR (c_X12_ironAt ad x6   u0 r3 u3 h3) q_X12_ironAt tw_1023 (wd_38 ad u0) rfl rfl tw_1025 tp_44 (Nat.le_of_ble_eq_true rfl) (Nat.le_of_ble_eq_true rfl) rfl rfl (Nat.le_of_ble_eq_true rfl) dX12_showsOf_55 rfl ?_
      refine r_isub 59 C dX12_showsOf_58 rfl ?_
      obtain ⟨r4, u4, h4, hf⟩ := bd_of hf
      refine r_cSI 62 [.int (x5 - r3)] C hR (c_X12_round ad (x5 - r3)  u3 r4 u4 h4) q_X12_round tw_1019 tw_1020 (Nat.le_of_ble_eq_true rfl) (Nat.le_of_ble_eq_true rfl) rfl rfl (Nat.le_of_ble_eq_true rfl) dX12_showsOf_59 rfl ?_
      exact r_iret C E (pr1 hf) (pr2 hf) dX12_showsOf_62
  · have hf := ifT c0 hf
    refine r_iconst (v := 0) 35 C dX12_showsOf_34 (by decide) rfl ?_
    exact r_iret C E (pr1 hf) (pr2 hf) dX12_showsOf_35
def f_X12_shows (v1 : Int32) (u : S2) : Option (Int32 × S2) := bd (f_X12_isPointer v1 u) (fun r0 u0 => (if r0 = 0 then some ((-2 : Int32), u0) else bd (f_X12_showsOf (0 : Int32) v1 u0) (fun r1 u1 => some (r1, u1))))
set_option maxRecDepth 20000 in
theorem c_X12_shows (ad : Nat → Nat) (v1 : Int32)  (u : S2) (r : Int32) (w : S2) (hf : f_X12_shows v1 u = some (r, w)) : HI yX12_shows cX12_shows 2 (some .int) 4 87 ad [.ref (ad 38), .int v1] u r w := by
  refine HI_of (by decide) (Nat.le_of_ble_eq_true rfl) (fun K C hR E => ?_)
  refine r_sub [(0, .ref (ad 38)), (1, .int v1)] [0, 1] rfl ?_
  unfold f_X12_shows at hf
  refine r_iload_n 1 1 C dX12_shows_0 rfl rfl rfl ?_
  obtain ⟨r0, u0, h0, hf⟩ := bd_of hf
  refine r_cSI 4 [.int v1] C hR (c_X12_isPointer ad v1  u r0 u0 h0) q_X12_isPointer tw_976 tw_977 (Nat.le_of_ble_eq_true rfl) (Nat.le_of_ble_eq_true rfl) rfl rfl (Nat.le_of_ble_eq_true rfl) dX12_shows_1 rfl ?_
  refine r_if_eq 7 16 C dX12_shows_4 (by decide) rfl (fun c0 => ?_) (fun c0 => ?_)
  · have hf := ifT c0 hf
    refine r_bipush (v := -2) 18 C dX12_shows_16 (by decide) rfl ?_
    exact r_iret C E (pr1 hf) (pr2 hf) dX12_shows_18
  · have hf := ifF c0 hf
    refine r_aload_n 8 0 C dX12_shows_7 rfl rfl rfl ?_
    refine r_iconst (v := 0) 9 C dX12_shows_8 (by decide) rfl ?_
    refine r_iload_n 10 1 C dX12_shows_9 rfl rfl rfl ?_
    obtain ⟨r1, u1, h1, hf⟩ := bd_of hf
    refine r_cVI 13 [.int (0 : Int32), .int v1] C hR (c_X12_showsOf ad (0 : Int32) v1    u0 r1 u1 h1) q_X12_showsOf tw_1015 (wd_38 ad u0) rfl rfl tw_1017 tp_43 (Nat.le_of_ble_eq_true rfl) (Nat.le_of_ble_eq_true rfl) rfl rfl (Nat.le_of_ble_eq_true rfl) dX12_shows_10 rfl ?_
    refine r_goto 18 C dX12_shows_13 (by decide) ?_
    exact r_iret C E (pr1 hf) (pr2 hf) dX12_shows_18
def f_X12_now (v1 : Int32) (v2 : Int32) (u : S2) : Option (Int32 × S2) := bd (f_X12_isPointer v1 u) (fun r0 u0 => (if r0 = 0 then some ((-2 : Int32), u0) else bd (f_X12_in ((Int32.toInt64 v2)) ((0 : Int64)) ((1 : Int64)) u0) (fun r1 u1 => (if r1 = 0 then some ((-3 : Int32), u1) else (if v2 = 0 then ck (inb v1 6) (nm (u1 48 (Int32.toNatClampNeg v1)) (fun x1 => some ((50000 : Int32) + x1, u1))) else ck (inb v1 6) (nm (u1 49 (Int32.toNatClampNeg v1)) (fun x0 => some ((50000 : Int32) + x0, u1))))))))
set_option maxRecDepth 20000 in
theorem c_X12_now (ad : Nat → Nat) (v1 : Int32) (v2 : Int32)   (u : S2) (r : Int32) (w : S2) (hf : f_X12_now v1 v2 u = some (r, w)) : HI yX12_now cX12_now 3 (some .int) 2 45 ad [.ref (ad 38), .int v1, .int v2] u r w := by
  refine HI_of (by decide) (Nat.le_of_ble_eq_true rfl) (fun K C hR E => ?_)
  refine r_sub [(0, .ref (ad 38)), (1, .int v1), (2, .int v2)] [0, 1, 2] rfl ?_
  unfold f_X12_now at hf
  refine r_iload_n 1 1 C dX12_now_0 rfl rfl rfl ?_
  obtain ⟨r0, u0, h0, hf⟩ := bd_of hf
  refine r_cSI 4 [.int v1] C hR (c_X12_isPointer ad v1  u r0 u0 h0) q_X12_isPointer tw_976 tw_977 (Nat.le_of_ble_eq_true rfl) (Nat.le_of_ble_eq_true rfl) rfl rfl (Nat.le_of_ble_eq_true rfl) dX12_now_1 rfl ?_
  refine r_if_ne 7 10 C dX12_now_4 (by decide) rfl (fun c0 => ?_) (fun c0 => ?_)
  · have hf := ifF c0 hf
    refine r_iload_n 11 2 C dX12_now_10 rfl rfl rfl ?_
    refine r_i2l 12 C dX12_now_11 rfl ?_
    refine r_lconst (v := 0) 13 C dX12_now_12 (by decide) rfl ?_
    refine r_lconst (v := 1) 14 C dX12_now_13 (by decide) rfl ?_
    obtain ⟨r1, u1, h1, hf⟩ := bd_of hf
    refine r_cSI 17 [.long (Int32.toInt64 v2), .long (0 : Int64), .long (1 : Int64)] C hR (c_X12_in ad ((Int32.toInt64 v2)) ((0 : Int64)) ((1 : Int64))    u0 r1 u1 h1) q_X12_in tw_945 tw_946 (Nat.le_of_ble_eq_true rfl) (Nat.le_of_ble_eq_true rfl) rfl rfl (Nat.le_of_ble_eq_true rfl) dX12_now_14 rfl ?_
    refine r_if_ne 20 25 C dX12_now_17 (by decide) rfl (fun c1 => ?_) (fun c1 => ?_)
    · have hf := ifF c1 hf
      refine r_ldc (v := 50000) 27 C tw_1040 dX12_now_25 rfl ?_
      refine r_iload_n 28 2 C dX12_now_27 rfl rfl rfl ?_
      refine r_if_ne 31 40 C dX12_now_28 (by decide) rfl (fun c2 => ?_) (fun c2 => ?_)
      · have hf := ifF c2 hf
        refine r_aload_n 41 0 C dX12_now_40 rfl rfl rfl ?_
        refine r_get 44 38 11 C inX12 (wd_38 ad u1) rfl (by decide) tw_839 rfl rfl dX12_now_41 rfl ?_
        refine r_iload_n 45 1 C dX12_now_44 rfl rfl rfl ?_
        obtain ⟨hc0, hf⟩ := ck_of hf
        refine r_iaload 46 49 6 C (wd_49 ad u1) hc0 dX12_now_45 rfl ?_
        obtain ⟨x0, ex0, hf⟩ := nm_of hf
        refine r_nm ex0 ?_
        refine r_iadd 47 C dX12_now_46 rfl ?_
        exact r_iret C E (pr1 hf) (pr2 hf) dX12_now_47
      · have hf := ifT c2 hf
        refine r_aload_n 32 0 C dX12_now_31 rfl rfl rfl ?_
        refine r_get 35 38 10 C inX12 (wd_38 ad u1) rfl (by decide) tw_838 rfl rfl dX12_now_32 rfl ?_
        refine r_iload_n 36 1 C dX12_now_35 rfl rfl rfl ?_
        obtain ⟨hc1, hf⟩ := ck_of hf
        refine r_iaload 37 48 6 C (wd_48 ad u1) hc1 dX12_now_36 rfl ?_
        obtain ⟨x1, ex1, hf⟩ := nm_of hf
        refine r_nm ex1 ?_
        refine r_goto 46 C dX12_now_37 (by decide) ?_
        refine r_iadd 47 C dX12_now_46 rfl ?_
        exact r_iret C E (pr1 hf) (pr2 hf) dX12_now_47
    · have hf := ifT c1 hf
      refine r_bipush (v := -3) 22 C dX12_now_20 (by decide) rfl ?_
      refine r_goto 47 C dX12_now_22 (by decide) ?_
      exact r_iret C E (pr1 hf) (pr2 hf) dX12_now_47
  · have hf := ifT c0 hf
    refine r_bipush (v := -2) 9 C dX12_now_7 (by decide) rfl ?_
    exact r_iret C E (pr1 hf) (pr2 hf) dX12_now_9
def f_X12_lean (v1 : Int32) (v2 : Int32) (v3 : Int32) (u : S2) : Option (Int32 × S2) := bd (f_X12_isSpeed v1 u) (fun r0 u0 => (if r0 = 0 then some ((-3 : Int32), u0) else bd (f_X12_isPlace v2 u0) (fun r1 u1 => (if r1 = 0 then some ((-3 : Int32), u1) else bd (f_X12_isHeading v3 u1) (fun r2 u2 => (if r2 = 0 then some ((-3 : Int32), u2) else bd (f_X12_leanOf v1 v2 v3 u2) (fun r3 u3 => some ((100000 : Int32) + r3, u3))))))))
set_option maxRecDepth 20000 in
theorem c_X12_lean (ad : Nat → Nat) (v1 : Int32) (v2 : Int32) (v3 : Int32)    (u : S2) (r : Int32) (w : S2) (hf : f_X12_lean v1 v2 v3 u = some (r, w)) : HI yX12_lean cX12_lean 4 (some .int) 3 63 ad [.ref (ad 38), .int v1, .int v2, .int v3] u r w := by
  refine HI_of (by decide) (Nat.le_of_ble_eq_true rfl) (fun K C hR E => ?_)
  refine r_sub [(0, .ref (ad 38)), (1, .int v1), (2, .int v2), (3, .int v3)] [0, 1, 2, 3] rfl ?_
  unfold f_X12_lean at hf
  refine r_iload_n 1 1 C dX12_lean_0 rfl rfl rfl ?_
  obtain ⟨r0, u0, h0, hf⟩ := bd_of hf
  refine r_cSI 4 [.int v1] C hR (c_X12_isSpeed ad v1  u r0 u0 h0) q_X12_isSpeed tw_998 tw_999 (Nat.le_of_ble_eq_true rfl) (Nat.le_of_ble_eq_true rfl) rfl rfl (Nat.le_of_ble_eq_true rfl) dX12_lean_1 rfl ?_
  refine r_if_eq 7 33 C dX12_lean_4 (by decide) rfl (fun c0 => ?_) (fun c0 => ?_)
  · have hf := ifT c0 hf
    refine r_bipush (v := -3) 35 C dX12_lean_33 (by decide) rfl ?_
    exact r_iret C E (pr1 hf) (pr2 hf) dX12_lean_35
  · have hf := ifF c0 hf
    refine r_iload_n 8 2 C dX12_lean_7 rfl rfl rfl ?_
    obtain ⟨r1, u1, h1, hf⟩ := bd_of hf
    refine r_cSI 11 [.int v2] C hR (c_X12_isPlace ad v2  u0 r1 u1 h1) q_X12_isPlace tw_1001 tw_1002 (Nat.le_of_ble_eq_true rfl) (Nat.le_of_ble_eq_true rfl) rfl rfl (Nat.le_of_ble_eq_true rfl) dX12_lean_8 rfl ?_
    refine r_if_eq 14 33 C dX12_lean_11 (by decide) rfl (fun c1 => ?_) (fun c1 => ?_)
    · have hf := ifT c1 hf
      refine r_bipush (v := -3) 35 C dX12_lean_33 (by decide) rfl ?_
      exact r_iret C E (pr1 hf) (pr2 hf) dX12_lean_35
    · have hf := ifF c1 hf
      refine r_iload_n 15 3 C dX12_lean_14 rfl rfl rfl ?_
      obtain ⟨r2, u2, h2, hf⟩ := bd_of hf
      refine r_cSI 18 [.int v3] C hR (c_X12_isHeading ad v3  u1 r2 u2 h2) q_X12_isHeading tw_958 tw_959 (Nat.le_of_ble_eq_true rfl) (Nat.le_of_ble_eq_true rfl) rfl rfl (Nat.le_of_ble_eq_true rfl) dX12_lean_15 rfl ?_
      refine r_if_eq 21 33 C dX12_lean_18 (by decide) rfl (fun c2 => ?_) (fun c2 => ?_)
      · have hf := ifT c2 hf
        refine r_bipush (v := -3) 35 C dX12_lean_33 (by decide) rfl ?_
        exact r_iret C E (pr1 hf) (pr2 hf) dX12_lean_35
      · have hf := ifF c2 hf
        refine r_ldc (v := 100000) 23 C tw_1045 dX12_lean_21 rfl ?_
        refine r_iload_n 24 1 C dX12_lean_23 rfl rfl rfl ?_
        refine r_iload_n 25 2 C dX12_lean_24 rfl rfl rfl ?_
        refine r_iload_n 26 3 C dX12_lean_25 rfl rfl rfl ?_
        obtain ⟨r3, u3, h3, hf⟩ := bd_of hf
        refine r_cSI 29 [.int v1, .int v2, .int v3] C hR (c_X12_leanOf ad v1 v2 v3    u2 r3 u3 h3) q_X12_leanOf tw_1027 tw_1028 (Nat.le_of_ble_eq_true rfl) (Nat.le_of_ble_eq_true rfl) rfl rfl (Nat.le_of_ble_eq_true rfl) dX12_lean_26 rfl ?_
        refine r_iadd 30 C dX12_lean_29 rfl ?_
        refine r_goto 35 C dX12_lean_30 (by decide) ?_
        exact r_iret C E (pr1 hf) (pr2 hf) dX12_lean_35
def f_X12_deviation (v1 : Int32) (u : S2) : Option (Int32 × S2) := bd (f_X12_isHeading v1 u) (fun r0 u0 => (if r0 = 0 then some ((-3 : Int32), u0) else bd (f_X12_ironAt v1 u0) (fun r1 u1 => some ((50000 : Int32) + r1, u1))))
set_option maxRecDepth 20000 in
theorem c_X12_deviation (ad : Nat → Nat) (v1 : Int32)  (u : S2) (r : Int32) (w : S2) (hf : f_X12_deviation v1 u = some (r, w)) : HI yX12_deviation cX12_deviation 2 (some .int) 2 45 ad [.ref (ad 38), .int v1] u r w := by
  refine HI_of (by decide) (Nat.le_of_ble_eq_true rfl) (fun K C hR E => ?_)
  refine r_sub [(0, .ref (ad 38)), (1, .int v1)] [0, 1] rfl ?_
  unfold f_X12_deviation at hf
  refine r_iload_n 1 1 C dX12_deviation_0 rfl rfl rfl ?_
  obtain ⟨r0, u0, h0, hf⟩ := bd_of hf
  refine r_cSI 4 [.int v1] C hR (c_X12_isHeading ad v1  u r0 u0 h0) q_X12_isHeading tw_958 tw_959 (Nat.le_of_ble_eq_true rfl) (Nat.le_of_ble_eq_true rfl) rfl rfl (Nat.le_of_ble_eq_true rfl) dX12_deviation_1 rfl ?_
  refine r_if_eq 7 18 C dX12_deviation_4 (by decide) rfl (fun c0 => ?_) (fun c0 => ?_)
  · have hf := ifT c0 hf
    refine r_bipush (v := -3) 20 C dX12_deviation_18 (by decide) rfl ?_
    exact r_iret C E (pr1 hf) (pr2 hf) dX12_deviation_20
  · have hf := ifF c0 hf
    refine r_ldc (v := 50000) 9 C tw_1040 dX12_deviation_7 rfl ?_
    refine r_aload_n 10 0 C dX12_deviation_9 rfl rfl rfl ?_
    refine r_iload_n 11 1 C dX12_deviation_10 rfl rfl rfl ?_
    obtain ⟨r1, u1, h1, hf⟩ := bd_of hf
    refine r_cVI 14 [.int v1] C hR (c_X12_ironAt ad v1   u0 r1 u1 h1) q_X12_ironAt tw_1023 (wd_38 ad u0) rfl rfl tw_1025 tp_44 (Nat.le_of_ble_eq_true rfl) (Nat.le_of_ble_eq_true rfl) rfl rfl (Nat.le_of_ble_eq_true rfl) dX12_deviation_11 rfl ?_
    refine r_iadd 15 C dX12_deviation_14 rfl ?_
    refine r_goto 20 C dX12_deviation_15 (by decide) ?_
    exact r_iret C E (pr1 hf) (pr2 hf) dX12_deviation_20
def f_X12_pulled (v0 : Int32) (v1 : Int32) (v2 : Int32) (v3 : Int32) (u : S2) : Option (Int32 × S2) := bd (f_X12_holdOf v2 u) (fun r0 u0 => some (v0 - (((v1 * r0) * v3) / (9000 : Int32)), u0))
set_option maxRecDepth 20000 in
theorem c_X12_pulled (ad : Nat → Nat) (v0 : Int32) (v1 : Int32) (v2 : Int32) (v3 : Int32)     (u : S2) (r : Int32) (w : S2) (hf : f_X12_pulled v0 v1 v2 v3 u = some (r, w)) : HI yX12_pulled cX12_pulled 4 (some .int) 2 40 ad [.int v0, .int v1, .int v2, .int v3] u r w := by
  refine HI_of (by decide) (Nat.le_of_ble_eq_true rfl) (fun K C hR E => ?_)
  refine r_sub [(0, .int v0), (1, .int v1), (2, .int v2), (3, .int v3)] [0, 1, 2, 3] rfl ?_
  unfold f_X12_pulled at hf
  refine r_iload_n 1 0 C dX12_pulled_0 rfl rfl rfl ?_
  refine r_iload_n 2 1 C dX12_pulled_1 rfl rfl rfl ?_
  refine r_iload_n 3 2 C dX12_pulled_2 rfl rfl rfl ?_
  obtain ⟨r0, u0, h0, hf⟩ := bd_of hf
  refine r_cSI 6 [.int v2] C hR (c_X12_holdOf ad v2  u r0 u0 h0) q_X12_holdOf tw_1030 tw_1031 (Nat.le_of_ble_eq_true rfl) (Nat.le_of_ble_eq_true rfl) rfl rfl (Nat.le_of_ble_eq_true rfl) dX12_pulled_3 rfl ?_
  refine r_imul 7 C dX12_pulled_6 rfl ?_
  refine r_iload_n 8 3 C dX12_pulled_7 rfl rfl rfl ?_
  refine r_imul 9 C dX12_pulled_8 rfl ?_
  refine r_sipush (v := 9000) 12 C dX12_pulled_9 (by decide) rfl ?_
  refine r_idiv 13 C dX12_pulled_12 (by decide) rfl ?_
  refine r_isub 14 C dX12_pulled_13 rfl ?_
  exact r_iret C E (pr1 hf) (pr2 hf) dX12_pulled_14
def f_X12_damped (v0 : Int32) (v1 : Int32) (u : S2) : Option (Int32 × S2) := some (v0 - ((v0 * v1) / (100 : Int32)), u)
set_option maxRecDepth 20000 in
theorem c_X12_damped (ad : Nat → Nat) (v0 : Int32) (v1 : Int32)   (u : S2) (r : Int32) (w : S2) (hf : f_X12_damped v0 v1 u = some (r, w)) : HI yX12_damped cX12_damped 2 (some .int) 0 0 ad [.int v0, .int v1] u r w := by
  refine HI_of (by decide) (Nat.le_of_ble_eq_true rfl) (fun K C hR E => ?_)
  refine r_sub [(0, .int v0), (1, .int v1)] [0, 1] rfl ?_
  unfold f_X12_damped at hf
  refine r_iload_n 1 0 C dX12_damped_0 rfl rfl rfl ?_
  refine r_iload_n 2 0 C dX12_damped_1 rfl rfl rfl ?_
  refine r_iload_n 3 1 C dX12_damped_2 rfl rfl rfl ?_
  refine r_imul 4 C dX12_damped_3 rfl ?_
  refine r_bipush (v := 100) 6 C dX12_damped_4 (by decide) rfl ?_
  refine r_idiv 7 C dX12_damped_6 (by decide) rfl ?_
  refine r_isub 8 C dX12_damped_7 rfl ?_
  exact r_iret C E (pr1 hf) (pr2 hf) dX12_damped_8
def f_X12_kicked (v0 : Int32) (v1 : Int32) (v2 : Int32) (u : S2) : Option (Int32 × S2) := some (v0 + ((v1 * v2) / (100 : Int32)), u)
set_option maxRecDepth 20000 in
theorem c_X12_kicked (ad : Nat → Nat) (v0 : Int32) (v1 : Int32) (v2 : Int32)    (u : S2) (r : Int32) (w : S2) (hf : f_X12_kicked v0 v1 v2 u = some (r, w)) : HI yX12_kicked cX12_kicked 3 (some .int) 0 0 ad [.int v0, .int v1, .int v2] u r w := by
  refine HI_of (by decide) (Nat.le_of_ble_eq_true rfl) (fun K C hR E => ?_)
  refine r_sub [(0, .int v0), (1, .int v1), (2, .int v2)] [0, 1, 2] rfl ?_
  unfold f_X12_kicked at hf
  refine r_iload_n 1 0 C dX12_kicked_0 rfl rfl rfl ?_
  refine r_iload_n 2 1 C dX12_kicked_1 rfl rfl rfl ?_
  refine r_iload_n 3 2 C dX12_kicked_2 rfl rfl rfl ?_
  refine r_imul 4 C dX12_kicked_3 rfl ?_
  refine r_bipush (v := 100) 6 C dX12_kicked_4 (by decide) rfl ?_
  refine r_idiv 7 C dX12_kicked_6 (by decide) rfl ?_
  refine r_iadd 8 C dX12_kicked_7 rfl ?_
  exact r_iret C E (pr1 hf) (pr2 hf) dX12_kicked_8
def f_X12_tick_301  (v1 : Int32) (u : S2) : Option (S2) := ck (inb v1 2) (nm (u 41 (Int32.toNatClampNeg v1)) (fun x0 => nm (x0 + (1 : Int32)) (fun x1 => ck (inb v1 2) (nm (wr u 41 (Int32.toNatClampNeg v1) x1) (fun u0 => some u0)))))
set_option maxRecDepth 20000 in
theorem w_X12_tick_301 {K : Ctx} {ad : Nat → Nat} (C : Cx K ad cX12_tick 9 yX12_tick.cls none) (hR : Rm K 3 63) {w : S2} (E : EV K ad w)  (v1 : Int32)  (u : S2) (hf : f_X12_tick_301  v1 u = some w) : RW K ad 9 301 [(0, .ref (ad 38)), (1, .int v1)] [] u := by
  unfold f_X12_tick_301 at hf
  refine r_aload_n 302 0 C dX12_tick_301 rfl rfl rfl ?_
  refine r_get 305 38 2 C inX12 (wd_38 ad u) rfl (by decide) tw_830 rfl rfl dX12_tick_302 rfl ?_
  refine r_iload_n 306 1 C dX12_tick_305 rfl rfl rfl ?_
  refine r_dup2 307 C dX12_tick_306 rfl rfl rfl ?_
  obtain ⟨hc0, hf⟩ := ck_of hf
  refine r_iaload 308 41 2 C (wd_41 ad u) hc0 dX12_tick_307 rfl ?_
  obtain ⟨x0, ex0, hf⟩ := nm_of hf
  refine r_nm ex0 ?_
  refine r_iconst (v := 1) 309 C dX12_tick_308 (by decide) rfl ?_
  refine r_iadd 310 C dX12_tick_309 rfl ?_
  obtain ⟨x1, ex1, hf⟩ := nm_of hf
  refine r_nm ex1 ?_
  obtain ⟨hc1, hf⟩ := ck_of hf
  refine r_iastore 311 41 2 C (wd_41 ad u) (sA_41 ad u) hc1 dX12_tick_310 rfl ?_
  obtain ⟨u0, eu0, hf⟩ := nm_of hf
  refine r_st eu0 ?_
  exact r_vret C E (so_of hf) dX12_tick_311
def f_X12_tick_295 (z79 : Int32 → Int32 → Int32 → Int32 → S2 → Option (S2)) (v1 : Int32) (v2 : Int32) (v3 : Int32) (v4 : Int32) (u : S2) : Option (S2) := nm (v4 + (1 : Int32)) (fun x0 => z79 v1 v2 v3 x0 u)
set_option maxRecDepth 20000 in
theorem w_X12_tick_295 {K : Ctx} {ad : Nat → Nat} (C : Cx K ad cX12_tick 9 yX12_tick.cls none) (hR : Rm K 3 63) {w : S2} (E : EV K ad w) (z79 : Int32 → Int32 → Int32 → Int32 → S2 → Option (S2)) (hz79 : ∀ (v1 : Int32) (v2 : Int32) (v3 : Int32) (v4 : Int32)     (u : S2), z79 v1 v2 v3 v4 u = some w → RW K ad 9 79 [(0, .ref (ad 38)), (1, .int v1), (2, .int v2), (3, .int v3), (4, .int v4)] [] u) (v1 : Int32) (v2 : Int32) (v3 : Int32) (v4 : Int32)     (u : S2) (hf : f_X12_tick_295 z79 v1 v2 v3 v4 u = some w) : RW K ad 9 295 [(0, .ref (ad 38)), (1, .int v1), (2, .int v2), (3, .int v3), (4, .int v4)] [] u := by
  unfold f_X12_tick_295 at hf
  obtain ⟨x0, ex0, hf⟩ := nm_of hf
  refine r_iinc (v := x0) 298 4 [(0, .ref (ad 38)), (1, .int v1), (2, .int v2), (3, .int v3), (4, .int x0)] [1, 2, 3, 4, 0] C dX12_tick_295 rfl (by rw [ex0]; rfl) (by decide) rfl rfl ?_
  refine r_goto 79 C dX12_tick_298 (by decide) ?_
  refine r_sub [(0, .ref (ad 38)), (1, .int v1), (2, .int v2), (3, .int v3), (4, .int x0)] [0, 1, 2, 3, 4] rfl ?_
  exact hz79 v1 v2 v3 x0     u hf
def f_X12_tick_253 (z79 : Int32 → Int32 → Int32 → Int32 → S2 → Option (S2)) (v1 : Int32) (v2 : Int32) (v3 : Int32) (v4 : Int32) (v5 : Int32) (t0 : Int32) (u : S2) : Option (S2) := bd (f_X12_held t0 (9999 : Int32) u) (fun r0 u0 => ck (inb v5 6) (nm (wr u0 49 (Int32.toNatClampNeg v5) r0) (fun u1 => ck (inb v5 6) (nm (u1 48 (Int32.toNatClampNeg v5)) (fun x0 => ck (inb v5 6) (nm (u1 49 (Int32.toNatClampNeg v5)) (fun x1 => bd (f_X12_wrapped (x0 + x1) u1) (fun r1 u2 => ck (inb v5 6) (nm (wr u2 48 (Int32.toNatClampNeg v5) r1) (fun u3 => f_X12_tick_295 z79  v1 v2 v3 v4 u3))))))))))
set_option maxRecDepth 20000 in
theorem w_X12_tick_253 {K : Ctx} {ad : Nat → Nat} (C : Cx K ad cX12_tick 9 yX12_tick.cls none) (hR : Rm K 3 63) {w : S2} (E : EV K ad w) (z79 : Int32 → Int32 → Int32 → Int32 → S2 → Option (S2)) (hz79 : ∀ (v1 : Int32) (v2 : Int32) (v3 : Int32) (v4 : Int32)     (u : S2), z79 v1 v2 v3 v4 u = some w → RW K ad 9 79 [(0, .ref (ad 38)), (1, .int v1), (2, .int v2), (3, .int v3), (4, .int v4)] [] u) (v1 : Int32) (v2 : Int32) (v3 : Int32) (v4 : Int32) (v5 : Int32) (t0 : Int32)       (u : S2) (hf : f_X12_tick_253 z79 v1 v2 v3 v4 v5 t0 u = some w) : RW K ad 9 253 [(0, .ref (ad 38)), (1, .int v1), (2, .int v2), (3, .int v3), (4, .int v4), (5, .int v5)] [.int t0] u := by
  unfold f_X12_tick_253 at hf
  refine r_istore 255 [(0, .ref (ad 38)), (1, .int v1), (2, .int v2), (3, .int v3), (4, .int v4), (5, .int v5), (8, .int t0)] [1, 2, 3, 4, 5, 6, 0] C dX12_tick_253 (by decide) rfl rfl ?_
  refine r_aload_n 256 0 C dX12_tick_255 rfl rfl rfl ?_
  refine r_get 259 38 11 C inX12 (wd_38 ad u) rfl (by decide) tw_839 rfl rfl dX12_tick_256 rfl ?_
  refine r_iload 261 5 C dX12_tick_259 rfl rfl ?_
  refine r_iload 263 6 C dX12_tick_261 rfl rfl ?_
  refine r_sipush (v := 9999) 266 C dX12_tick_263 (by decide) rfl ?_
  obtain ⟨r0, u0, h0, hf⟩ := bd_of hf
  refine r_cSI 269 [.int t0, .int (9999 : Int32)] C hR (c_X12_held ad t0 (9999 : Int32)   u r0 u0 h0) q_X12_held tw_1062 tw_1063 (Nat.le_of_ble_eq_true rfl) (Nat.le_of_ble_eq_true rfl) rfl rfl (Nat.le_of_ble_eq_true rfl) dX12_tick_266 rfl ?_
  obtain ⟨hc0, hf⟩ := ck_of hf
  refine r_iastore 270 49 6 C (wd_49 ad u0) (sA_49 ad u0) hc0 dX12_tick_269 rfl ?_
  obtain ⟨u1, eu1, hf⟩ := nm_of hf
  refine r_st eu1 ?_
  refine r_aload_n 271 0 C dX12_tick_270 rfl rfl rfl ?_
  refine r_get 274 38 10 C inX12 (wd_38 ad u1) rfl (by decide) tw_838 rfl rfl dX12_tick_271 rfl ?_
  refine r_iload 276 5 C dX12_tick_274 rfl rfl ?_
  refine r_aload_n 277 0 C dX12_tick_276 rfl rfl rfl ?_
  refine r_get 280 38 10 C inX12 (wd_38 ad u1) rfl (by decide) tw_838 rfl rfl dX12_tick_277 rfl ?_
  refine r_iload 282 5 C dX12_tick_280 rfl rfl ?_
  obtain ⟨hc1, hf⟩ := ck_of hf
  refine r_iaload 283 48 6 C (wd_48 ad u1) hc1 dX12_tick_282 rfl ?_
  obtain ⟨x0, ex0, hf⟩ := nm_of hf
  refine r_nm ex0 ?_
  refine r_aload_n 284 0 C dX12_tick_283 rfl rfl rfl ?_
  refine r_get 287 38 11 C inX12 (wd_38 ad u1) rfl (by decide) tw_839 rfl rfl dX12_tick_284 rfl ?_
  refine r_iload 289 5 C dX12_tick_287 rfl rfl ?_
  obtain ⟨hc2, hf⟩ := ck_of hf
  refine r_iaload 290 49 6 C (wd_49 ad u1) hc2 dX12_tick_289 rfl ?_
  obtain ⟨x1, ex1, hf⟩ := nm_of hf
  refine r_nm ex1 ?_
  refine r_iadd 291 C dX12_tick_290 rfl ?_
  obtain ⟨r1, u2, h1, hf⟩ := bd_of hf
  refine r_cSI 294 [.int (x0 + x1)] C hR (c_X12_wrapped ad (x0 + x1)  u1 r1 u2 h1) q_X12_wrapped tw_1059 tw_1060 (Nat.le_of_ble_eq_true rfl) (Nat.le_of_ble_eq_true rfl) rfl rfl (Nat.le_of_ble_eq_true rfl) dX12_tick_291 rfl ?_
  obtain ⟨hc3, hf⟩ := ck_of hf
  refine r_iastore 295 48 6 C (wd_48 ad u2) (sA_48 ad u2) hc3 dX12_tick_294 rfl ?_
  obtain ⟨u3, eu3, hf⟩ := nm_of hf
  refine r_st eu3 ?_
  refine r_sub [(0, .ref (ad 38)), (1, .int v1), (2, .int v2), (3, .int v3), (4, .int v4)] [0, 1, 2, 3, 4] rfl ?_
  exact w_X12_tick_295 C hR E z79 hz79  v1 v2 v3 v4     u3 hf
def f_X12_tick_195 (z79 : Int32 → Int32 → Int32 → Int32 → S2 → Option (S2)) (v1 : Int32) (v2 : Int32) (v3 : Int32) (v4 : Int32) (v5 : Int32) (v6 : Int32) (t0 : Int32) (u : S2) : Option (S2) := ck (inb v5 6) (nm (u 49 (Int32.toNatClampNeg v5)) (fun x0 => ck (inb v4 3) (nm (u 45 (Int32.toNatClampNeg v4)) (fun x1 => bd (f_X12_pulled x0 x1 v3 t0 u) (fun r0 u0 => (if v6 = (2 : Int32) then f_X12_tick_253 z79  v1 v2 v3 v4 v5 r0 u0 else ck (inb v4 3) (nm (u0 46 (Int32.toNatClampNeg v4)) (fun x2 => bd (f_X12_damped r0 x2 u0) (fun r1 u1 => ck (inb v4 3) (nm (u1 47 (Int32.toNatClampNeg v4)) (fun x3 => bd (f_X12_kicked r1 v2 x3 u1) (fun r2 u2 => f_X12_tick_253 z79  v1 v2 v3 v4 v5 r2 u2))))))))))))
set_option maxRecDepth 20000 in
theorem w_X12_tick_195 {K : Ctx} {ad : Nat → Nat} (C : Cx K ad cX12_tick 9 yX12_tick.cls none) (hR : Rm K 3 63) {w : S2} (E : EV K ad w) (z79 : Int32 → Int32 → Int32 → Int32 → S2 → Option (S2)) (hz79 : ∀ (v1 : Int32) (v2 : Int32) (v3 : Int32) (v4 : Int32)     (u : S2), z79 v1 v2 v3 v4 u = some w → RW K ad 9 79 [(0, .ref (ad 38)), (1, .int v1), (2, .int v2), (3, .int v3), (4, .int v4)] [] u) (v1 : Int32) (v2 : Int32) (v3 : Int32) (v4 : Int32) (v5 : Int32) (v6 : Int32) (t0 : Int32)        (u : S2) (hf : f_X12_tick_195 z79 v1 v2 v3 v4 v5 v6 t0 u = some w) : RW K ad 9 195 [(0, .ref (ad 38)), (1, .int v1), (2, .int v2), (3, .int v3), (4, .int v4), (5, .int v5), (6, .int v6)] [.int t0] u := by
  unfold f_X12_tick_195 at hf
  refine r_istore 197 [(0, .ref (ad 38)), (1, .int v1), (2, .int v2), (3, .int v3), (4, .int v4), (5, .int v5), (6, .int v6), (7, .int t0)] [1, 2, 3, 4, 5, 6, 7, 0] C dX12_tick_195 (by decide) rfl rfl ?_
  refine r_aload_n 198 0 C dX12_tick_197 rfl rfl rfl ?_
  refine r_get 201 38 11 C inX12 (wd_38 ad u) rfl (by decide) tw_839 rfl rfl dX12_tick_198 rfl ?_
  refine r_iload 203 5 C dX12_tick_201 rfl rfl ?_
  obtain ⟨hc0, hf⟩ := ck_of hf
  refine r_iaload 204 49 6 C (wd_49 ad u) hc0 dX12_tick_203 rfl ?_
  obtain ⟨x0, ex0, hf⟩ := nm_of hf
  refine r_nm ex0 ?_
  refine r_aload_n 205 0 C dX12_tick_204 rfl rfl rfl ?_
  refine r_get 208 38 7 C inX12 (wd_38 ad u) rfl (by decide) tw_835 rfl rfl dX12_tick_205 rfl ?_
  refine r_iload 210 4 C dX12_tick_208 rfl rfl ?_
  obtain ⟨hc1, hf⟩ := ck_of hf
  refine r_iaload 211 45 3 C (wd_45 ad u) hc1 dX12_tick_210 rfl ?_
  obtain ⟨x1, ex1, hf⟩ := nm_of hf
  refine r_nm ex1 ?_
  refine r_iload_n 212 3 C dX12_tick_211 rfl rfl rfl ?_
  refine r_iload 214 7 C dX12_tick_212 rfl rfl ?_
  obtain ⟨r0, u0, h0, hf⟩ := bd_of hf
  refine r_cSI 217 [.int x0, .int x1, .int v3, .int t0] C hR (c_X12_pulled ad x0 x1 v3 t0     u r0 u0 h0) q_X12_pulled tw_1069 tw_1070 (Nat.le_of_ble_eq_true rfl) (Nat.le_of_ble_eq_true rfl) rfl rfl (Nat.le_of_ble_eq_true rfl) dX12_tick_214 rfl ?_
  refine r_istore 219 [(0, .ref (ad 38)), (1, .int v1), (2, .int v2), (3, .int v3), (4, .int v4), (5, .int v5), (6, .int v6), (7, .int t0), (8, .int r0)] [1, 2, 3, 4, 5, 6, 7, 8, 0] C dX12_tick_217 (by decide) rfl rfl ?_
  refine r_iload 221 6 C dX12_tick_219 rfl rfl ?_
  refine r_iconst (v := 2) 222 C dX12_tick_221 (by decide) rfl ?_
  refine r_icmp_ne 225 230 C dX12_tick_222 (by decide) rfl (fun c0 => ?_) (fun c0 => ?_)
  · have hf := ifF c0 hf
    refine r_iload 232 8 C dX12_tick_230 rfl rfl ?_
    refine r_aload_n 233 0 C dX12_tick_232 rfl rfl rfl ?_
    refine r_get 236 38 8 C inX12 (wd_38 ad u0) rfl (by decide) tw_836 rfl rfl dX12_tick_233 rfl ?_
    refine r_iload 238 4 C dX12_tick_236 rfl rfl ?_
    obtain ⟨hc2, hf⟩ := ck_of hf
    refine r_iaload 239 46 3 C (wd_46 ad u0) hc2 dX12_tick_238 rfl ?_
    obtain ⟨x2, ex2, hf⟩ := nm_of hf
    refine r_nm ex2 ?_
    obtain ⟨r1, u1, h1, hf⟩ := bd_of hf
    refine r_cSI 242 [.int r0, .int x2] C hR (c_X12_damped ad r0 x2   u0 r1 u1 h1) q_X12_damped tw_1072 tw_1073 (Nat.le_of_ble_eq_true rfl) (Nat.le_of_ble_eq_true rfl) rfl rfl (Nat.le_of_ble_eq_true rfl) dX12_tick_239 rfl ?_
    refine r_iload_n 243 2 C dX12_tick_242 rfl rfl rfl ?_
    refine r_aload_n 244 0 C dX12_tick_243 rfl rfl rfl ?_
    refine r_get 247 38 9 C inX12 (wd_38 ad u1) rfl (by decide) tw_837 rfl rfl dX12_tick_244 rfl ?_
    refine r_iload 249 4 C dX12_tick_247 rfl rfl ?_
    obtain ⟨hc3, hf⟩ := ck_of hf
    refine r_iaload 250 47 3 C (wd_47 ad u1) hc3 dX12_tick_249 rfl ?_
    obtain ⟨x3, ex3, hf⟩ := nm_of hf
    refine r_nm ex3 ?_
    obtain ⟨r2, u2, h2, hf⟩ := bd_of hf
    refine r_cSI 253 [.int r1, .int v2, .int x3] C hR (c_X12_kicked ad r1 v2 x3    u1 r2 u2 h2) q_X12_kicked tw_1075 tw_1076 (Nat.le_of_ble_eq_true rfl) (Nat.le_of_ble_eq_true rfl) rfl rfl (Nat.le_of_ble_eq_true rfl) dX12_tick_250 rfl ?_
    refine r_sub [(0, .ref (ad 38)), (1, .int v1), (2, .int v2), (3, .int v3), (4, .int v4), (5, .int v5)] [0, 1, 2, 3, 4, 5] rfl ?_
    exact w_X12_tick_253 C hR E z79 hz79  v1 v2 v3 v4 v5 r2       u2 hf
  · have hf := ifT c0 hf
    refine r_iload 227 8 C dX12_tick_225 rfl rfl ?_
    refine r_goto 253 C dX12_tick_227 (by decide) ?_
    refine r_sub [(0, .ref (ad 38)), (1, .int v1), (2, .int v2), (3, .int v3), (4, .int v4), (5, .int v5)] [0, 1, 2, 3, 4, 5] rfl ?_
    exact w_X12_tick_253 C hR E z79 hz79  v1 v2 v3 v4 v5 r0       u0 hf
def f_X12_tick_79  : Nat → Int32 → Int32 → Int32 → Int32 → S2 → Option (S2)
  | 0, _, _, _, _, _ => none
  | n + 1, v1, v2, v3, v4, u => (if (3 : Int32) ≤ v4 then f_X12_tick_301   v1 u else nm (((3 : Int32) * v1) + v4) (fun x0 => ck (inb v4 3) (nm (u 44 (Int32.toNatClampNeg v4)) (fun x1 => (if x1 = (1 : Int32) then ck (inb x0 6) (nm (u 48 (Int32.toNatClampNeg x0)) (fun x6 => bd (f_X12_wrapped (x6 - (((25 : Int32) * v3) / (90 : Int32))) u) (fun r2 u2 => ck (inb x0 6) (nm (wr u2 48 (Int32.toNatClampNeg x0) r2) (fun u3 => f_X12_tick_295 (fun v1 v2 v3 v4 u => f_X12_tick_79  n v1 v2 v3 v4 u)  v1 v2 v3 v4 u3))))) else (if x1 ≤ (1 : Int32) then f_X12_tick_295 (fun v1 v2 v3 v4 u => f_X12_tick_79  n v1 v2 v3 v4 u)  v1 v2 v3 v4 u else (if (5 : Int32) ≤ x1 then f_X12_tick_295 (fun v1 v2 v3 v4 u => f_X12_tick_79  n v1 v2 v3 v4 u)  v1 v2 v3 v4 u else (if x1 = (2 : Int32) then ck (inb x0 6) (nm (u 48 (Int32.toNatClampNeg x0)) (fun x5 => f_X12_tick_195 (fun v1 v2 v3 v4 u => f_X12_tick_79  n v1 v2 v3 v4 u)  v1 v2 v3 v4 x0 x1 x5 u)) else ck (inb x0 6) (nm (u 48 (Int32.toNatClampNeg x0)) (fun x2 => ck (inb (((4 : Int32) * v1) + (1 : Int32)) 8) (nm (u 39 (Int32.toNatClampNeg (((4 : Int32) * v1) + (1 : Int32)))) (fun x3 => ck (inb v1 2) (nm (u 40 (Int32.toNatClampNeg v1)) (fun x4 => bd (f_X12_leanOf x3 v3 x4 u) (fun r0 u0 => bd (f_X12_wrapped (x2 - r0) u0) (fun r1 u1 => f_X12_tick_195 (fun v1 v2 v3 v4 u => f_X12_tick_79  n v1 v2 v3 v4 u)  v1 v2 v3 v4 x0 x1 r1 u1))))))))))))))))
theorem f_X12_tick_79_e  (n : Nat) (v1 : Int32) (v2 : Int32) (v3 : Int32) (v4 : Int32) (u : S2) : f_X12_tick_79  (n + 1) v1 v2 v3 v4 u = (if (3 : Int32) ≤ v4 then f_X12_tick_301   v1 u else nm (((3 : Int32) * v1) + v4) (fun x0 => ck (inb v4 3) (nm (u 44 (Int32.toNatClampNeg v4)) (fun x1 => (if x1 = (1 : Int32) then ck (inb x0 6) (nm (u 48 (Int32.toNatClampNeg x0)) (fun x6 => bd (f_X12_wrapped (x6 - (((25 : Int32) * v3) / (90 : Int32))) u) (fun r2 u2 => ck (inb x0 6) (nm (wr u2 48 (Int32.toNatClampNeg x0) r2) (fun u3 => f_X12_tick_295 (fun v1 v2 v3 v4 u => f_X12_tick_79  n v1 v2 v3 v4 u)  v1 v2 v3 v4 u3))))) else (if x1 ≤ (1 : Int32) then f_X12_tick_295 (fun v1 v2 v3 v4 u => f_X12_tick_79  n v1 v2 v3 v4 u)  v1 v2 v3 v4 u else (if (5 : Int32) ≤ x1 then f_X12_tick_295 (fun v1 v2 v3 v4 u => f_X12_tick_79  n v1 v2 v3 v4 u)  v1 v2 v3 v4 u else (if x1 = (2 : Int32) then ck (inb x0 6) (nm (u 48 (Int32.toNatClampNeg x0)) (fun x5 => f_X12_tick_195 (fun v1 v2 v3 v4 u => f_X12_tick_79  n v1 v2 v3 v4 u)  v1 v2 v3 v4 x0 x1 x5 u)) else ck (inb x0 6) (nm (u 48 (Int32.toNatClampNeg x0)) (fun x2 => ck (inb (((4 : Int32) * v1) + (1 : Int32)) 8) (nm (u 39 (Int32.toNatClampNeg (((4 : Int32) * v1) + (1 : Int32)))) (fun x3 => ck (inb v1 2) (nm (u 40 (Int32.toNatClampNeg v1)) (fun x4 => bd (f_X12_leanOf x3 v3 x4 u) (fun r0 u0 => bd (f_X12_wrapped (x2 - r0) u0) (fun r1 u1 => f_X12_tick_195 (fun v1 v2 v3 v4 u => f_X12_tick_79  n v1 v2 v3 v4 u)  v1 v2 v3 v4 x0 x1 r1 u1)))))))))))))))) := rfl
set_option maxRecDepth 20000 in
theorem w_X12_tick_79 {K : Ctx} {ad : Nat → Nat} (C : Cx K ad cX12_tick 9 yX12_tick.cls none) (hR : Rm K 3 63) {w : S2} (E : EV K ad w)  : ∀ (n : Nat) (v1 : Int32) (v2 : Int32) (v3 : Int32) (v4 : Int32)     (u : S2) (hf : f_X12_tick_79  n v1 v2 v3 v4 u = some w), RW K ad 9 79 [(0, .ref (ad 38)), (1, .int v1), (2, .int v2), (3, .int v3), (4, .int v4)] [] u := by
  intro n
  induction n with
  | zero => intro v1 v2 v3 v4     u hf; cases hf
  | succ n ih =>
    intro v1 v2 v3 v4     u hf
    rw [f_X12_tick_79_e] at hf
    refine r_iload 81 4 C dX12_tick_79 rfl rfl ?_
    refine r_iconst (v := 3) 82 C dX12_tick_81 (by decide) rfl ?_
    refine r_icmp_ge 85 301 C dX12_tick_82 (by decide) rfl (fun c0 => ?_) (fun c0 => ?_)
    · have hf := ifT c0 hf
      refine r_sub [(0, .ref (ad 38)), (1, .int v1)] [0, 1] rfl ?_
      exact w_X12_tick_301 C hR E   v1  u hf
    · have hf := ifF c0 hf
      refine r_iconst (v := 3) 86 C dX12_tick_85 (by decide) rfl ?_
      refine r_iload_n 87 1 C dX12_tick_86 rfl rfl rfl ?_
      refine r_imul 88 C dX12_tick_87 rfl ?_
      refine r_iload 90 4 C dX12_tick_88 rfl rfl ?_
      refine r_iadd 91 C dX12_tick_90 rfl ?_
      obtain ⟨x0, ex0, hf⟩ := nm_of hf
      refine r_nm ex0 ?_
      refine r_istore 93 [(0, .ref (ad 38)), (1, .int v1), (2, .int v2), (3, .int v3), (4, .int v4), (5, .int x0)] [1, 2, 3, 4, 5, 0] C dX12_tick_91 (by decide) rfl rfl ?_
      refine r_aload_n 94 0 C dX12_tick_93 rfl rfl rfl ?_
      refine r_get 97 38 6 C inX12 (wd_38 ad u) rfl (by decide) tw_834 rfl rfl dX12_tick_94 rfl ?_
      refine r_iload 99 4 C dX12_tick_97 rfl rfl ?_
      obtain ⟨hc0, hf⟩ := ck_of hf
      refine r_iaload 100 44 3 C (wd_44 ad u) hc0 dX12_tick_99 rfl ?_
      obtain ⟨x1, ex1, hf⟩ := nm_of hf
      refine r_nm ex1 ?_
      refine r_istore 102 [(0, .ref (ad 38)), (1, .int v1), (2, .int v2), (3, .int v3), (4, .int v4), (5, .int x0), (6, .int x1)] [1, 2, 3, 4, 5, 6, 0] C dX12_tick_100 (by decide) rfl rfl ?_
      refine r_iload 104 6 C dX12_tick_102 rfl rfl ?_
      refine r_iconst (v := 1) 105 C dX12_tick_104 (by decide) rfl ?_
      refine r_icmp_ne 108 136 C dX12_tick_105 (by decide) rfl (fun c1 => ?_) (fun c1 => ?_)
      · have hf := ifF c1 hf
        refine r_iload 138 6 C dX12_tick_136 rfl rfl ?_
        refine r_iconst (v := 1) 139 C dX12_tick_138 (by decide) rfl ?_
        refine r_icmp_le 142 295 C dX12_tick_139 (by decide) rfl (fun c2 => ?_) (fun c2 => ?_)
        · have hf := ifT c2 hf
          refine r_sub [(0, .ref (ad 38)), (1, .int v1), (2, .int v2), (3, .int v3), (4, .int v4)] [0, 1, 2, 3, 4] rfl ?_
          exact w_X12_tick_295 C hR E (fun v1 v2 v3 v4 u => f_X12_tick_79  n v1 v2 v3 v4 u) (fun v1 v2 v3 v4     u h => ih v1 v2 v3 v4     u h)  v1 v2 v3 v4     u hf
        · have hf := ifF c2 hf
          refine r_iload 144 6 C dX12_tick_142 rfl rfl ?_
          refine r_iconst (v := 5) 145 C dX12_tick_144 (by decide) rfl ?_
          refine r_icmp_ge 148 295 C dX12_tick_145 (by decide) rfl (fun c3 => ?_) (fun c3 => ?_)
          · have hf := ifT c3 hf
            refine r_sub [(0, .ref (ad 38)), (1, .int v1), (2, .int v2), (3, .int v3), (4, .int v4)] [0, 1, 2, 3, 4] rfl ?_
            exact w_X12_tick_295 C hR E (fun v1 v2 v3 v4 u => f_X12_tick_79  n v1 v2 v3 v4 u) (fun v1 v2 v3 v4     u h => ih v1 v2 v3 v4     u h)  v1 v2 v3 v4     u hf
          · have hf := ifF c3 hf
            refine r_iload 150 6 C dX12_tick_148 rfl rfl ?_
            refine r_iconst (v := 2) 151 C dX12_tick_150 (by decide) rfl ?_
            refine r_icmp_ne 154 164 C dX12_tick_151 (by decide) rfl (fun c4 => ?_) (fun c4 => ?_)
            · have hf := ifF c4 hf
              refine r_aload_n 165 0 C dX12_tick_164 rfl rfl rfl ?_
              refine r_get 168 38 10 C inX12 (wd_38 ad u) rfl (by decide) tw_838 rfl rfl dX12_tick_165 rfl ?_
              refine r_iload 170 5 C dX12_tick_168 rfl rfl ?_
              obtain ⟨hc1, hf⟩ := ck_of hf
              refine r_iaload 171 48 6 C (wd_48 ad u) hc1 dX12_tick_170 rfl ?_
              obtain ⟨x2, ex2, hf⟩ := nm_of hf
              refine r_nm ex2 ?_
              refine r_aload_n 172 0 C dX12_tick_171 rfl rfl rfl ?_
              refine r_get 175 38 0 C inX12 (wd_38 ad u) rfl (by decide) tw_828 rfl rfl dX12_tick_172 rfl ?_
              refine r_iconst (v := 4) 176 C dX12_tick_175 (by decide) rfl ?_
              refine r_iload_n 177 1 C dX12_tick_176 rfl rfl rfl ?_
              refine r_imul 178 C dX12_tick_177 rfl ?_
              refine r_iconst (v := 1) 179 C dX12_tick_178 (by decide) rfl ?_
              refine r_iadd 180 C dX12_tick_179 rfl ?_
              obtain ⟨hc2, hf⟩ := ck_of hf
              refine r_iaload 181 39 8 C (wd_39 ad u) hc2 dX12_tick_180 rfl ?_
              obtain ⟨x3, ex3, hf⟩ := nm_of hf
              refine r_nm ex3 ?_
              refine r_iload_n 182 3 C dX12_tick_181 rfl rfl rfl ?_
              refine r_aload_n 183 0 C dX12_tick_182 rfl rfl rfl ?_
              refine r_get 186 38 1 C inX12 (wd_38 ad u) rfl (by decide) tw_829 rfl rfl dX12_tick_183 rfl ?_
              refine r_iload_n 187 1 C dX12_tick_186 rfl rfl rfl ?_
              obtain ⟨hc3, hf⟩ := ck_of hf
              refine r_iaload 188 40 2 C (wd_40 ad u) hc3 dX12_tick_187 rfl ?_
              obtain ⟨x4, ex4, hf⟩ := nm_of hf
              refine r_nm ex4 ?_
              obtain ⟨r0, u0, h0, hf⟩ := bd_of hf
              refine r_cSI 191 [.int x3, .int v3, .int x4] C hR (c_X12_leanOf ad x3 v3 x4    u r0 u0 h0) q_X12_leanOf tw_1027 tw_1028 (Nat.le_of_ble_eq_true rfl) (Nat.le_of_ble_eq_true rfl) rfl rfl (Nat.le_of_ble_eq_true rfl) dX12_tick_188 rfl ?_
              refine r_isub 192 C dX12_tick_191 rfl ?_
              obtain ⟨r1, u1, h1, hf⟩ := bd_of hf
              refine r_cSI 195 [.int (x2 - r0)] C hR (c_X12_wrapped ad (x2 - r0)  u0 r1 u1 h1) q_X12_wrapped tw_1059 tw_1060 (Nat.le_of_ble_eq_true rfl) (Nat.le_of_ble_eq_true rfl) rfl rfl (Nat.le_of_ble_eq_true rfl) dX12_tick_192 rfl ?_
              refine r_sub [(0, .ref (ad 38)), (1, .int v1), (2, .int v2), (3, .int v3), (4, .int v4), (5, .int x0), (6, .int x1)] [0, 1, 2, 3, 4, 5, 6] rfl ?_
              exact w_X12_tick_195 C hR E (fun v1 v2 v3 v4 u => f_X12_tick_79  n v1 v2 v3 v4 u) (fun v1 v2 v3 v4     u h => ih v1 v2 v3 v4     u h)  v1 v2 v3 v4 x0 x1 r1        u1 hf
            · have hf := ifT c4 hf
              refine r_aload_n 155 0 C dX12_tick_154 rfl rfl rfl ?_
              refine r_get 158 38 10 C inX12 (wd_38 ad u) rfl (by decide) tw_838 rfl rfl dX12_tick_155 rfl ?_
              refine r_iload 160 5 C dX12_tick_158 rfl rfl ?_
              obtain ⟨hc4, hf⟩ := ck_of hf
              refine r_iaload 161 48 6 C (wd_48 ad u) hc4 dX12_tick_160 rfl ?_
              obtain ⟨x5, ex5, hf⟩ := nm_of hf
              refine r_nm ex5 ?_
              refine r_goto 195 C dX12_tick_161 (by decide) ?_
              refine r_sub [(0, .ref (ad 38)), (1, .int v1), (2, .int v2), (3, .int v3), (4, .int v4), (5, .int x0), (6, .int x1)] [0, 1, 2, 3, 4, 5, 6] rfl ?_
              exact w_X12_tick_195 C hR E (fun v1 v2 v3 v4 u => f_X12_tick_79  n v1 v2 v3 v4 u) (fun v1 v2 v3 v4     u h => ih v1 v2 v3 v4     u h)  v1 v2 v3 v4 x0 x1 x5        u hf
      · have hf := ifT c1 hf
        refine r_aload_n 109 0 C dX12_tick_108 rfl rfl rfl ?_
        refine r_get 112 38 10 C inX12 (wd_38 ad u) rfl (by decide) tw_838 rfl rfl dX12_tick_109 rfl ?_
        refine r_iload 114 5 C dX12_tick_112 rfl rfl ?_
        refine r_aload_n 115 0 C dX12_tick_114 rfl rfl rfl ?_
        refine r_get 118 38 10 C inX12 (wd_38 ad u) rfl (by decide) tw_838 rfl rfl dX12_tick_115 rfl ?_
        refine r_iload 120 5 C dX12_tick_118 rfl rfl ?_
        obtain ⟨hc5, hf⟩ := ck_of hf
        refine r_iaload 121 48 6 C (wd_48 ad u) hc5 dX12_tick_120 rfl ?_
        obtain ⟨x6, ex6, hf⟩ := nm_of hf
        refine r_nm ex6 ?_
        refine r_bipush (v := 25) 123 C dX12_tick_121 (by decide) rfl ?_
        refine r_iload_n 124 3 C dX12_tick_123 rfl rfl rfl ?_
        refine r_imul 125 C dX12_tick_124 rfl ?_
        refine r_bipush (v := 90) 127 C dX12_tick_125 (by decide) rfl ?_
        refine r_idiv 128 C dX12_tick_127 (by decide) rfl ?_
        refine r_isub 129 C dX12_tick_128 rfl ?_
        obtain ⟨r2, u2, h2, hf⟩ := bd_of hf
        refine r_cSI 132 [.int (x6 - (((25 : Int32) * v3) / (90 : Int32)))] C hR (c_X12_wrapped ad (x6 - (((25 : Int32) * v3) / (90 : Int32)))  u r2 u2 h2) q_X12_wrapped tw_1059 tw_1060 (Nat.le_of_ble_eq_true rfl) (Nat.le_of_ble_eq_true rfl) rfl rfl (Nat.le_of_ble_eq_true rfl) dX12_tick_129 rfl ?_
        obtain ⟨hc6, hf⟩ := ck_of hf
        refine r_iastore 133 48 6 C (wd_48 ad u2) (sA_48 ad u2) hc6 dX12_tick_132 rfl ?_
        obtain ⟨u3, eu3, hf⟩ := nm_of hf
        refine r_st eu3 ?_
        refine r_goto 295 C dX12_tick_133 (by decide) ?_
        refine r_sub [(0, .ref (ad 38)), (1, .int v1), (2, .int v2), (3, .int v3), (4, .int v4)] [0, 1, 2, 3, 4] rfl ?_
        exact w_X12_tick_295 C hR E (fun v1 v2 v3 v4 u => f_X12_tick_79  n v1 v2 v3 v4 u) (fun v1 v2 v3 v4     u h => ih v1 v2 v3 v4     u h)  v1 v2 v3 v4     u3 hf
def f_X12_tick_48  (v1 : Int32) (t0 : Int32) (t1 : Int32) (u : S2) : Option (S2) := nm (t0 + t1) (fun x0 => ck (inb v1 2) (nm (u 40 (Int32.toNatClampNeg v1)) (fun x1 => bd (f_X12_round (x1 + x0) u) (fun r0 u0 => ck (inb v1 2) (nm (wr u0 40 (Int32.toNatClampNeg v1) r0) (fun u1 => ck (inb ((4 : Int32) * v1) 8) (nm (u1 39 (Int32.toNatClampNeg ((4 : Int32) * v1))) (fun x2 => f_X12_tick_79  FUEL v1 x0 x2 (0 : Int32) u1))))))))
set_option maxRecDepth 20000 in
theorem w_X12_tick_48 {K : Ctx} {ad : Nat → Nat} (C : Cx K ad cX12_tick 9 yX12_tick.cls none) (hR : Rm K 3 63) {w : S2} (E : EV K ad w)  (v1 : Int32) (t0 : Int32) (t1 : Int32)    (u : S2) (hf : f_X12_tick_48  v1 t0 t1 u = some w) : RW K ad 9 48 [(0, .ref (ad 38)), (1, .int v1)] [.int t1, .int t0] u := by
  unfold f_X12_tick_48 at hf
  refine r_iadd 49 C dX12_tick_48 rfl ?_
  obtain ⟨x0, ex0, hf⟩ := nm_of hf
  refine r_nm ex0 ?_
  refine r_istore_n 50 [(0, .ref (ad 38)), (1, .int v1), (2, .int x0)] [1, 2, 0] C dX12_tick_49 rfl (by decide) rfl rfl ?_
  refine r_aload_n 51 0 C dX12_tick_50 rfl rfl rfl ?_
  refine r_get 54 38 1 C inX12 (wd_38 ad u) rfl (by decide) tw_829 rfl rfl dX12_tick_51 rfl ?_
  refine r_iload_n 55 1 C dX12_tick_54 rfl rfl rfl ?_
  refine r_aload_n 56 0 C dX12_tick_55 rfl rfl rfl ?_
  refine r_get 59 38 1 C inX12 (wd_38 ad u) rfl (by decide) tw_829 rfl rfl dX12_tick_56 rfl ?_
  refine r_iload_n 60 1 C dX12_tick_59 rfl rfl rfl ?_
  obtain ⟨hc0, hf⟩ := ck_of hf
  refine r_iaload 61 40 2 C (wd_40 ad u) hc0 dX12_tick_60 rfl ?_
  obtain ⟨x1, ex1, hf⟩ := nm_of hf
  refine r_nm ex1 ?_
  refine r_iload_n 62 2 C dX12_tick_61 rfl rfl rfl ?_
  refine r_iadd 63 C dX12_tick_62 rfl ?_
  obtain ⟨r0, u0, h0, hf⟩ := bd_of hf
  refine r_cSI 66 [.int (x1 + x0)] C hR (c_X12_round ad (x1 + x0)  u r0 u0 h0) q_X12_round tw_1019 tw_1020 (Nat.le_of_ble_eq_true rfl) (Nat.le_of_ble_eq_true rfl) rfl rfl (Nat.le_of_ble_eq_true rfl) dX12_tick_63 rfl ?_
  obtain ⟨hc1, hf⟩ := ck_of hf
  refine r_iastore 67 40 2 C (wd_40 ad u0) (sA_40 ad u0) hc1 dX12_tick_66 rfl ?_
  obtain ⟨u1, eu1, hf⟩ := nm_of hf
  refine r_st eu1 ?_
  refine r_aload_n 68 0 C dX12_tick_67 rfl rfl rfl ?_
  refine r_get 71 38 0 C inX12 (wd_38 ad u1) rfl (by decide) tw_828 rfl rfl dX12_tick_68 rfl ?_
  refine r_iconst (v := 4) 72 C dX12_tick_71 (by decide) rfl ?_
  refine r_iload_n 73 1 C dX12_tick_72 rfl rfl rfl ?_
  refine r_imul 74 C dX12_tick_73 rfl ?_
  obtain ⟨hc2, hf⟩ := ck_of hf
  refine r_iaload 75 39 8 C (wd_39 ad u1) hc2 dX12_tick_74 rfl ?_
  obtain ⟨x2, ex2, hf⟩ := nm_of hf
  refine r_nm ex2 ?_
  refine r_istore_n 76 [(0, .ref (ad 38)), (1, .int v1), (2, .int x0), (3, .int x2)] [1, 2, 3, 0] C dX12_tick_75 rfl (by decide) rfl rfl ?_
  refine r_iconst (v := 0) 77 C dX12_tick_76 (by decide) rfl ?_
  refine r_istore 79 [(0, .ref (ad 38)), (1, .int v1), (2, .int x0), (3, .int x2), (4, .int (0 : Int32))] [1, 2, 3, 4, 0] C dX12_tick_77 (by decide) rfl rfl ?_
  refine r_sub [(0, .ref (ad 38)), (1, .int v1), (2, .int x0), (3, .int x2), (4, .int (0 : Int32))] [0, 1, 2, 3, 4] rfl ?_
  exact w_X12_tick_79 C hR E  FUEL v1 x0 x2 (0 : Int32)     u1 hf
def f_X12_tick (v1 : Int32) (u : S2) : Option (S2) := ck (inb (((4 : Int32) * v1) + (3 : Int32)) 8) (nm (u 39 (Int32.toNatClampNeg (((4 : Int32) * v1) + (3 : Int32)))) (fun x0 => ck (inb (((4 : Int32) * v1) + (2 : Int32)) 8) (nm (u 39 (Int32.toNatClampNeg (((4 : Int32) * v1) + (2 : Int32)))) (fun x1 => (if (u 38 5) = 0 then f_X12_tick_48   v1 (x0 * x1) (0 : Int32) u else ck (inb v1 2) (nm (u 41 (Int32.toNatClampNeg v1)) (fun x2 => ck (nz (u 38 5)) (nm (x2 - x2 / (u 38 5) * (u 38 5)) (fun x3 => ck (inb x3 24) (nm (u 43 (Int32.toNatClampNeg x3)) (fun x4 => f_X12_tick_48   v1 (x0 * x1) x4 u)))))))))))
set_option maxRecDepth 20000 in
theorem c_X12_tick (ad : Nat → Nat) (v1 : Int32)  (u : S2) (w : S2) (hf : f_X12_tick v1 u = some w) : HV yX12_tick cX12_tick 9 none 3 63 ad [.ref (ad 38), .int v1] u w := by
  refine HV_of (by decide) (Nat.le_of_ble_eq_true rfl) (fun K C hR E => ?_)
  refine r_sub [(0, .ref (ad 38)), (1, .int v1)] [0, 1] rfl ?_
  unfold f_X12_tick at hf
  refine r_aload_n 1 0 C dX12_tick_0 rfl rfl rfl ?_
  refine r_get 4 38 0 C inX12 (wd_38 ad u) rfl (by decide) tw_828 rfl rfl dX12_tick_1 rfl ?_
  refine r_iconst (v := 4) 5 C dX12_tick_4 (by decide) rfl ?_
  refine r_iload_n 6 1 C dX12_tick_5 rfl rfl rfl ?_
  refine r_imul 7 C dX12_tick_6 rfl ?_
  refine r_iconst (v := 3) 8 C dX12_tick_7 (by decide) rfl ?_
  refine r_iadd 9 C dX12_tick_8 rfl ?_
  obtain ⟨hc0, hf⟩ := ck_of hf
  refine r_iaload 10 39 8 C (wd_39 ad u) hc0 dX12_tick_9 rfl ?_
  obtain ⟨x0, ex0, hf⟩ := nm_of hf
  refine r_nm ex0 ?_
  refine r_aload_n 11 0 C dX12_tick_10 rfl rfl rfl ?_
  refine r_get 14 38 0 C inX12 (wd_38 ad u) rfl (by decide) tw_828 rfl rfl dX12_tick_11 rfl ?_
  refine r_iconst (v := 4) 15 C dX12_tick_14 (by decide) rfl ?_
  refine r_iload_n 16 1 C dX12_tick_15 rfl rfl rfl ?_
  refine r_imul 17 C dX12_tick_16 rfl ?_
  refine r_iconst (v := 2) 18 C dX12_tick_17 (by decide) rfl ?_
  refine r_iadd 19 C dX12_tick_18 rfl ?_
  obtain ⟨hc1, hf⟩ := ck_of hf
  refine r_iaload 20 39 8 C (wd_39 ad u) hc1 dX12_tick_19 rfl ?_
  obtain ⟨x1, ex1, hf⟩ := nm_of hf
  refine r_nm ex1 ?_
  refine r_imul 21 C dX12_tick_20 rfl ?_
  refine r_aload_n 22 0 C dX12_tick_21 rfl rfl rfl ?_
  refine r_get 25 38 5 C inX12 (wd_38 ad u) rfl (by decide) tw_833 rfl rfl dX12_tick_22 rfl ?_
  refine r_if_ne 28 32 C dX12_tick_25 (by decide) rfl (fun c0 => ?_) (fun c0 => ?_)
  · have hf := ifF c0 hf
    refine r_aload_n 33 0 C dX12_tick_32 rfl rfl rfl ?_
    refine r_get 36 38 4 C inX12 (wd_38 ad u) rfl (by decide) tw_832 rfl rfl dX12_tick_33 rfl ?_
    refine r_aload_n 37 0 C dX12_tick_36 rfl rfl rfl ?_
    refine r_get 40 38 2 C inX12 (wd_38 ad u) rfl (by decide) tw_830 rfl rfl dX12_tick_37 rfl ?_
    refine r_iload_n 41 1 C dX12_tick_40 rfl rfl rfl ?_
    obtain ⟨hc2, hf⟩ := ck_of hf
    refine r_iaload 42 41 2 C (wd_41 ad u) hc2 dX12_tick_41 rfl ?_
    obtain ⟨x2, ex2, hf⟩ := nm_of hf
    refine r_nm ex2 ?_
    refine r_aload_n 43 0 C dX12_tick_42 rfl rfl rfl ?_
    refine r_get 46 38 5 C inX12 (wd_38 ad u) rfl (by decide) tw_833 rfl rfl dX12_tick_43 rfl ?_
    obtain ⟨hc3, hf⟩ := ck_of hf
    refine r_irem 47 C dX12_tick_46 (nz_ne hc3) rfl ?_
    obtain ⟨x3, ex3, hf⟩ := nm_of hf
    refine r_nm ex3 ?_
    obtain ⟨hc4, hf⟩ := ck_of hf
    refine r_iaload 48 43 24 C (wd_43 ad u) hc4 dX12_tick_47 rfl ?_
    obtain ⟨x4, ex4, hf⟩ := nm_of hf
    refine r_nm ex4 ?_
    refine r_sub [(0, .ref (ad 38)), (1, .int v1)] [0, 1] rfl ?_
    exact w_X12_tick_48 C hR E   v1 (x0 * x1) x4    u hf
  · have hf := ifT c0 hf
    refine r_iconst (v := 0) 29 C dX12_tick_28 (by decide) rfl ?_
    refine r_goto 48 C dX12_tick_29 (by decide) ?_
    refine r_sub [(0, .ref (ad 38)), (1, .int v1)] [0, 1] rfl ?_
    exact w_X12_tick_48 C hR E   v1 (x0 * x1) (0 : Int32)    u hf
def f_X12_steer_135  (t1 : Int32) (t2 : Int32) (u : S2) : Option (S2) := ck (inb t1 8) (nm (wr u 39 (Int32.toNatClampNeg t1) t2) (fun u0 => some u0))
set_option maxRecDepth 20000 in
theorem w_X12_steer_135 {K : Ctx} {ad : Nat → Nat} (C : Cx K ad cX12_steer 6 yX12_steer.cls none) (hR : Rm K 4 87) {w : S2} (E : EV K ad w)  (t1 : Int32) (t2 : Int32)   (u : S2) (hf : f_X12_steer_135  t1 t2 u = some w) : RW K ad 6 135 [] [.int t2, .int t1, .ref (ad 39)] u := by
  unfold f_X12_steer_135 at hf
  obtain ⟨hc0, hf⟩ := ck_of hf
  refine r_iastore 136 39 8 C (wd_39 ad u) (sA_39 ad u) hc0 dX12_steer_135 rfl ?_
  obtain ⟨u0, eu0, hf⟩ := nm_of hf
  refine r_st eu0 ?_
  exact r_vret C E (so_of hf) dX12_steer_136
def f_X12_steer_65  (v1 : Int32) (v2 : Int32) (v3 : Int32) (v4 : Int32) (t0 : Int32) (u : S2) : Option (S2) := ck (inb v1 2) (nm (wr u 42 (Int32.toNatClampNeg v1) v3) (fun u0 => bd (f_X12_size v4 u0) (fun r0 u1 => (if ((10 : Int32) * v2) < r0 then nm (u1 54 1) (fun x0 => nm (u1 54 2) (fun x1 => nm (u1 54 3) (fun x2 => bd (f_X12_held (((v4 * x0) / (10000 : Int32)) - ((t0 * x1) / (10000 : Int32))) x2 u1) (fun r1 u2 => f_X12_steer_135   (((4 : Int32) * v1) + (3 : Int32)) r1 u2)))) else f_X12_steer_135   (((4 : Int32) * v1) + (3 : Int32)) (0 : Int32) u1))))
set_option maxRecDepth 20000 in
theorem w_X12_steer_65 {K : Ctx} {ad : Nat → Nat} (C : Cx K ad cX12_steer 6 yX12_steer.cls none) (hR : Rm K 4 87) {w : S2} (E : EV K ad w)  (v1 : Int32) (v2 : Int32) (v3 : Int32) (v4 : Int32) (t0 : Int32)      (u : S2) (hf : f_X12_steer_65  v1 v2 v3 v4 t0 u = some w) : RW K ad 6 65 [(0, .ref (ad 38)), (1, .int v1), (2, .int v2), (3, .int v3), (4, .int v4)] [.int t0] u := by
  unfold f_X12_steer_65 at hf
  refine r_istore 67 [(0, .ref (ad 38)), (1, .int v1), (2, .int v2), (3, .int v3), (4, .int v4), (5, .int t0)] [1, 2, 3, 4, 5, 0] C dX12_steer_65 (by decide) rfl rfl ?_
  refine r_aload_n 68 0 C dX12_steer_67 rfl rfl rfl ?_
  refine r_get 71 38 3 C inX12 (wd_38 ad u) rfl (by decide) tw_831 rfl rfl dX12_steer_68 rfl ?_
  refine r_iload_n 72 1 C dX12_steer_71 rfl rfl rfl ?_
  refine r_iload_n 73 3 C dX12_steer_72 rfl rfl rfl ?_
  obtain ⟨hc0, hf⟩ := ck_of hf
  refine r_iastore 74 42 2 C (wd_42 ad u) (sA_42 ad u) hc0 dX12_steer_73 rfl ?_
  obtain ⟨u0, eu0, hf⟩ := nm_of hf
  refine r_st eu0 ?_
  refine r_aload_n 75 0 C dX12_steer_74 rfl rfl rfl ?_
  refine r_get 78 38 0 C inX12 (wd_38 ad u0) rfl (by decide) tw_828 rfl rfl dX12_steer_75 rfl ?_
  refine r_iconst (v := 4) 79 C dX12_steer_78 (by decide) rfl ?_
  refine r_iload_n 80 1 C dX12_steer_79 rfl rfl rfl ?_
  refine r_imul 81 C dX12_steer_80 rfl ?_
  refine r_iconst (v := 3) 82 C dX12_steer_81 (by decide) rfl ?_
  refine r_iadd 83 C dX12_steer_82 rfl ?_
  refine r_iload 85 4 C dX12_steer_83 rfl rfl ?_
  obtain ⟨r0, u1, h0, hf⟩ := bd_of hf
  refine r_cSI 88 [.int v4] C hR (c_X12_size ad v4  u0 r0 u1 h0) q_X12_size tw_1033 tw_1034 (Nat.le_of_ble_eq_true rfl) (Nat.le_of_ble_eq_true rfl) rfl rfl (Nat.le_of_ble_eq_true rfl) dX12_steer_85 rfl ?_
  refine r_bipush (v := 10) 90 C dX12_steer_88 (by decide) rfl ?_
  refine r_iload_n 91 2 C dX12_steer_90 rfl rfl rfl ?_
  refine r_imul 92 C dX12_steer_91 rfl ?_
  refine r_icmp_gt 95 99 C dX12_steer_92 (by decide) rfl (fun c0 => ?_) (fun c0 => ?_)
  · have hf := ifT c0 hf
    refine r_iload 101 4 C dX12_steer_99 rfl rfl ?_
    refine r_aload_n 102 0 C dX12_steer_101 rfl rfl rfl ?_
    refine r_get 105 38 17 C inX12 (wd_38 ad u1) rfl (by decide) tw_845 rfl rfl dX12_steer_102 rfl ?_
    refine r_iconst (v := 1) 106 C dX12_steer_105 (by decide) rfl ?_
    refine r_iaload 107 54 6 C (wd_54 ad u1) (by decide) dX12_steer_106 rfl ?_
    obtain ⟨x0, ex0, hf⟩ := nm_of hf
    refine r_nm ex0 ?_
    refine r_imul 108 C dX12_steer_107 rfl ?_
    refine r_sipush (v := 10000) 111 C dX12_steer_108 (by decide) rfl ?_
    refine r_idiv 112 C dX12_steer_111 (by decide) rfl ?_
    refine r_iload 114 5 C dX12_steer_112 rfl rfl ?_
    refine r_aload_n 115 0 C dX12_steer_114 rfl rfl rfl ?_
    refine r_get 118 38 17 C inX12 (wd_38 ad u1) rfl (by decide) tw_845 rfl rfl dX12_steer_115 rfl ?_
    refine r_iconst (v := 2) 119 C dX12_steer_118 (by decide) rfl ?_
    refine r_iaload 120 54 6 C (wd_54 ad u1) (by decide) dX12_steer_119 rfl ?_
    obtain ⟨x1, ex1, hf⟩ := nm_of hf
    refine r_nm ex1 ?_
    refine r_imul 121 C dX12_steer_120 rfl ?_
    refine r_sipush (v := 10000) 124 C dX12_steer_121 (by decide) rfl ?_
    refine r_idiv 125 C dX12_steer_124 (by decide) rfl ?_
    refine r_isub 126 C dX12_steer_125 rfl ?_
    refine r_aload_n 127 0 C dX12_steer_126 rfl rfl rfl ?_
    refine r_get 130 38 17 C inX12 (wd_38 ad u1) rfl (by decide) tw_845 rfl rfl dX12_steer_127 rfl ?_
    refine r_iconst (v := 3) 131 C dX12_steer_130 (by decide) rfl ?_
    refine r_iaload 132 54 6 C (wd_54 ad u1) (by decide) dX12_steer_131 rfl ?_
    obtain ⟨x2, ex2, hf⟩ := nm_of hf
    refine r_nm ex2 ?_
    obtain ⟨r1, u2, h1, hf⟩ := bd_of hf
    refine r_cSI 135 [.int (((v4 * x0) / (10000 : Int32)) - ((t0 * x1) / (10000 : Int32))), .int x2] C hR (c_X12_held ad (((v4 * x0) / (10000 : Int32)) - ((t0 * x1) / (10000 : Int32))) x2   u1 r1 u2 h1) q_X12_held tw_1062 tw_1063 (Nat.le_of_ble_eq_true rfl) (Nat.le_of_ble_eq_true rfl) rfl rfl (Nat.le_of_ble_eq_true rfl) dX12_steer_132 rfl ?_
    refine r_sub [] [] rfl ?_
    exact w_X12_steer_135 C hR E   (((4 : Int32) * v1) + (3 : Int32)) r1   u2 hf
  · have hf := ifF c0 hf
    refine r_iconst (v := 0) 96 C dX12_steer_95 (by decide) rfl ?_
    refine r_goto 135 C dX12_steer_96 (by decide) ?_
    refine r_sub [] [] rfl ?_
    exact w_X12_steer_135 C hR E   (((4 : Int32) * v1) + (3 : Int32)) (0 : Int32)   u1 hf
def f_X12_steer (v1 : Int32) (v2 : Int32) (u : S2) : Option (S2) := ck (inb v1 2) (nm (u 41 (Int32.toNatClampNeg v1)) (fun x0 => nm (u 54 4) (fun x1 => ck (nz x1) (nm (x0 - x0 / x1 * x1) (fun x2 => (if x2 = 0 then nm (u 54 5) (fun x3 => bd (f_X12_showsOf v1 x3 u) (fun r0 u0 => bd (f_X12_wrapped ((u0 38 20) - r0) u0) (fun r1 u1 => ck (inb v1 2) (nm (u1 42 (Int32.toNatClampNeg v1)) (fun x4 => (if x4 = (-1 : Int32) then f_X12_steer_65   v1 v2 r0 r1 (0 : Int32) u1 else ck (inb v1 2) (nm (u1 42 (Int32.toNatClampNeg v1)) (fun x5 => bd (f_X12_wrapped (r0 - x5) u1) (fun r2 u2 => f_X12_steer_65   v1 v2 r0 r1 r2 u2))))))))) else some u))))))
set_option maxRecDepth 20000 in
theorem c_X12_steer (ad : Nat → Nat) (v1 : Int32) (v2 : Int32)   (u : S2) (w : S2) (hf : f_X12_steer v1 v2 u = some w) : HV yX12_steer cX12_steer 6 none 4 87 ad [.ref (ad 38), .int v1, .int v2] u w := by
  refine HV_of (by decide) (Nat.le_of_ble_eq_true rfl) (fun K C hR E => ?_)
  refine r_sub [(0, .ref (ad 38)), (1, .int v1), (2, .int v2)] [0, 1, 2] rfl ?_
  unfold f_X12_steer at hf
  refine r_aload_n 1 0 C dX12_steer_0 rfl rfl rfl ?_
  refine r_get 4 38 2 C inX12 (wd_38 ad u) rfl (by decide) tw_830 rfl rfl dX12_steer_1 rfl ?_
  refine r_iload_n 5 1 C dX12_steer_4 rfl rfl rfl ?_
  obtain ⟨hc0, hf⟩ := ck_of hf
  refine r_iaload 6 41 2 C (wd_41 ad u) hc0 dX12_steer_5 rfl ?_
  obtain ⟨x0, ex0, hf⟩ := nm_of hf
  refine r_nm ex0 ?_
  refine r_aload_n 7 0 C dX12_steer_6 rfl rfl rfl ?_
  refine r_get 10 38 17 C inX12 (wd_38 ad u) rfl (by decide) tw_845 rfl rfl dX12_steer_7 rfl ?_
  refine r_iconst (v := 4) 11 C dX12_steer_10 (by decide) rfl ?_
  refine r_iaload 12 54 6 C (wd_54 ad u) (by decide) dX12_steer_11 rfl ?_
  obtain ⟨x1, ex1, hf⟩ := nm_of hf
  refine r_nm ex1 ?_
  obtain ⟨hc1, hf⟩ := ck_of hf
  refine r_irem 13 C dX12_steer_12 (nz_ne hc1) rfl ?_
  obtain ⟨x2, ex2, hf⟩ := nm_of hf
  refine r_nm ex2 ?_
  refine r_if_eq 16 17 C dX12_steer_13 (by decide) rfl (fun c0 => ?_) (fun c0 => ?_)
  · have hf := ifT c0 hf
    refine r_aload_n 18 0 C dX12_steer_17 rfl rfl rfl ?_
    refine r_iload_n 19 1 C dX12_steer_18 rfl rfl rfl ?_
    refine r_aload_n 20 0 C dX12_steer_19 rfl rfl rfl ?_
    refine r_get 23 38 17 C inX12 (wd_38 ad u) rfl (by decide) tw_845 rfl rfl dX12_steer_20 rfl ?_
    refine r_iconst (v := 5) 24 C dX12_steer_23 (by decide) rfl ?_
    refine r_iaload 25 54 6 C (wd_54 ad u) (by decide) dX12_steer_24 rfl ?_
    obtain ⟨x3, ex3, hf⟩ := nm_of hf
    refine r_nm ex3 ?_
    obtain ⟨r0, u0, h0, hf⟩ := bd_of hf
    refine r_cVI 28 [.int v1, .int x3] C hR (c_X12_showsOf ad v1 x3    u r0 u0 h0) q_X12_showsOf tw_1015 (wd_38 ad u) rfl rfl tw_1017 tp_43 (Nat.le_of_ble_eq_true rfl) (Nat.le_of_ble_eq_true rfl) rfl rfl (Nat.le_of_ble_eq_true rfl) dX12_steer_25 rfl ?_
    refine r_istore_n 29 [(0, .ref (ad 38)), (1, .int v1), (2, .int v2), (3, .int r0)] [1, 2, 3, 0] C dX12_steer_28 rfl (by decide) rfl rfl ?_
    refine r_aload_n 30 0 C dX12_steer_29 rfl rfl rfl ?_
    refine r_get 33 38 20 C inX12 (wd_38 ad u0) rfl (by decide) tw_848 rfl rfl dX12_steer_30 rfl ?_
    refine r_iload_n 34 3 C dX12_steer_33 rfl rfl rfl ?_
    refine r_isub 35 C dX12_steer_34 rfl ?_
    obtain ⟨r1, u1, h1, hf⟩ := bd_of hf
    refine r_cSI 38 [.int ((u0 38 20) - r0)] C hR (c_X12_wrapped ad ((u0 38 20) - r0)  u0 r1 u1 h1) q_X12_wrapped tw_1059 tw_1060 (Nat.le_of_ble_eq_true rfl) (Nat.le_of_ble_eq_true rfl) rfl rfl (Nat.le_of_ble_eq_true rfl) dX12_steer_35 rfl ?_
    refine r_istore 40 [(0, .ref (ad 38)), (1, .int v1), (2, .int v2), (3, .int r0), (4, .int r1)] [1, 2, 3, 4, 0] C dX12_steer_38 (by decide) rfl rfl ?_
    refine r_aload_n 41 0 C dX12_steer_40 rfl rfl rfl ?_
    refine r_get 44 38 3 C inX12 (wd_38 ad u1) rfl (by decide) tw_831 rfl rfl dX12_steer_41 rfl ?_
    refine r_iload_n 45 1 C dX12_steer_44 rfl rfl rfl ?_
    obtain ⟨hc2, hf⟩ := ck_of hf
    refine r_iaload 46 42 2 C (wd_42 ad u1) hc2 dX12_steer_45 rfl ?_
    obtain ⟨x4, ex4, hf⟩ := nm_of hf
    refine r_nm ex4 ?_
    refine r_iconst (v := -1) 47 C dX12_steer_46 (by decide) rfl ?_
    refine r_icmp_ne 50 54 C dX12_steer_47 (by decide) rfl (fun c1 => ?_) (fun c1 => ?_)
    · have hf := ifF c1 hf
      refine r_iload_n 55 3 C dX12_steer_54 rfl rfl rfl ?_
      refine r_aload_n 56 0 C dX12_steer_55 rfl rfl rfl ?_
      refine r_get 59 38 3 C inX12 (wd_38 ad u1) rfl (by decide) tw_831 rfl rfl dX12_steer_56 rfl ?_
      refine r_iload_n 60 1 C dX12_steer_59 rfl rfl rfl ?_
      obtain ⟨hc3, hf⟩ := ck_of hf
      refine r_iaload 61 42 2 C (wd_42 ad u1) hc3 dX12_steer_60 rfl ?_
      obtain ⟨x5, ex5, hf⟩ := nm_of hf
      refine r_nm ex5 ?_
      refine r_isub 62 C dX12_steer_61 rfl ?_
      obtain ⟨r2, u2, h2, hf⟩ := bd_of hf
      refine r_cSI 65 [.int (r0 - x5)] C hR (c_X12_wrapped ad (r0 - x5)  u1 r2 u2 h2) q_X12_wrapped tw_1059 tw_1060 (Nat.le_of_ble_eq_true rfl) (Nat.le_of_ble_eq_true rfl) rfl rfl (Nat.le_of_ble_eq_true rfl) dX12_steer_62 rfl ?_
      refine r_sub [(0, .ref (ad 38)), (1, .int v1), (2, .int v2), (3, .int r0), (4, .int r1)] [0, 1, 2, 3, 4] rfl ?_
      exact w_X12_steer_65 C hR E   v1 v2 r0 r1 r2      u2 hf
    · have hf := ifT c1 hf
      refine r_iconst (v := 0) 51 C dX12_steer_50 (by decide) rfl ?_
      refine r_goto 65 C dX12_steer_51 (by decide) ?_
      refine r_sub [(0, .ref (ad 38)), (1, .int v1), (2, .int v2), (3, .int r0), (4, .int r1)] [0, 1, 2, 3, 4] rfl ?_
      exact w_X12_steer_65 C hR E   v1 v2 r0 r1 (0 : Int32)      u1 hf
  · have hf := ifF c0 hf
    exact r_vret C E (so_of hf) dX12_steer_16
def f_X12_run_62   (u : S2) : Option (Int32 × S2) := nm (u 40 0) (fun x0 => some (x0, u))
set_option maxRecDepth 20000 in
theorem w_X12_run_62 {K : Ctx} {ad : Nat → Nat} (C : Cx K ad cX12_run 4 yX12_run.cls (some .int)) (hR : Rm K 5 112) {r : Int32} {w : S2} (E : EI K ad r w)    (u : S2) (hf : f_X12_run_62   u = some (r, w)) : RW K ad 4 62 [(0, .ref (ad 38))] [] u := by
  unfold f_X12_run_62 at hf
  refine r_aload_n 63 0 C dX12_run_62 rfl rfl rfl ?_
  refine r_get 66 38 1 C inX12 (wd_38 ad u) rfl (by decide) tw_829 rfl rfl dX12_run_63 rfl ?_
  refine r_iconst (v := 0) 67 C dX12_run_66 (by decide) rfl ?_
  refine r_iaload 68 40 2 C (wd_40 ad u) (by decide) dX12_run_67 rfl ?_
  obtain ⟨x0, ex0, hf⟩ := nm_of hf
  refine r_nm ex0 ?_
  exact r_iret C E (pr1 hf) (pr2 hf) dX12_run_68
def f_X12_run_51 (z31 : Int32 → Int32 → Int32 → S2 → Option (Int32 × S2)) (v1 : Int32) (v2 : Int32) (v3 : Int32) (u : S2) : Option (Int32 × S2) := bv (f_X12_tick (0 : Int32) u) (fun u0 => nm (v3 + (1 : Int32)) (fun x0 => z31 v1 v2 x0 u0))
set_option maxRecDepth 20000 in
theorem w_X12_run_51 {K : Ctx} {ad : Nat → Nat} (C : Cx K ad cX12_run 4 yX12_run.cls (some .int)) (hR : Rm K 5 112) {r : Int32} {w : S2} (E : EI K ad r w) (z31 : Int32 → Int32 → Int32 → S2 → Option (Int32 × S2)) (hz31 : ∀ (v1 : Int32) (v2 : Int32) (v3 : Int32)    (u : S2), z31 v1 v2 v3 u = some (r, w) → RW K ad 4 31 [(0, .ref (ad 38)), (1, .int v1), (2, .int v2), (3, .int v3)] [] u) (v1 : Int32) (v2 : Int32) (v3 : Int32)    (u : S2) (hf : f_X12_run_51 z31 v1 v2 v3 u = some (r, w)) : RW K ad 4 51 [(0, .ref (ad 38)), (1, .int v1), (2, .int v2), (3, .int v3)] [] u := by
  unfold f_X12_run_51 at hf
  refine r_aload_n 52 0 C dX12_run_51 rfl rfl rfl ?_
  refine r_iconst (v := 0) 53 C dX12_run_52 (by decide) rfl ?_
  obtain ⟨u0, h0, hf⟩ := bv_of hf
  refine r_cVV 56 [.int (0 : Int32)] C hR (c_X12_tick ad (0 : Int32)   u u0 h0) q_X12_tick tw_1065 (wd_38 ad u) rfl rfl tw_1067 tp_46 (Nat.le_of_ble_eq_true rfl) (Nat.le_of_ble_eq_true rfl) rfl rfl (Nat.le_of_ble_eq_true rfl) dX12_run_53 rfl ?_
  obtain ⟨x0, ex0, hf⟩ := nm_of hf
  refine r_iinc (v := x0) 59 3 [(0, .ref (ad 38)), (1, .int v1), (2, .int v2), (3, .int x0)] [1, 2, 3, 0] C dX12_run_56 rfl (by rw [ex0]; rfl) (by decide) rfl rfl ?_
  refine r_goto 31 C dX12_run_59 (by decide) ?_
  refine r_sub [(0, .ref (ad 38)), (1, .int v1), (2, .int v2), (3, .int x0)] [0, 1, 2, 3] rfl ?_
  exact hz31 v1 v2 x0    u0 hf
def f_X12_run_31  : Nat → Int32 → Int32 → Int32 → S2 → Option (Int32 × S2)
  | 0, _, _, _, _ => none
  | n + 1, v1, v2, v3, u => (if v1 ≤ v3 then f_X12_run_62    u else (if v2 = 0 then f_X12_run_51 (fun v1 v2 v3 u => f_X12_run_31  n v1 v2 v3 u)  v1 v2 v3 u else nm (u 54 0) (fun x0 => bv (f_X12_steer (0 : Int32) x0 u) (fun u0 => f_X12_run_51 (fun v1 v2 v3 u => f_X12_run_31  n v1 v2 v3 u)  v1 v2 v3 u0))))
theorem f_X12_run_31_e  (n : Nat) (v1 : Int32) (v2 : Int32) (v3 : Int32) (u : S2) : f_X12_run_31  (n + 1) v1 v2 v3 u = (if v1 ≤ v3 then f_X12_run_62    u else (if v2 = 0 then f_X12_run_51 (fun v1 v2 v3 u => f_X12_run_31  n v1 v2 v3 u)  v1 v2 v3 u else nm (u 54 0) (fun x0 => bv (f_X12_steer (0 : Int32) x0 u) (fun u0 => f_X12_run_51 (fun v1 v2 v3 u => f_X12_run_31  n v1 v2 v3 u)  v1 v2 v3 u0)))) := rfl
set_option maxRecDepth 20000 in
theorem w_X12_run_31 {K : Ctx} {ad : Nat → Nat} (C : Cx K ad cX12_run 4 yX12_run.cls (some .int)) (hR : Rm K 5 112) {r : Int32} {w : S2} (E : EI K ad r w)  : ∀ (n : Nat) (v1 : Int32) (v2 : Int32) (v3 : Int32)    (u : S2) (hf : f_X12_run_31  n v1 v2 v3 u = some (r, w)), RW K ad 4 31 [(0, .ref (ad 38)), (1, .int v1), (2, .int v2), (3, .int v3)] [] u := by
  intro n
  induction n with
  | zero => intro v1 v2 v3    u hf; cases hf
  | succ n ih =>
    intro v1 v2 v3    u hf
    rw [f_X12_run_31_e] at hf
    refine r_iload_n 32 3 C dX12_run_31 rfl rfl rfl ?_
    refine r_iload_n 33 1 C dX12_run_32 rfl rfl rfl ?_
    refine r_icmp_ge 36 62 C dX12_run_33 (by decide) rfl (fun c0 => ?_) (fun c0 => ?_)
    · have hf := ifT c0 hf
      refine r_sub [(0, .ref (ad 38))] [0] rfl ?_
      exact w_X12_run_62 C hR E     u hf
    · have hf := ifF c0 hf
      refine r_iload_n 37 2 C dX12_run_36 rfl rfl rfl ?_
      refine r_if_eq 40 51 C dX12_run_37 (by decide) rfl (fun c1 => ?_) (fun c1 => ?_)
      · have hf := ifT c1 hf
        refine r_sub [(0, .ref (ad 38)), (1, .int v1), (2, .int v2), (3, .int v3)] [0, 1, 2, 3] rfl ?_
        exact w_X12_run_51 C hR E (fun v1 v2 v3 u => f_X12_run_31  n v1 v2 v3 u) (fun v1 v2 v3    u h => ih v1 v2 v3    u h)  v1 v2 v3    u hf
      · have hf := ifF c1 hf
        refine r_aload_n 41 0 C dX12_run_40 rfl rfl rfl ?_
        refine r_iconst (v := 0) 42 C dX12_run_41 (by decide) rfl ?_
        refine r_aload_n 43 0 C dX12_run_42 rfl rfl rfl ?_
        refine r_get 46 38 17 C inX12 (wd_38 ad u) rfl (by decide) tw_845 rfl rfl dX12_run_43 rfl ?_
        refine r_iconst (v := 0) 47 C dX12_run_46 (by decide) rfl ?_
        refine r_iaload 48 54 6 C (wd_54 ad u) (by decide) dX12_run_47 rfl ?_
        obtain ⟨x0, ex0, hf⟩ := nm_of hf
        refine r_nm ex0 ?_
        obtain ⟨u0, h0, hf⟩ := bv_of hf
        refine r_cVV 51 [.int (0 : Int32), .int x0] C hR (c_X12_steer ad (0 : Int32) x0    u u0 h0) q_X12_steer tw_1055 (wd_38 ad u) rfl rfl tw_1057 tp_45 (Nat.le_of_ble_eq_true rfl) (Nat.le_of_ble_eq_true rfl) rfl rfl (Nat.le_of_ble_eq_true rfl) dX12_run_48 rfl ?_
        refine r_sub [(0, .ref (ad 38)), (1, .int v1), (2, .int v2), (3, .int v3)] [0, 1, 2, 3] rfl ?_
        exact w_X12_run_51 C hR E (fun v1 v2 v3 u => f_X12_run_31  n v1 v2 v3 u) (fun v1 v2 v3    u h => ih v1 v2 v3    u h)  v1 v2 v3    u0 hf
def f_X12_run (v1 : Int32) (v2 : Int32) (u : S2) : Option (Int32 × S2) := bd (f_X12_in ((Int32.toInt64 v1)) ((1 : Int64)) ((500 : Int64)) u) (fun r0 u0 => (if r0 = 0 then some ((-3 : Int32), u0) else nm (u0 41 0) (fun x0 => (if (x0 + v1) ≤ (5000 : Int32) then f_X12_run_31  FUEL v1 v2 (0 : Int32) u0 else some ((-3 : Int32), u0)))))
set_option maxRecDepth 20000 in
theorem c_X12_run (ad : Nat → Nat) (v1 : Int32) (v2 : Int32)   (u : S2) (r : Int32) (w : S2) (hf : f_X12_run v1 v2 u = some (r, w)) : HI yX12_run cX12_run 4 (some .int) 5 112 ad [.ref (ad 38), .int v1, .int v2] u r w := by
  refine HI_of (by decide) (Nat.le_of_ble_eq_true rfl) (fun K C hR E => ?_)
  refine r_sub [(0, .ref (ad 38)), (1, .int v1), (2, .int v2)] [0, 1, 2] rfl ?_
  unfold f_X12_run at hf
  refine r_iload_n 1 1 C dX12_run_0 rfl rfl rfl ?_
  refine r_i2l 2 C dX12_run_1 rfl ?_
  refine r_lconst (v := 1) 3 C dX12_run_2 (by decide) rfl ?_
  refine r_ldc2 (v := 500) 6 C tw_1054 dX12_run_3 rfl ?_
  obtain ⟨r0, u0, h0, hf⟩ := bd_of hf
  refine r_cSI 9 [.long (Int32.toInt64 v1), .long (1 : Int64), .long (500 : Int64)] C hR (c_X12_in ad ((Int32.toInt64 v1)) ((1 : Int64)) ((500 : Int64))    u r0 u0 h0) q_X12_in tw_945 tw_946 (Nat.le_of_ble_eq_true rfl) (Nat.le_of_ble_eq_true rfl) rfl rfl (Nat.le_of_ble_eq_true rfl) dX12_run_6 rfl ?_
  refine r_if_eq 12 26 C dX12_run_9 (by decide) rfl (fun c0 => ?_) (fun c0 => ?_)
  · have hf := ifT c0 hf
    refine r_bipush (v := -3) 28 C dX12_run_26 (by decide) rfl ?_
    exact r_iret C E (pr1 hf) (pr2 hf) dX12_run_28
  · have hf := ifF c0 hf
    refine r_aload_n 13 0 C dX12_run_12 rfl rfl rfl ?_
    refine r_get 16 38 2 C inX12 (wd_38 ad u0) rfl (by decide) tw_830 rfl rfl dX12_run_13 rfl ?_
    refine r_iconst (v := 0) 17 C dX12_run_16 (by decide) rfl ?_
    refine r_iaload 18 41 2 C (wd_41 ad u0) (by decide) dX12_run_17 rfl ?_
    obtain ⟨x0, ex0, hf⟩ := nm_of hf
    refine r_nm ex0 ?_
    refine r_iload_n 19 1 C dX12_run_18 rfl rfl rfl ?_
    refine r_iadd 20 C dX12_run_19 rfl ?_
    refine r_sipush (v := 5000) 23 C dX12_run_20 (by decide) rfl ?_
    refine r_icmp_le 26 29 C dX12_run_23 (by decide) rfl (fun c1 => ?_) (fun c1 => ?_)
    · have hf := ifT c1 hf
      refine r_iconst (v := 0) 30 C dX12_run_29 (by decide) rfl ?_
      refine r_istore_n 31 [(0, .ref (ad 38)), (1, .int v1), (2, .int v2), (3, .int (0 : Int32))] [1, 2, 3, 0] C dX12_run_30 rfl (by decide) rfl rfl ?_
      refine r_sub [(0, .ref (ad 38)), (1, .int v1), (2, .int v2), (3, .int (0 : Int32))] [0, 1, 2, 3] rfl ?_
      exact w_X12_run_31 C hR E  FUEL v1 v2 (0 : Int32)    u0 hf
    · have hf := ifF c1 hf
      refine r_bipush (v := -3) 28 C dX12_run_26 (by decide) rfl ?_
      exact r_iret C E (pr1 hf) (pr2 hf) dX12_run_28
def f_X12_write_76   (u : S2) : Option (Int32 × S2) := some (u 38 16, u)
set_option maxRecDepth 20000 in
theorem w_X12_write_76 {K : Ctx} {ad : Nat → Nat} (C : Cx K ad cX12_write 5 yX12_write.cls (some .int)) (hR : Rm K 1 25) {r : Int32} {w : S2} (E : EI K ad r w)    (u : S2) (hf : f_X12_write_76   u = some (r, w)) : RW K ad 5 76 [(0, .ref (ad 38))] [] u := by
  unfold f_X12_write_76 at hf
  refine r_aload_n 77 0 C dX12_write_76 rfl rfl rfl ?_
  refine r_get 80 38 16 C inX12 (wd_38 ad u) rfl (by decide) tw_844 rfl rfl dX12_write_77 rfl ?_
  exact r_iret C E (pr1 hf) (pr2 hf) dX12_write_80
def f_X12_write_33  : Nat → Int64 → Int32 → Int32 → S2 → Option (Int32 × S2)
  | 0, _, _, _, _ => none
  | n + 1, v1, v3, v4, u => (if v3 ≤ v4 then f_X12_write_76    u else nm (Int64.toInt32 (((v1 >>> (Int32.toInt64 ((8 : Int32) * v4) &&& 63)) &&& (255 : Int64)))) (fun x0 => ck (inb (u 38 16) 160) (nm (wr u 53 (Int32.toNatClampNeg (u 38 16)) x0) (fun u0 => nm ((u0 38 16) + (1 : Int32)) (fun x1 => nm (wr u0 38 16 x1) (fun u1 => nm (v4 + (1 : Int32)) (fun x2 => f_X12_write_33  n v1 v3 x2 u1)))))))
theorem f_X12_write_33_e  (n : Nat) (v1 : Int64) (v3 : Int32) (v4 : Int32) (u : S2) : f_X12_write_33  (n + 1) v1 v3 v4 u = (if v3 ≤ v4 then f_X12_write_76    u else nm (Int64.toInt32 (((v1 >>> (Int32.toInt64 ((8 : Int32) * v4) &&& 63)) &&& (255 : Int64)))) (fun x0 => ck (inb (u 38 16) 160) (nm (wr u 53 (Int32.toNatClampNeg (u 38 16)) x0) (fun u0 => nm ((u0 38 16) + (1 : Int32)) (fun x1 => nm (wr u0 38 16 x1) (fun u1 => nm (v4 + (1 : Int32)) (fun x2 => f_X12_write_33  n v1 v3 x2 u1))))))) := rfl
set_option maxRecDepth 20000 in
theorem w_X12_write_33 {K : Ctx} {ad : Nat → Nat} (C : Cx K ad cX12_write 5 yX12_write.cls (some .int)) (hR : Rm K 1 25) {r : Int32} {w : S2} (E : EI K ad r w)  : ∀ (n : Nat) (v1 : Int64) (v3 : Int32) (v4 : Int32)    (u : S2) (hf : f_X12_write_33  n v1 v3 v4 u = some (r, w)), RW K ad 5 33 [(0, .ref (ad 38)), (1, .long v1), (3, .int v3), (4, .int v4)] [] u := by
  intro n
  induction n with
  | zero => intro v1 v3 v4    u hf; cases hf
  | succ n ih =>
    intro v1 v3 v4    u hf
    rw [f_X12_write_33_e] at hf
    refine r_iload 35 3 C dX12_write_33 rfl rfl ?_
    refine r_iload_n 36 2 C dX12_write_35 rfl rfl rfl ?_
    refine r_icmp_ge 39 76 C dX12_write_36 (by decide) rfl (fun c0 => ?_) (fun c0 => ?_)
    · have hf := ifT c0 hf
      refine r_sub [(0, .ref (ad 38))] [0] rfl ?_
      exact w_X12_write_76 C hR E     u hf
    · have hf := ifF c0 hf
      refine r_aload_n 40 0 C dX12_write_39 rfl rfl rfl ?_
      refine r_get 43 38 15 C inX12 (wd_38 ad u) rfl (by decide) tw_843 rfl rfl dX12_write_40 rfl ?_
      refine r_aload_n 44 0 C dX12_write_43 rfl rfl rfl ?_
      refine r_get 47 38 16 C inX12 (wd_38 ad u) rfl (by decide) tw_844 rfl rfl dX12_write_44 rfl ?_
      refine r_lload_n 48 1 C dX12_write_47 rfl rfl rfl ?_
      refine r_bipush (v := 8) 50 C dX12_write_48 (by decide) rfl ?_
      refine r_iload 52 3 C dX12_write_50 rfl rfl ?_
      refine r_imul 53 C dX12_write_52 rfl ?_
      refine r_lshr 54 C dX12_write_53 rfl ?_
      refine r_ldc2 (v := 255) 57 C tw_1083 dX12_write_54 rfl ?_
      refine r_land 58 C dX12_write_57 rfl ?_
      refine r_l2i 59 C dX12_write_58 rfl ?_
      obtain ⟨x0, ex0, hf⟩ := nm_of hf
      refine r_nm ex0 ?_
      obtain ⟨hc0, hf⟩ := ck_of hf
      refine r_iastore 60 53 160 C (wd_53 ad u) (sA_53 ad u) hc0 dX12_write_59 rfl ?_
      obtain ⟨u0, eu0, hf⟩ := nm_of hf
      refine r_st eu0 ?_
      refine r_aload_n 61 0 C dX12_write_60 rfl rfl rfl ?_
      refine r_dup 62 C dX12_write_61 rfl rfl ?_
      refine r_get 65 38 16 C inX12 (wd_38 ad u0) rfl (by decide) tw_844 rfl rfl dX12_write_62 rfl ?_
      refine r_iconst (v := 1) 66 C dX12_write_65 (by decide) rfl ?_
      refine r_iadd 67 C dX12_write_66 rfl ?_
      obtain ⟨x1, ex1, hf⟩ := nm_of hf
      refine r_nm ex1 ?_
      refine r_put 70 38 16 C inX12 tyX12_ok nmX12 (wd_38 ad u0) (sF_38_16 ad u0 x1) rfl (by decide) tw_844 rfl rfl (tyX12_ok 16 (by decide)) rfl rfl (Nat.le_of_ble_eq_true rfl) dX12_write_67 rfl ?_
      obtain ⟨u1, eu1, hf⟩ := nm_of hf
      refine r_st eu1 ?_
      obtain ⟨x2, ex2, hf⟩ := nm_of hf
      refine r_iinc (v := x2) 73 3 [(0, .ref (ad 38)), (1, .long v1), (3, .int v3), (4, .int x2)] [1, 2, 3, 0] C dX12_write_70 rfl (by rw [ex2]; rfl) (by decide) rfl rfl ?_
      refine r_goto 33 C dX12_write_73 (by decide) ?_
      refine r_sub [(0, .ref (ad 38)), (1, .long v1), (3, .int v3), (4, .int x2)] [0, 1, 2, 3] rfl ?_
      exact ih v1 v3 x2    u1 hf
def f_X12_write (v1 : Int64) (v3 : Int32) (u : S2) : Option (Int32 × S2) := bd (f_X12_in ((Int32.toInt64 v3)) ((1 : Int64)) ((8 : Int64)) u) (fun r0 u0 => (if r0 = 0 then some ((-3 : Int32), u0) else (if ((u0 38 16) + v3) ≤ (160 : Int32) then f_X12_write_33  FUEL v1 v3 (0 : Int32) u0 else some ((-5 : Int32), u0))))
set_option maxRecDepth 20000 in
theorem c_X12_write (ad : Nat → Nat) (v1 : Int64) (v3 : Int32)   (u : S2) (r : Int32) (w : S2) (hf : f_X12_write v1 v3 u = some (r, w)) : HI yX12_write cX12_write 5 (some .int) 1 25 ad [.ref (ad 38), .long v1, .int v3] u r w := by
  refine HI_of (by decide) (Nat.le_of_ble_eq_true rfl) (fun K C hR E => ?_)
  refine r_sub [(0, .ref (ad 38)), (1, .long v1), (3, .int v3)] [0, 1, 2] rfl ?_
  unfold f_X12_write at hf
  refine r_iload_n 1 2 C dX12_write_0 rfl rfl rfl ?_
  refine r_i2l 2 C dX12_write_1 rfl ?_
  refine r_lconst (v := 1) 3 C dX12_write_2 (by decide) rfl ?_
  refine r_ldc2 (v := 8) 6 C tw_1082 dX12_write_3 rfl ?_
  obtain ⟨r0, u0, h0, hf⟩ := bd_of hf
  refine r_cSI 9 [.long (Int32.toInt64 v3), .long (1 : Int64), .long (8 : Int64)] C hR (c_X12_in ad ((Int32.toInt64 v3)) ((1 : Int64)) ((8 : Int64))    u r0 u0 h0) q_X12_in tw_945 tw_946 (Nat.le_of_ble_eq_true rfl) (Nat.le_of_ble_eq_true rfl) rfl rfl (Nat.le_of_ble_eq_true rfl) dX12_write_6 rfl ?_
  refine r_if_ne 12 15 C dX12_write_9 (by decide) rfl (fun c0 => ?_) (fun c0 => ?_)
  · have hf := ifF c0 hf
    refine r_aload_n 16 0 C dX12_write_15 rfl rfl rfl ?_
    refine r_get 19 38 16 C inX12 (wd_38 ad u0) rfl (by decide) tw_844 rfl rfl dX12_write_16 rfl ?_
    refine r_iload_n 20 2 C dX12_write_19 rfl rfl rfl ?_
    refine r_iadd 21 C dX12_write_20 rfl ?_
    refine r_sipush (v := 160) 24 C dX12_write_21 (by decide) rfl ?_
    refine r_icmp_le 27 30 C dX12_write_24 (by decide) rfl (fun c1 => ?_) (fun c1 => ?_)
    · have hf := ifT c1 hf
      refine r_iconst (v := 0) 31 C dX12_write_30 (by decide) rfl ?_
      refine r_istore 33 [(0, .ref (ad 38)), (1, .long v1), (3, .int v3), (4, .int (0 : Int32))] [1, 2, 3, 0] C dX12_write_31 (by decide) rfl rfl ?_
      refine r_sub [(0, .ref (ad 38)), (1, .long v1), (3, .int v3), (4, .int (0 : Int32))] [0, 1, 2, 3] rfl ?_
      exact w_X12_write_33 C hR E  FUEL v1 v3 (0 : Int32)    u0 hf
    · have hf := ifF c1 hf
      refine r_bipush (v := -5) 29 C dX12_write_27 (by decide) rfl ?_
      exact r_iret C E (pr1 hf) (pr2 hf) dX12_write_29
  · have hf := ifT c0 hf
    refine r_bipush (v := -3) 14 C dX12_write_12 (by decide) rfl ?_
    exact r_iret C E (pr1 hf) (pr2 hf) dX12_write_14
def f_X12_erase  (u : S2) : Option (Int32 × S2) := nm (u 38 16) (fun x0 => nm (wr u 38 16 (0 : Int32)) (fun u0 => some (x0, u0)))
set_option maxRecDepth 20000 in
theorem c_X12_erase (ad : Nat → Nat)   (u : S2) (r : Int32) (w : S2) (hf : f_X12_erase  u = some (r, w)) : HI yX12_erase cX12_erase 2 (some .int) 0 0 ad [.ref (ad 38)] u r w := by
  refine HI_of (by decide) (Nat.le_of_ble_eq_true rfl) (fun K C hR E => ?_)
  refine r_sub [(0, .ref (ad 38))] [0] rfl ?_
  unfold f_X12_erase at hf
  refine r_aload_n 1 0 C dX12_erase_0 rfl rfl rfl ?_
  refine r_get 4 38 16 C inX12 (wd_38 ad u) rfl (by decide) tw_844 rfl rfl dX12_erase_1 rfl ?_
  obtain ⟨x0, ex0, hf⟩ := nm_of hf
  refine r_nm ex0 ?_
  refine r_istore_n 5 [(0, .ref (ad 38)), (1, .int x0)] [1, 0] C dX12_erase_4 rfl (by decide) rfl rfl ?_
  refine r_aload_n 6 0 C dX12_erase_5 rfl rfl rfl ?_
  refine r_iconst (v := 0) 7 C dX12_erase_6 (by decide) rfl ?_
  refine r_put 10 38 16 C inX12 tyX12_ok nmX12 (wd_38 ad u) (sF_38_16 ad u (0 : Int32)) rfl (by decide) tw_844 rfl rfl (tyX12_ok 16 (by decide)) rfl rfl (Nat.le_of_ble_eq_true rfl) dX12_erase_7 rfl ?_
  obtain ⟨u0, eu0, hf⟩ := nm_of hf
  refine r_st eu0 ?_
  refine r_iload_n 11 1 C dX12_erase_10 rfl rfl rfl ?_
  exact r_iret C E (pr1 hf) (pr2 hf) dX12_erase_11
def f_X12_sort_16  (v0 : Int32) (u : S2) : Option (Int32 × S2) := (if v0 < (48 : Int32) then some ((0 : Int32), u) else (if (57 : Int32) < v0 then some ((0 : Int32), u) else some ((2 : Int32), u)))
set_option maxRecDepth 20000 in
theorem w_X12_sort_16 {K : Ctx} {ad : Nat → Nat} (C : Cx K ad cX12_sort 1 yX12_sort.cls (some .int)) (hR : Rm K 0 0) {r : Int32} {w : S2} (E : EI K ad r w)  (v0 : Int32)  (u : S2) (hf : f_X12_sort_16  v0 u = some (r, w)) : RW K ad 1 16 [(0, .int v0)] [] u := by
  unfold f_X12_sort_16 at hf
  refine r_iload_n 17 0 C dX12_sort_16 rfl rfl rfl ?_
  refine r_bipush (v := 48) 19 C dX12_sort_17 (by decide) rfl ?_
  refine r_icmp_lt 22 32 C dX12_sort_19 (by decide) rfl (fun c0 => ?_) (fun c0 => ?_)
  · have hf := ifT c0 hf
    refine r_iconst (v := 0) 33 C dX12_sort_32 (by decide) rfl ?_
    exact r_iret C E (pr1 hf) (pr2 hf) dX12_sort_33
  · have hf := ifF c0 hf
    refine r_iload_n 23 0 C dX12_sort_22 rfl rfl rfl ?_
    refine r_bipush (v := 57) 25 C dX12_sort_23 (by decide) rfl ?_
    refine r_icmp_gt 28 32 C dX12_sort_25 (by decide) rfl (fun c1 => ?_) (fun c1 => ?_)
    · have hf := ifT c1 hf
      refine r_iconst (v := 0) 33 C dX12_sort_32 (by decide) rfl ?_
      exact r_iret C E (pr1 hf) (pr2 hf) dX12_sort_33
    · have hf := ifF c1 hf
      refine r_iconst (v := 2) 29 C dX12_sort_28 (by decide) rfl ?_
      refine r_goto 33 C dX12_sort_29 (by decide) ?_
      exact r_iret C E (pr1 hf) (pr2 hf) dX12_sort_33
def f_X12_sort (v0 : Int32) (u : S2) : Option (Int32 × S2) := (if v0 < (97 : Int32) then f_X12_sort_16   v0 u else (if (122 : Int32) < v0 then f_X12_sort_16   v0 u else some ((1 : Int32), u)))
set_option maxRecDepth 20000 in
theorem c_X12_sort (ad : Nat → Nat) (v0 : Int32)  (u : S2) (r : Int32) (w : S2) (hf : f_X12_sort v0 u = some (r, w)) : HI yX12_sort cX12_sort 1 (some .int) 0 0 ad [.int v0] u r w := by
  refine HI_of (by decide) (Nat.le_of_ble_eq_true rfl) (fun K C hR E => ?_)
  refine r_sub [(0, .int v0)] [0] rfl ?_
  unfold f_X12_sort at hf
  refine r_iload_n 1 0 C dX12_sort_0 rfl rfl rfl ?_
  refine r_bipush (v := 97) 3 C dX12_sort_1 (by decide) rfl ?_
  refine r_icmp_lt 6 16 C dX12_sort_3 (by decide) rfl (fun c0 => ?_) (fun c0 => ?_)
  · have hf := ifT c0 hf
    refine r_sub [(0, .int v0)] [0] rfl ?_
    exact w_X12_sort_16 C hR E   v0  u hf
  · have hf := ifF c0 hf
    refine r_iload_n 7 0 C dX12_sort_6 rfl rfl rfl ?_
    refine r_bipush (v := 122) 9 C dX12_sort_7 (by decide) rfl ?_
    refine r_icmp_gt 12 16 C dX12_sort_9 (by decide) rfl (fun c1 => ?_) (fun c1 => ?_)
    · have hf := ifT c1 hf
      refine r_sub [(0, .int v0)] [0] rfl ?_
      exact w_X12_sort_16 C hR E   v0  u hf
    · have hf := ifF c1 hf
      refine r_iconst (v := 1) 13 C dX12_sort_12 (by decide) rfl ?_
      refine r_goto 33 C dX12_sort_13 (by decide) ?_
      exact r_iret C E (pr1 hf) (pr2 hf) dX12_sort_33
def f_X12_token_137   (u : S2) : Option (S2) := nm (u 38 29) (fun x0 => nm (wr u 38 31 x0) (fun u0 => some u0))
set_option maxRecDepth 20000 in
theorem w_X12_token_137 {K : Ctx} {ad : Nat → Nat} (C : Cx K ad cX12_token 1 yX12_token.cls none) (hR : Rm K 1 20) {w : S2} (E : EV K ad w)    (u : S2) (hf : f_X12_token_137   u = some w) : RW K ad 1 137 [(0, .ref (ad 38))] [] u := by
  unfold f_X12_token_137 at hf
  refine r_aload_n 138 0 C dX12_token_137 rfl rfl rfl ?_
  refine r_aload_n 139 0 C dX12_token_138 rfl rfl rfl ?_
  refine r_get 142 38 29 C inX12 (wd_38 ad u) rfl (by decide) tw_857 rfl rfl dX12_token_139 rfl ?_
  obtain ⟨x0, ex0, hf⟩ := nm_of hf
  refine r_nm ex0 ?_
  refine r_put 145 38 31 C inX12 tyX12_ok nmX12 (wd_38 ad u) (sF_38_31 ad u x0) rfl (by decide) tw_859 rfl rfl (tyX12_ok 31 (by decide)) rfl rfl (Nat.le_of_ble_eq_true rfl) dX12_token_142 rfl ?_
  obtain ⟨u0, eu0, hf⟩ := nm_of hf
  refine r_st eu0 ?_
  exact r_vret C E (so_of hf) dX12_token_145
def f_X12_token_71  : Nat → S2 → Option (S2)
  | 0, _ => none
  | n + 1, u => (if (u 38 16) ≤ (u 38 29) then f_X12_token_137    u else ck (inb (u 38 30) 160) (nm (u 53 (Int32.toNatClampNeg (u 38 30))) (fun x0 => bd (f_X12_sort x0 u) (fun r0 u0 => (if r0 ≤ 0 then f_X12_token_137    u0 else ck (inb (u0 38 29) 160) (nm (u0 53 (Int32.toNatClampNeg (u0 38 29))) (fun x1 => bd (f_X12_sort x1 u0) (fun r1 u1 => ck (inb (u1 38 30) 160) (nm (u1 53 (Int32.toNatClampNeg (u1 38 30))) (fun x2 => bd (f_X12_sort x2 u1) (fun r2 u2 => (if r1 = r2 then nm ((u2 38 29) + (1 : Int32)) (fun x3 => nm (wr u2 38 29 x3) (fun u3 => f_X12_token_71  n  u3)) else f_X12_token_137    u2))))))))))))
theorem f_X12_token_71_e  (n : Nat)  (u : S2) : f_X12_token_71  (n + 1)  u = (if (u 38 16) ≤ (u 38 29) then f_X12_token_137    u else ck (inb (u 38 30) 160) (nm (u 53 (Int32.toNatClampNeg (u 38 30))) (fun x0 => bd (f_X12_sort x0 u) (fun r0 u0 => (if r0 ≤ 0 then f_X12_token_137    u0 else ck (inb (u0 38 29) 160) (nm (u0 53 (Int32.toNatClampNeg (u0 38 29))) (fun x1 => bd (f_X12_sort x1 u0) (fun r1 u1 => ck (inb (u1 38 30) 160) (nm (u1 53 (Int32.toNatClampNeg (u1 38 30))) (fun x2 => bd (f_X12_sort x2 u1) (fun r2 u2 => (if r1 = r2 then nm ((u2 38 29) + (1 : Int32)) (fun x3 => nm (wr u2 38 29 x3) (fun u3 => f_X12_token_71  n  u3)) else f_X12_token_137    u2)))))))))))) := rfl
set_option maxRecDepth 20000 in
theorem w_X12_token_71 {K : Ctx} {ad : Nat → Nat} (C : Cx K ad cX12_token 1 yX12_token.cls none) (hR : Rm K 1 20) {w : S2} (E : EV K ad w)  : ∀ (n : Nat)   (u : S2) (hf : f_X12_token_71  n  u = some w), RW K ad 1 71 [(0, .ref (ad 38))] [] u := by
  intro n
  induction n with
  | zero => intro   u hf; cases hf
  | succ n ih =>
    intro   u hf
    rw [f_X12_token_71_e] at hf
    refine r_aload_n 72 0 C dX12_token_71 rfl rfl rfl ?_
    refine r_get 75 38 29 C inX12 (wd_38 ad u) rfl (by decide) tw_857 rfl rfl dX12_token_72 rfl ?_
    refine r_aload_n 76 0 C dX12_token_75 rfl rfl rfl ?_
    refine r_get 79 38 16 C inX12 (wd_38 ad u) rfl (by decide) tw_844 rfl rfl dX12_token_76 rfl ?_
    refine r_icmp_ge 82 137 C dX12_token_79 (by decide) rfl (fun c0 => ?_) (fun c0 => ?_)
    · have hf := ifT c0 hf
      refine r_sub [(0, .ref (ad 38))] [0] rfl ?_
      exact w_X12_token_137 C hR E     u hf
    · have hf := ifF c0 hf
      refine r_aload_n 83 0 C dX12_token_82 rfl rfl rfl ?_
      refine r_get 86 38 15 C inX12 (wd_38 ad u) rfl (by decide) tw_843 rfl rfl dX12_token_83 rfl ?_
      refine r_aload_n 87 0 C dX12_token_86 rfl rfl rfl ?_
      refine r_get 90 38 30 C inX12 (wd_38 ad u) rfl (by decide) tw_858 rfl rfl dX12_token_87 rfl ?_
      obtain ⟨hc0, hf⟩ := ck_of hf
      refine r_iaload 91 53 160 C (wd_53 ad u) hc0 dX12_token_90 rfl ?_
      obtain ⟨x0, ex0, hf⟩ := nm_of hf
      refine r_nm ex0 ?_
      obtain ⟨r0, u0, h0, hf⟩ := bd_of hf
      refine r_cSI 94 [.int x0] C hR (c_X12_sort ad x0  u r0 u0 h0) q_X12_sort tw_1096 tw_1097 (Nat.le_of_ble_eq_true rfl) (Nat.le_of_ble_eq_true rfl) rfl rfl (Nat.le_of_ble_eq_true rfl) dX12_token_91 rfl ?_
      refine r_if_le 97 137 C dX12_token_94 (by decide) rfl (fun c1 => ?_) (fun c1 => ?_)
      · have hf := ifT c1 hf
        refine r_sub [(0, .ref (ad 38))] [0] rfl ?_
        exact w_X12_token_137 C hR E     u0 hf
      · have hf := ifF c1 hf
        refine r_aload_n 98 0 C dX12_token_97 rfl rfl rfl ?_
        refine r_get 101 38 15 C inX12 (wd_38 ad u0) rfl (by decide) tw_843 rfl rfl dX12_token_98 rfl ?_
        refine r_aload_n 102 0 C dX12_token_101 rfl rfl rfl ?_
        refine r_get 105 38 29 C inX12 (wd_38 ad u0) rfl (by decide) tw_857 rfl rfl dX12_token_102 rfl ?_
        obtain ⟨hc1, hf⟩ := ck_of hf
        refine r_iaload 106 53 160 C (wd_53 ad u0) hc1 dX12_token_105 rfl ?_
        obtain ⟨x1, ex1, hf⟩ := nm_of hf
        refine r_nm ex1 ?_
        obtain ⟨r1, u1, h1, hf⟩ := bd_of hf
        refine r_cSI 109 [.int x1] C hR (c_X12_sort ad x1  u0 r1 u1 h1) q_X12_sort tw_1096 tw_1097 (Nat.le_of_ble_eq_true rfl) (Nat.le_of_ble_eq_true rfl) rfl rfl (Nat.le_of_ble_eq_true rfl) dX12_token_106 rfl ?_
        refine r_aload_n 110 0 C dX12_token_109 rfl rfl rfl ?_
        refine r_get 113 38 15 C inX12 (wd_38 ad u1) rfl (by decide) tw_843 rfl rfl dX12_token_110 rfl ?_
        refine r_aload_n 114 0 C dX12_token_113 rfl rfl rfl ?_
        refine r_get 117 38 30 C inX12 (wd_38 ad u1) rfl (by decide) tw_858 rfl rfl dX12_token_114 rfl ?_
        obtain ⟨hc2, hf⟩ := ck_of hf
        refine r_iaload 118 53 160 C (wd_53 ad u1) hc2 dX12_token_117 rfl ?_
        obtain ⟨x2, ex2, hf⟩ := nm_of hf
        refine r_nm ex2 ?_
        obtain ⟨r2, u2, h2, hf⟩ := bd_of hf
        refine r_cSI 121 [.int x2] C hR (c_X12_sort ad x2  u1 r2 u2 h2) q_X12_sort tw_1096 tw_1097 (Nat.le_of_ble_eq_true rfl) (Nat.le_of_ble_eq_true rfl) rfl rfl (Nat.le_of_ble_eq_true rfl) dX12_token_118 rfl ?_
        refine r_icmp_ne 124 137 C dX12_token_121 (by decide) rfl (fun c2 => ?_) (fun c2 => ?_)
        · have hf := ifF c2 hf
          refine r_sub [(0, .ref (ad 38))] [0] rfl ?_
          exact w_X12_token_137 C hR E     u2 hf
        · have hf := ifT c2 hf
          refine r_aload_n 125 0 C dX12_token_124 rfl rfl rfl ?_
          refine r_dup 126 C dX12_token_125 rfl rfl ?_
          refine r_get 129 38 29 C inX12 (wd_38 ad u2) rfl (by decide) tw_857 rfl rfl dX12_token_126 rfl ?_
          refine r_iconst (v := 1) 130 C dX12_token_129 (by decide) rfl ?_
          refine r_iadd 131 C dX12_token_130 rfl ?_
          obtain ⟨x3, ex3, hf⟩ := nm_of hf
          refine r_nm ex3 ?_
          refine r_put 134 38 29 C inX12 tyX12_ok nmX12 (wd_38 ad u2) (sF_38_29 ad u2 x3) rfl (by decide) tw_857 rfl rfl (tyX12_ok 29 (by decide)) rfl rfl (Nat.le_of_ble_eq_true rfl) dX12_token_131 rfl ?_
          obtain ⟨u3, eu3, hf⟩ := nm_of hf
          refine r_st eu3 ?_
          refine r_goto 71 C dX12_token_134 (by decide) ?_
          refine r_sub [(0, .ref (ad 38))] [0] rfl ?_
          exact ih   u3 hf
def f_X12_token_67  (t1 : Int32) (t2 : Int32) (u : S2) : Option (S2) := nm (t1 + t2) (fun x0 => nm (wr u 38 29 x0) (fun u0 => f_X12_token_71  FUEL  u0))
set_option maxRecDepth 20000 in
theorem w_X12_token_67 {K : Ctx} {ad : Nat → Nat} (C : Cx K ad cX12_token 1 yX12_token.cls none) (hR : Rm K 1 20) {w : S2} (E : EV K ad w)  (t1 : Int32) (t2 : Int32)   (u : S2) (hf : f_X12_token_67  t1 t2 u = some w) : RW K ad 1 67 [(0, .ref (ad 38))] [.int t2, .int t1, .ref (ad 38)] u := by
  unfold f_X12_token_67 at hf
  refine r_iadd 68 C dX12_token_67 rfl ?_
  obtain ⟨x0, ex0, hf⟩ := nm_of hf
  refine r_nm ex0 ?_
  refine r_put 71 38 29 C inX12 tyX12_ok nmX12 (wd_38 ad u) (sF_38_29 ad u x0) rfl (by decide) tw_857 rfl rfl (tyX12_ok 29 (by decide)) rfl rfl (Nat.le_of_ble_eq_true rfl) dX12_token_68 rfl ?_
  obtain ⟨u0, eu0, hf⟩ := nm_of hf
  refine r_st eu0 ?_
  refine r_sub [(0, .ref (ad 38))] [0] rfl ?_
  exact w_X12_token_71 C hR E  FUEL   u0 hf
def f_X12_token_38   (u : S2) : Option (S2) := nm (u 38 29) (fun x0 => nm (wr u 38 30 x0) (fun u0 => (if (u0 38 16) ≤ (u0 38 29) then f_X12_token_67   (u0 38 29) (0 : Int32) u0 else f_X12_token_67   (u0 38 29) (1 : Int32) u0)))
set_option maxRecDepth 20000 in
theorem w_X12_token_38 {K : Ctx} {ad : Nat → Nat} (C : Cx K ad cX12_token 1 yX12_token.cls none) (hR : Rm K 1 20) {w : S2} (E : EV K ad w)    (u : S2) (hf : f_X12_token_38   u = some w) : RW K ad 1 38 [(0, .ref (ad 38))] [] u := by
  unfold f_X12_token_38 at hf
  refine r_aload_n 39 0 C dX12_token_38 rfl rfl rfl ?_
  refine r_aload_n 40 0 C dX12_token_39 rfl rfl rfl ?_
  refine r_get 43 38 29 C inX12 (wd_38 ad u) rfl (by decide) tw_857 rfl rfl dX12_token_40 rfl ?_
  obtain ⟨x0, ex0, hf⟩ := nm_of hf
  refine r_nm ex0 ?_
  refine r_put 46 38 30 C inX12 tyX12_ok nmX12 (wd_38 ad u) (sF_38_30 ad u x0) rfl (by decide) tw_858 rfl rfl (tyX12_ok 30 (by decide)) rfl rfl (Nat.le_of_ble_eq_true rfl) dX12_token_43 rfl ?_
  obtain ⟨u0, eu0, hf⟩ := nm_of hf
  refine r_st eu0 ?_
  refine r_aload_n 47 0 C dX12_token_46 rfl rfl rfl ?_
  refine r_dup 48 C dX12_token_47 rfl rfl ?_
  refine r_get 51 38 29 C inX12 (wd_38 ad u0) rfl (by decide) tw_857 rfl rfl dX12_token_48 rfl ?_
  refine r_aload_n 52 0 C dX12_token_51 rfl rfl rfl ?_
  refine r_get 55 38 29 C inX12 (wd_38 ad u0) rfl (by decide) tw_857 rfl rfl dX12_token_52 rfl ?_
  refine r_aload_n 56 0 C dX12_token_55 rfl rfl rfl ?_
  refine r_get 59 38 16 C inX12 (wd_38 ad u0) rfl (by decide) tw_844 rfl rfl dX12_token_56 rfl ?_
  refine r_icmp_ge 62 66 C dX12_token_59 (by decide) rfl (fun c0 => ?_) (fun c0 => ?_)
  · have hf := ifT c0 hf
    refine r_iconst (v := 0) 67 C dX12_token_66 (by decide) rfl ?_
    refine r_sub [(0, .ref (ad 38))] [0] rfl ?_
    exact w_X12_token_67 C hR E   (u0 38 29) (0 : Int32)   u0 hf
  · have hf := ifF c0 hf
    refine r_iconst (v := 1) 63 C dX12_token_62 (by decide) rfl ?_
    refine r_goto 67 C dX12_token_63 (by decide) ?_
    refine r_sub [(0, .ref (ad 38))] [0] rfl ?_
    exact w_X12_token_67 C hR E   (u0 38 29) (1 : Int32)   u0 hf
def f_X12_token_0  : Nat → S2 → Option (S2)
  | 0, _ => none
  | n + 1, u => (if (u 38 16) ≤ (u 38 29) then f_X12_token_38    u else ck (inb (u 38 29) 160) (nm (u 53 (Int32.toNatClampNeg (u 38 29))) (fun x0 => (if x0 = (32 : Int32) then nm ((u 38 29) + (1 : Int32)) (fun x1 => nm (wr u 38 29 x1) (fun u0 => f_X12_token_0  n  u0)) else f_X12_token_38    u))))
theorem f_X12_token_0_e  (n : Nat)  (u : S2) : f_X12_token_0  (n + 1)  u = (if (u 38 16) ≤ (u 38 29) then f_X12_token_38    u else ck (inb (u 38 29) 160) (nm (u 53 (Int32.toNatClampNeg (u 38 29))) (fun x0 => (if x0 = (32 : Int32) then nm ((u 38 29) + (1 : Int32)) (fun x1 => nm (wr u 38 29 x1) (fun u0 => f_X12_token_0  n  u0)) else f_X12_token_38    u)))) := rfl
set_option maxRecDepth 20000 in
theorem w_X12_token_0 {K : Ctx} {ad : Nat → Nat} (C : Cx K ad cX12_token 1 yX12_token.cls none) (hR : Rm K 1 20) {w : S2} (E : EV K ad w)  : ∀ (n : Nat)   (u : S2) (hf : f_X12_token_0  n  u = some w), RW K ad 1 0 [(0, .ref (ad 38))] [] u := by
  intro n
  induction n with
  | zero => intro   u hf; cases hf
  | succ n ih =>
    intro   u hf
    rw [f_X12_token_0_e] at hf
    refine r_aload_n 1 0 C dX12_token_0 rfl rfl rfl ?_
    refine r_get 4 38 29 C inX12 (wd_38 ad u) rfl (by decide) tw_857 rfl rfl dX12_token_1 rfl ?_
    refine r_aload_n 5 0 C dX12_token_4 rfl rfl rfl ?_
    refine r_get 8 38 16 C inX12 (wd_38 ad u) rfl (by decide) tw_844 rfl rfl dX12_token_5 rfl ?_
    refine r_icmp_ge 11 38 C dX12_token_8 (by decide) rfl (fun c0 => ?_) (fun c0 => ?_)
    · have hf := ifT c0 hf
      refine r_sub [(0, .ref (ad 38))] [0] rfl ?_
      exact w_X12_token_38 C hR E     u hf
    · have hf := ifF c0 hf
      refine r_aload_n 12 0 C dX12_token_11 rfl rfl rfl ?_
      refine r_get 15 38 15 C inX12 (wd_38 ad u) rfl (by decide) tw_843 rfl rfl dX12_token_12 rfl ?_
      refine r_aload_n 16 0 C dX12_token_15 rfl rfl rfl ?_
      refine r_get 19 38 29 C inX12 (wd_38 ad u) rfl (by decide) tw_857 rfl rfl dX12_token_16 rfl ?_
      obtain ⟨hc0, hf⟩ := ck_of hf
      refine r_iaload 20 53 160 C (wd_53 ad u) hc0 dX12_token_19 rfl ?_
      obtain ⟨x0, ex0, hf⟩ := nm_of hf
      refine r_nm ex0 ?_
      refine r_bipush (v := 32) 22 C dX12_token_20 (by decide) rfl ?_
      refine r_icmp_ne 25 38 C dX12_token_22 (by decide) rfl (fun c1 => ?_) (fun c1 => ?_)
      · have hf := ifF c1 hf
        refine r_sub [(0, .ref (ad 38))] [0] rfl ?_
        exact w_X12_token_38 C hR E     u hf
      · have hf := ifT c1 hf
        refine r_aload_n 26 0 C dX12_token_25 rfl rfl rfl ?_
        refine r_dup 27 C dX12_token_26 rfl rfl ?_
        refine r_get 30 38 29 C inX12 (wd_38 ad u) rfl (by decide) tw_857 rfl rfl dX12_token_27 rfl ?_
        refine r_iconst (v := 1) 31 C dX12_token_30 (by decide) rfl ?_
        refine r_iadd 32 C dX12_token_31 rfl ?_
        obtain ⟨x1, ex1, hf⟩ := nm_of hf
        refine r_nm ex1 ?_
        refine r_put 35 38 29 C inX12 tyX12_ok nmX12 (wd_38 ad u) (sF_38_29 ad u x1) rfl (by decide) tw_857 rfl rfl (tyX12_ok 29 (by decide)) rfl rfl (Nat.le_of_ble_eq_true rfl) dX12_token_32 rfl ?_
        obtain ⟨u0, eu0, hf⟩ := nm_of hf
        refine r_st eu0 ?_
        refine r_goto 0 C dX12_token_35 (by decide) ?_
        refine r_sub [(0, .ref (ad 38))] [0] rfl ?_
        exact ih   u0 hf
def f_X12_token  (u : S2) : Option (S2) := f_X12_token_0  FUEL  u
set_option maxRecDepth 20000 in
theorem c_X12_token (ad : Nat → Nat)   (u : S2) (w : S2) (hf : f_X12_token  u = some w) : HV yX12_token cX12_token 1 none 1 20 ad [.ref (ad 38)] u w := by
  refine HV_of (by decide) (Nat.le_of_ble_eq_true rfl) (fun K C hR E => ?_)
  refine r_sub [(0, .ref (ad 38))] [0] rfl ?_
  unfold f_X12_token at hf
  refine r_sub [(0, .ref (ad 38))] [0] rfl ?_
  exact w_X12_token_0 C hR E  FUEL   u hf
def f_X12_isWord_64 (z22 : Int32 → Int32 → Int32 → Int32 → S2 → Option (Int32 × S2)) (v1 : Int32) (v2 : Int32) (v4 : Int32) (t0 : Int32) (u : S2) : Option (Int32 × S2) := nm (v4 + (1 : Int32)) (fun x0 => z22 v1 v2 t0 x0 u)
set_option maxRecDepth 20000 in
theorem w_X12_isWord_64 {K : Ctx} {ad : Nat → Nat} (C : Cx K ad cX12_isWord 5 yX12_isWord.cls (some .boolean)) (hR : Rm K 0 0) {r : Int32} {w : S2} (E : EI K ad r w) (z22 : Int32 → Int32 → Int32 → Int32 → S2 → Option (Int32 × S2)) (hz22 : ∀ (v1 : Int32) (v2 : Int32) (v3 : Int32) (v4 : Int32)     (u : S2), z22 v1 v2 v3 v4 u = some (r, w) → RW K ad 5 22 [(0, .ref (ad 38)), (1, .int v1), (2, .int v2), (3, .int v3), (4, .int v4)] [] u) (v1 : Int32) (v2 : Int32) (v4 : Int32) (t0 : Int32)     (u : S2) (hf : f_X12_isWord_64 z22 v1 v2 v4 t0 u = some (r, w)) : RW K ad 5 64 [(0, .ref (ad 38)), (1, .int v1), (2, .int v2), (4, .int v4)] [.int t0] u := by
  unfold f_X12_isWord_64 at hf
  refine r_istore_n 65 [(0, .ref (ad 38)), (1, .int v1), (2, .int v2), (3, .int t0), (4, .int v4)] [1, 2, 3, 0, 4] C dX12_isWord_64 rfl (by decide) rfl rfl ?_
  obtain ⟨x0, ex0, hf⟩ := nm_of hf
  refine r_iinc (v := x0) 68 4 [(0, .ref (ad 38)), (1, .int v1), (2, .int v2), (3, .int t0), (4, .int x0)] [1, 2, 3, 4, 0] C dX12_isWord_65 rfl (by rw [ex0]; rfl) (by decide) rfl rfl ?_
  refine r_goto 22 C dX12_isWord_68 (by decide) ?_
  refine r_sub [(0, .ref (ad 38)), (1, .int v1), (2, .int v2), (3, .int t0), (4, .int x0)] [0, 1, 2, 3, 4] rfl ?_
  exact hz22 v1 v2 t0 x0     u hf
def f_X12_isWord_22  : Nat → Int32 → Int32 → Int32 → Int32 → S2 → Option (Int32 × S2)
  | 0, _, _, _, _, _ => none
  | n + 1, v1, v2, v3, v4, u => (if v3 = 0 then ck (isB v3) (some (v3, u)) else (if v2 ≤ v4 then ck (isB v3) (some (v3, u)) else ck (inb ((u 38 30) + v4) 160) (nm (u 53 (Int32.toNatClampNeg ((u 38 30) + v4))) (fun x0 => (if x0 = ((96 : Int32) + ((v1 >>> (((5 : Int32) * v4) &&& 31)) &&& (31 : Int32))) then f_X12_isWord_64 (fun v1 v2 v3 v4 u => f_X12_isWord_22  n v1 v2 v3 v4 u)  v1 v2 v4 (1 : Int32) u else f_X12_isWord_64 (fun v1 v2 v3 v4 u => f_X12_isWord_22  n v1 v2 v3 v4 u)  v1 v2 v4 (0 : Int32) u)))))
theorem f_X12_isWord_22_e  (n : Nat) (v1 : Int32) (v2 : Int32) (v3 : Int32) (v4 : Int32) (u : S2) : f_X12_isWord_22  (n + 1) v1 v2 v3 v4 u = (if v3 = 0 then ck (isB v3) (some (v3, u)) else (if v2 ≤ v4 then ck (isB v3) (some (v3, u)) else ck (inb ((u 38 30) + v4) 160) (nm (u 53 (Int32.toNatClampNeg ((u 38 30) + v4))) (fun x0 => (if x0 = ((96 : Int32) + ((v1 >>> (((5 : Int32) * v4) &&& 31)) &&& (31 : Int32))) then f_X12_isWord_64 (fun v1 v2 v3 v4 u => f_X12_isWord_22  n v1 v2 v3 v4 u)  v1 v2 v4 (1 : Int32) u else f_X12_isWord_64 (fun v1 v2 v3 v4 u => f_X12_isWord_22  n v1 v2 v3 v4 u)  v1 v2 v4 (0 : Int32) u))))) := rfl
set_option maxRecDepth 20000 in
theorem w_X12_isWord_22 {K : Ctx} {ad : Nat → Nat} (C : Cx K ad cX12_isWord 5 yX12_isWord.cls (some .boolean)) (hR : Rm K 0 0) {r : Int32} {w : S2} (E : EI K ad r w)  : ∀ (n : Nat) (v1 : Int32) (v2 : Int32) (v3 : Int32) (v4 : Int32)     (u : S2) (hf : f_X12_isWord_22  n v1 v2 v3 v4 u = some (r, w)), RW K ad 5 22 [(0, .ref (ad 38)), (1, .int v1), (2, .int v2), (3, .int v3), (4, .int v4)] [] u := by
  intro n
  induction n with
  | zero => intro v1 v2 v3 v4     u hf; cases hf
  | succ n ih =>
    intro v1 v2 v3 v4     u hf
    rw [f_X12_isWord_22_e] at hf
    refine r_iload_n 23 3 C dX12_isWord_22 rfl rfl rfl ?_
    refine r_if_eq 26 71 C dX12_isWord_23 (by decide) rfl (fun c0 => ?_) (fun c0 => ?_)
    · have hf := ifT c0 hf
      refine r_iload_n 72 3 C dX12_isWord_71 rfl rfl rfl ?_
      obtain ⟨hc0, hf⟩ := ck_of hf
      exact r_zret C E (isB_nar hc0) (pr1 hf) (pr2 hf) dX12_isWord_72
    · have hf := ifF c0 hf
      refine r_iload 28 4 C dX12_isWord_26 rfl rfl ?_
      refine r_iload_n 29 2 C dX12_isWord_28 rfl rfl rfl ?_
      refine r_icmp_ge 32 71 C dX12_isWord_29 (by decide) rfl (fun c1 => ?_) (fun c1 => ?_)
      · have hf := ifT c1 hf
        refine r_iload_n 72 3 C dX12_isWord_71 rfl rfl rfl ?_
        obtain ⟨hc1, hf⟩ := ck_of hf
        exact r_zret C E (isB_nar hc1) (pr1 hf) (pr2 hf) dX12_isWord_72
      · have hf := ifF c1 hf
        refine r_aload_n 33 0 C dX12_isWord_32 rfl rfl rfl ?_
        refine r_get 36 38 15 C inX12 (wd_38 ad u) rfl (by decide) tw_843 rfl rfl dX12_isWord_33 rfl ?_
        refine r_aload_n 37 0 C dX12_isWord_36 rfl rfl rfl ?_
        refine r_get 40 38 30 C inX12 (wd_38 ad u) rfl (by decide) tw_858 rfl rfl dX12_isWord_37 rfl ?_
        refine r_iload 42 4 C dX12_isWord_40 rfl rfl ?_
        refine r_iadd 43 C dX12_isWord_42 rfl ?_
        obtain ⟨hc2, hf⟩ := ck_of hf
        refine r_iaload 44 53 160 C (wd_53 ad u) hc2 dX12_isWord_43 rfl ?_
        obtain ⟨x0, ex0, hf⟩ := nm_of hf
        refine r_nm ex0 ?_
        refine r_bipush (v := 96) 46 C dX12_isWord_44 (by decide) rfl ?_
        refine r_iload_n 47 1 C dX12_isWord_46 rfl rfl rfl ?_
        refine r_iconst (v := 5) 48 C dX12_isWord_47 (by decide) rfl ?_
        refine r_iload 50 4 C dX12_isWord_48 rfl rfl ?_
        refine r_imul 51 C dX12_isWord_50 rfl ?_
        refine r_ishr 52 C dX12_isWord_51 rfl ?_
        refine r_bipush (v := 31) 54 C dX12_isWord_52 (by decide) rfl ?_
        refine r_iand 55 C dX12_isWord_54 rfl ?_
        refine r_iadd 56 C dX12_isWord_55 rfl ?_
        refine r_icmp_ne 59 63 C dX12_isWord_56 (by decide) rfl (fun c2 => ?_) (fun c2 => ?_)
        · have hf := ifF c2 hf
          refine r_iconst (v := 0) 64 C dX12_isWord_63 (by decide) rfl ?_
          refine r_sub [(0, .ref (ad 38)), (1, .int v1), (2, .int v2), (4, .int v4)] [0, 1, 2, 4] rfl ?_
          exact w_X12_isWord_64 C hR E (fun v1 v2 v3 v4 u => f_X12_isWord_22  n v1 v2 v3 v4 u) (fun v1 v2 v3 v4     u h => ih v1 v2 v3 v4     u h)  v1 v2 v4 (0 : Int32)     u hf
        · have hf := ifT c2 hf
          refine r_iconst (v := 1) 60 C dX12_isWord_59 (by decide) rfl ?_
          refine r_goto 64 C dX12_isWord_60 (by decide) ?_
          refine r_sub [(0, .ref (ad 38)), (1, .int v1), (2, .int v2), (4, .int v4)] [0, 1, 2, 4] rfl ?_
          exact w_X12_isWord_64 C hR E (fun v1 v2 v3 v4 u => f_X12_isWord_22  n v1 v2 v3 v4 u) (fun v1 v2 v3 v4     u h => ih v1 v2 v3 v4     u h)  v1 v2 v4 (1 : Int32)     u hf
def f_X12_isWord_18  (v1 : Int32) (v2 : Int32) (t0 : Int32) (u : S2) : Option (Int32 × S2) := f_X12_isWord_22  FUEL v1 v2 t0 (0 : Int32) u
set_option maxRecDepth 20000 in
theorem w_X12_isWord_18 {K : Ctx} {ad : Nat → Nat} (C : Cx K ad cX12_isWord 5 yX12_isWord.cls (some .boolean)) (hR : Rm K 0 0) {r : Int32} {w : S2} (E : EI K ad r w)  (v1 : Int32) (v2 : Int32) (t0 : Int32)    (u : S2) (hf : f_X12_isWord_18  v1 v2 t0 u = some (r, w)) : RW K ad 5 18 [(0, .ref (ad 38)), (1, .int v1), (2, .int v2)] [.int t0] u := by
  unfold f_X12_isWord_18 at hf
  refine r_istore_n 19 [(0, .ref (ad 38)), (1, .int v1), (2, .int v2), (3, .int t0)] [1, 2, 3, 0] C dX12_isWord_18 rfl (by decide) rfl rfl ?_
  refine r_iconst (v := 0) 20 C dX12_isWord_19 (by decide) rfl ?_
  refine r_istore 22 [(0, .ref (ad 38)), (1, .int v1), (2, .int v2), (3, .int t0), (4, .int (0 : Int32))] [1, 2, 3, 4, 0] C dX12_isWord_20 (by decide) rfl rfl ?_
  refine r_sub [(0, .ref (ad 38)), (1, .int v1), (2, .int v2), (3, .int t0), (4, .int (0 : Int32))] [0, 1, 2, 3, 4] rfl ?_
  exact w_X12_isWord_22 C hR E  FUEL v1 v2 t0 (0 : Int32)     u hf
def f_X12_isWord (v1 : Int32) (v2 : Int32) (u : S2) : Option (Int32 × S2) := (if ((u 38 31) - (u 38 30)) = v2 then f_X12_isWord_18   v1 v2 (1 : Int32) u else f_X12_isWord_18   v1 v2 (0 : Int32) u)
set_option maxRecDepth 20000 in
theorem c_X12_isWord (ad : Nat → Nat) (v1 : Int32) (v2 : Int32)   (u : S2) (r : Int32) (w : S2) (hf : f_X12_isWord v1 v2 u = some (r, w)) : HI yX12_isWord cX12_isWord 5 (some .boolean) 0 0 ad [.ref (ad 38), .int v1, .int v2] u r w := by
  refine HI_of (by decide) (Nat.le_of_ble_eq_true rfl) (fun K C hR E => ?_)
  refine r_sub [(0, .ref (ad 38)), (1, .int v1), (2, .int v2)] [0, 1, 2] rfl ?_
  unfold f_X12_isWord at hf
  refine r_aload_n 1 0 C dX12_isWord_0 rfl rfl rfl ?_
  refine r_get 4 38 31 C inX12 (wd_38 ad u) rfl (by decide) tw_859 rfl rfl dX12_isWord_1 rfl ?_
  refine r_aload_n 5 0 C dX12_isWord_4 rfl rfl rfl ?_
  refine r_get 8 38 30 C inX12 (wd_38 ad u) rfl (by decide) tw_858 rfl rfl dX12_isWord_5 rfl ?_
  refine r_isub 9 C dX12_isWord_8 rfl ?_
  refine r_iload_n 10 2 C dX12_isWord_9 rfl rfl rfl ?_
  refine r_icmp_ne 13 17 C dX12_isWord_10 (by decide) rfl (fun c0 => ?_) (fun c0 => ?_)
  · have hf := ifF c0 hf
    refine r_iconst (v := 0) 18 C dX12_isWord_17 (by decide) rfl ?_
    refine r_sub [(0, .ref (ad 38)), (1, .int v1), (2, .int v2)] [0, 1, 2] rfl ?_
    exact w_X12_isWord_18 C hR E   v1 v2 (0 : Int32)    u hf
  · have hf := ifT c0 hf
    refine r_iconst (v := 1) 14 C dX12_isWord_13 (by decide) rfl ?_
    refine r_goto 18 C dX12_isWord_14 (by decide) ?_
    refine r_sub [(0, .ref (ad 38)), (1, .int v1), (2, .int v2)] [0, 1, 2] rfl ?_
    exact w_X12_isWord_18 C hR E   v1 v2 (1 : Int32)    u hf
def f_X12_readsLine_224  (v1 : Int32) (v2 : Int32) (t0 : Int64) (t1 : Int64) (t2 : Int64) (u : S2) : Option (Int32 × S2) := bd (f_X12_in t0 t1 t2 u) (fun r0 u0 => (if r0 = 0 then some ((0 : Int32), u0) else ck (inb v1 6) (nm (wr u0 55 (Int32.toNatClampNeg v1) v2) (fun u1 => nm ((u1 38 19) + (1 : Int32)) (fun x0 => nm (wr u1 38 19 x0) (fun u2 => bv (f_X12_token  u2) (fun u3 => some ((1 : Int32), u3))))))))
set_option maxRecDepth 20000 in
theorem w_X12_readsLine_224 {K : Ctx} {ad : Nat → Nat} (C : Cx K ad cX12_readsLine 4 yX12_readsLine.cls (some .boolean)) (hR : Rm K 2 40) {r : Int32} {w : S2} (E : EI K ad r w)  (v1 : Int32) (v2 : Int32) (t0 : Int64) (t1 : Int64) (t2 : Int64)      (u : S2) (hf : f_X12_readsLine_224  v1 v2 t0 t1 t2 u = some (r, w)) : RW K ad 4 224 [(0, .ref (ad 38)), (1, .int v1), (2, .int v2)] [.long t2, .long t1, .long t0] u := by
  unfold f_X12_readsLine_224 at hf
  obtain ⟨r0, u0, h0, hf⟩ := bd_of hf
  refine r_cSI 227 [.long t0, .long t1, .long t2] C hR (c_X12_in ad t0 t1 t2    u r0 u0 h0) q_X12_in tw_945 tw_946 (Nat.le_of_ble_eq_true rfl) (Nat.le_of_ble_eq_true rfl) rfl rfl (Nat.le_of_ble_eq_true rfl) dX12_readsLine_224 rfl ?_
  refine r_if_ne 230 232 C dX12_readsLine_227 (by decide) rfl (fun c0 => ?_) (fun c0 => ?_)
  · have hf := ifF c0 hf
    refine r_aload_n 233 0 C dX12_readsLine_232 rfl rfl rfl ?_
    refine r_get 236 38 18 C inX12 (wd_38 ad u0) rfl (by decide) tw_846 rfl rfl dX12_readsLine_233 rfl ?_
    refine r_iload_n 237 1 C dX12_readsLine_236 rfl rfl rfl ?_
    refine r_iload_n 238 2 C dX12_readsLine_237 rfl rfl rfl ?_
    obtain ⟨hc0, hf⟩ := ck_of hf
    refine r_iastore 239 55 6 C (wd_55 ad u0) (sA_55 ad u0) hc0 dX12_readsLine_238 rfl ?_
    obtain ⟨u1, eu1, hf⟩ := nm_of hf
    refine r_st eu1 ?_
    refine r_aload_n 240 0 C dX12_readsLine_239 rfl rfl rfl ?_
    refine r_dup 241 C dX12_readsLine_240 rfl rfl ?_
    refine r_get 244 38 19 C inX12 (wd_38 ad u1) rfl (by decide) tw_847 rfl rfl dX12_readsLine_241 rfl ?_
    refine r_iconst (v := 1) 245 C dX12_readsLine_244 (by decide) rfl ?_
    refine r_iadd 246 C dX12_readsLine_245 rfl ?_
    obtain ⟨x0, ex0, hf⟩ := nm_of hf
    refine r_nm ex0 ?_
    refine r_put 249 38 19 C inX12 tyX12_ok nmX12 (wd_38 ad u1) (sF_38_19 ad u1 x0) rfl (by decide) tw_847 rfl rfl (tyX12_ok 19 (by decide)) rfl rfl (Nat.le_of_ble_eq_true rfl) dX12_readsLine_246 rfl ?_
    obtain ⟨u2, eu2, hf⟩ := nm_of hf
    refine r_st eu2 ?_
    refine r_aload_n 250 0 C dX12_readsLine_249 rfl rfl rfl ?_
    obtain ⟨u3, h1, hf⟩ := bv_of hf
    refine r_cVV 253 [] C hR (c_X12_token ad   u2 u3 h1) q_X12_token tw_1092 (wd_38 ad u2) rfl rfl tw_1094 tp_47 (Nat.le_of_ble_eq_true rfl) (Nat.le_of_ble_eq_true rfl) rfl rfl (Nat.le_of_ble_eq_true rfl) dX12_readsLine_250 rfl ?_
    refine r_iconst (v := 1) 254 C dX12_readsLine_253 (by decide) rfl ?_
    exact r_zret C E rfl (pr1 hf) (pr2 hf) dX12_readsLine_254
  · have hf := ifT c0 hf
    refine r_iconst (v := 0) 231 C dX12_readsLine_230 (by decide) rfl ?_
    exact r_zret C E rfl (pr1 hf) (pr2 hf) dX12_readsLine_231
def f_X12_readsLine_188  (v1 : Int32) (v2 : Int32) (t0 : Int64) (t1 : Int64) (u : S2) : Option (Int32 × S2) := (if v1 = (3 : Int32) then f_X12_readsLine_224   v1 v2 t0 t1 ((35 : Int64)) u else (if v1 = (4 : Int32) then f_X12_readsLine_224   v1 v2 t0 t1 ((99 : Int64)) u else (if v1 = (5 : Int32) then f_X12_readsLine_224   v1 v2 t0 t1 ((2 : Int64)) u else f_X12_readsLine_224   v1 v2 t0 t1 ((999 : Int64)) u)))
set_option maxRecDepth 20000 in
theorem w_X12_readsLine_188 {K : Ctx} {ad : Nat → Nat} (C : Cx K ad cX12_readsLine 4 yX12_readsLine.cls (some .boolean)) (hR : Rm K 2 40) {r : Int32} {w : S2} (E : EI K ad r w)  (v1 : Int32) (v2 : Int32) (t0 : Int64) (t1 : Int64)     (u : S2) (hf : f_X12_readsLine_188  v1 v2 t0 t1 u = some (r, w)) : RW K ad 4 188 [(0, .ref (ad 38)), (1, .int v1), (2, .int v2)] [.long t1, .long t0] u := by
  unfold f_X12_readsLine_188 at hf
  refine r_iload_n 189 1 C dX12_readsLine_188 rfl rfl rfl ?_
  refine r_iconst (v := 3) 190 C dX12_readsLine_189 (by decide) rfl ?_
  refine r_icmp_ne 193 199 C dX12_readsLine_190 (by decide) rfl (fun c0 => ?_) (fun c0 => ?_)
  · have hf := ifF c0 hf
    refine r_iload_n 200 1 C dX12_readsLine_199 rfl rfl rfl ?_
    refine r_iconst (v := 4) 201 C dX12_readsLine_200 (by decide) rfl ?_
    refine r_icmp_ne 204 210 C dX12_readsLine_201 (by decide) rfl (fun c1 => ?_) (fun c1 => ?_)
    · have hf := ifF c1 hf
      refine r_iload_n 211 1 C dX12_readsLine_210 rfl rfl rfl ?_
      refine r_iconst (v := 5) 212 C dX12_readsLine_211 (by decide) rfl ?_
      refine r_icmp_ne 215 221 C dX12_readsLine_212 (by decide) rfl (fun c2 => ?_) (fun c2 => ?_)
      · have hf := ifF c2 hf
        refine r_ldc2 (v := 999) 224 C tw_967 dX12_readsLine_221 rfl ?_
        refine r_sub [(0, .ref (ad 38)), (1, .int v1), (2, .int v2)] [0, 1, 2] rfl ?_
        exact w_X12_readsLine_224 C hR E   v1 v2 t0 t1 ((999 : Int64))      u hf
      · have hf := ifT c2 hf
        refine r_ldc2 (v := 2) 218 C tw_979 dX12_readsLine_215 rfl ?_
        refine r_goto 224 C dX12_readsLine_218 (by decide) ?_
        refine r_sub [(0, .ref (ad 38)), (1, .int v1), (2, .int v2)] [0, 1, 2] rfl ?_
        exact w_X12_readsLine_224 C hR E   v1 v2 t0 t1 ((2 : Int64))      u hf
    · have hf := ifT c1 hf
      refine r_ldc2 (v := 99) 207 C tw_952 dX12_readsLine_204 rfl ?_
      refine r_goto 224 C dX12_readsLine_207 (by decide) ?_
      refine r_sub [(0, .ref (ad 38)), (1, .int v1), (2, .int v2)] [0, 1, 2] rfl ?_
      exact w_X12_readsLine_224 C hR E   v1 v2 t0 t1 ((99 : Int64))      u hf
  · have hf := ifT c0 hf
    refine r_ldc2 (v := 35) 196 C tw_953 dX12_readsLine_193 rfl ?_
    refine r_goto 224 C dX12_readsLine_196 (by decide) ?_
    refine r_sub [(0, .ref (ad 38)), (1, .int v1), (2, .int v2)] [0, 1, 2] rfl ?_
    exact w_X12_readsLine_224 C hR E   v1 v2 t0 t1 ((35 : Int64))      u hf
def f_X12_readsLine_176  (v1 : Int32) (v2 : Int32) (u : S2) : Option (Int32 × S2) := (if v1 = (4 : Int32) then f_X12_readsLine_188   v1 v2 ((Int32.toInt64 v2)) ((1 : Int64)) u else f_X12_readsLine_188   v1 v2 ((Int32.toInt64 v2)) ((0 : Int64)) u)
set_option maxRecDepth 20000 in
theorem w_X12_readsLine_176 {K : Ctx} {ad : Nat → Nat} (C : Cx K ad cX12_readsLine 4 yX12_readsLine.cls (some .boolean)) (hR : Rm K 2 40) {r : Int32} {w : S2} (E : EI K ad r w)  (v1 : Int32) (v2 : Int32)   (u : S2) (hf : f_X12_readsLine_176  v1 v2 u = some (r, w)) : RW K ad 4 176 [(0, .ref (ad 38)), (1, .int v1), (2, .int v2)] [] u := by
  unfold f_X12_readsLine_176 at hf
  refine r_iload_n 177 2 C dX12_readsLine_176 rfl rfl rfl ?_
  refine r_i2l 178 C dX12_readsLine_177 rfl ?_
  refine r_iload_n 179 1 C dX12_readsLine_178 rfl rfl rfl ?_
  refine r_iconst (v := 4) 180 C dX12_readsLine_179 (by decide) rfl ?_
  refine r_icmp_ne 183 187 C dX12_readsLine_180 (by decide) rfl (fun c0 => ?_) (fun c0 => ?_)
  · have hf := ifF c0 hf
    refine r_lconst (v := 0) 188 C dX12_readsLine_187 (by decide) rfl ?_
    refine r_sub [(0, .ref (ad 38)), (1, .int v1), (2, .int v2)] [0, 1, 2] rfl ?_
    exact w_X12_readsLine_188 C hR E   v1 v2 ((Int32.toInt64 v2)) ((0 : Int64))     u hf
  · have hf := ifT c0 hf
    refine r_lconst (v := 1) 184 C dX12_readsLine_183 (by decide) rfl ?_
    refine r_goto 188 C dX12_readsLine_184 (by decide) ?_
    refine r_sub [(0, .ref (ad 38)), (1, .int v1), (2, .int v2)] [0, 1, 2] rfl ?_
    exact w_X12_readsLine_188 C hR E   v1 v2 ((Int32.toInt64 v2)) ((1 : Int64))     u hf
def f_X12_readsLine_147  : Nat → Int32 → Int32 → Int32 → S2 → Option (Int32 × S2)
  | 0, _, _, _, _ => none
  | n + 1, v1, v2, v3, u => (if (u 38 31) ≤ v3 then f_X12_readsLine_176   v1 v2 u else ck (inb v3 160) (nm (u 53 (Int32.toNatClampNeg v3)) (fun x0 => nm ((((10 : Int32) * v2) + x0) - (48 : Int32)) (fun x1 => nm (v3 + (1 : Int32)) (fun x2 => f_X12_readsLine_147  n v1 x1 x2 u)))))
theorem f_X12_readsLine_147_e  (n : Nat) (v1 : Int32) (v2 : Int32) (v3 : Int32) (u : S2) : f_X12_readsLine_147  (n + 1) v1 v2 v3 u = (if (u 38 31) ≤ v3 then f_X12_readsLine_176   v1 v2 u else ck (inb v3 160) (nm (u 53 (Int32.toNatClampNeg v3)) (fun x0 => nm ((((10 : Int32) * v2) + x0) - (48 : Int32)) (fun x1 => nm (v3 + (1 : Int32)) (fun x2 => f_X12_readsLine_147  n v1 x1 x2 u))))) := rfl
set_option maxRecDepth 20000 in
theorem w_X12_readsLine_147 {K : Ctx} {ad : Nat → Nat} (C : Cx K ad cX12_readsLine 4 yX12_readsLine.cls (some .boolean)) (hR : Rm K 2 40) {r : Int32} {w : S2} (E : EI K ad r w)  : ∀ (n : Nat) (v1 : Int32) (v2 : Int32) (v3 : Int32)    (u : S2) (hf : f_X12_readsLine_147  n v1 v2 v3 u = some (r, w)), RW K ad 4 147 [(0, .ref (ad 38)), (1, .int v1), (2, .int v2), (3, .int v3)] [] u := by
  intro n
  induction n with
  | zero => intro v1 v2 v3    u hf; cases hf
  | succ n ih =>
    intro v1 v2 v3    u hf
    rw [f_X12_readsLine_147_e] at hf
    refine r_iload_n 148 3 C dX12_readsLine_147 rfl rfl rfl ?_
    refine r_aload_n 149 0 C dX12_readsLine_148 rfl rfl rfl ?_
    refine r_get 152 38 31 C inX12 (wd_38 ad u) rfl (by decide) tw_859 rfl rfl dX12_readsLine_149 rfl ?_
    refine r_icmp_ge 155 176 C dX12_readsLine_152 (by decide) rfl (fun c0 => ?_) (fun c0 => ?_)
    · have hf := ifT c0 hf
      refine r_sub [(0, .ref (ad 38)), (1, .int v1), (2, .int v2)] [0, 1, 2] rfl ?_
      exact w_X12_readsLine_176 C hR E   v1 v2   u hf
    · have hf := ifF c0 hf
      refine r_bipush (v := 10) 157 C dX12_readsLine_155 (by decide) rfl ?_
      refine r_iload_n 158 2 C dX12_readsLine_157 rfl rfl rfl ?_
      refine r_imul 159 C dX12_readsLine_158 rfl ?_
      refine r_aload_n 160 0 C dX12_readsLine_159 rfl rfl rfl ?_
      refine r_get 163 38 15 C inX12 (wd_38 ad u) rfl (by decide) tw_843 rfl rfl dX12_readsLine_160 rfl ?_
      refine r_iload_n 164 3 C dX12_readsLine_163 rfl rfl rfl ?_
      obtain ⟨hc0, hf⟩ := ck_of hf
      refine r_iaload 165 53 160 C (wd_53 ad u) hc0 dX12_readsLine_164 rfl ?_
      obtain ⟨x0, ex0, hf⟩ := nm_of hf
      refine r_nm ex0 ?_
      refine r_iadd 166 C dX12_readsLine_165 rfl ?_
      refine r_bipush (v := 48) 168 C dX12_readsLine_166 (by decide) rfl ?_
      refine r_isub 169 C dX12_readsLine_168 rfl ?_
      obtain ⟨x1, ex1, hf⟩ := nm_of hf
      refine r_nm ex1 ?_
      refine r_istore_n 170 [(0, .ref (ad 38)), (1, .int v1), (2, .int x1), (3, .int v3)] [1, 2, 0, 3] C dX12_readsLine_169 rfl (by decide) rfl rfl ?_
      obtain ⟨x2, ex2, hf⟩ := nm_of hf
      refine r_iinc (v := x2) 173 3 [(0, .ref (ad 38)), (1, .int v1), (2, .int x1), (3, .int x2)] [1, 2, 3, 0] C dX12_readsLine_170 rfl (by rw [ex2]; rfl) (by decide) rfl rfl ?_
      refine r_goto 147 C dX12_readsLine_173 (by decide) ?_
      refine r_sub [(0, .ref (ad 38)), (1, .int v1), (2, .int x1), (3, .int x2)] [0, 1, 2, 3] rfl ?_
      exact ih v1 x1 x2    u hf
def f_X12_readsLine_86  (t0 : Int32) (u : S2) : Option (Int32 × S2) := (if t0 = (-1 : Int32) then some ((0 : Int32), u) else bv (f_X12_token  u) (fun u0 => (if (u0 38 30) = (u0 38 16) then some ((0 : Int32), u0) else ck (inb (u0 38 30) 160) (nm (u0 53 (Int32.toNatClampNeg (u0 38 30))) (fun x0 => bd (f_X12_sort x0 u0) (fun r0 u1 => (if r0 = (2 : Int32) then (if ((u1 38 31) - (u1 38 30)) ≤ (3 : Int32) then nm (u1 38 30) (fun x1 => f_X12_readsLine_147  FUEL t0 (0 : Int32) x1 u1) else some ((0 : Int32), u1)) else some ((0 : Int32), u1))))))))
set_option maxRecDepth 20000 in
theorem w_X12_readsLine_86 {K : Ctx} {ad : Nat → Nat} (C : Cx K ad cX12_readsLine 4 yX12_readsLine.cls (some .boolean)) (hR : Rm K 2 40) {r : Int32} {w : S2} (E : EI K ad r w)  (t0 : Int32)  (u : S2) (hf : f_X12_readsLine_86  t0 u = some (r, w)) : RW K ad 4 86 [(0, .ref (ad 38))] [.int t0] u := by
  unfold f_X12_readsLine_86 at hf
  refine r_istore_n 87 [(0, .ref (ad 38)), (1, .int t0)] [1, 0] C dX12_readsLine_86 rfl (by decide) rfl rfl ?_
  refine r_iload_n 88 1 C dX12_readsLine_87 rfl rfl rfl ?_
  refine r_iconst (v := -1) 89 C dX12_readsLine_88 (by decide) rfl ?_
  refine r_icmp_ne 92 94 C dX12_readsLine_89 (by decide) rfl (fun c0 => ?_) (fun c0 => ?_)
  · have hf := ifF c0 hf
    refine r_aload_n 95 0 C dX12_readsLine_94 rfl rfl rfl ?_
    obtain ⟨u0, h0, hf⟩ := bv_of hf
    refine r_cVV 98 [] C hR (c_X12_token ad   u u0 h0) q_X12_token tw_1092 (wd_38 ad u) rfl rfl tw_1094 tp_47 (Nat.le_of_ble_eq_true rfl) (Nat.le_of_ble_eq_true rfl) rfl rfl (Nat.le_of_ble_eq_true rfl) dX12_readsLine_95 rfl ?_
    refine r_aload_n 99 0 C dX12_readsLine_98 rfl rfl rfl ?_
    refine r_get 102 38 30 C inX12 (wd_38 ad u0) rfl (by decide) tw_858 rfl rfl dX12_readsLine_99 rfl ?_
    refine r_aload_n 103 0 C dX12_readsLine_102 rfl rfl rfl ?_
    refine r_get 106 38 16 C inX12 (wd_38 ad u0) rfl (by decide) tw_844 rfl rfl dX12_readsLine_103 rfl ?_
    refine r_icmp_eq 109 138 C dX12_readsLine_106 (by decide) rfl (fun c1 => ?_) (fun c1 => ?_)
    · have hf := ifT c1 hf
      refine r_iconst (v := 0) 139 C dX12_readsLine_138 (by decide) rfl ?_
      exact r_zret C E rfl (pr1 hf) (pr2 hf) dX12_readsLine_139
    · have hf := ifF c1 hf
      refine r_aload_n 110 0 C dX12_readsLine_109 rfl rfl rfl ?_
      refine r_get 113 38 15 C inX12 (wd_38 ad u0) rfl (by decide) tw_843 rfl rfl dX12_readsLine_110 rfl ?_
      refine r_aload_n 114 0 C dX12_readsLine_113 rfl rfl rfl ?_
      refine r_get 117 38 30 C inX12 (wd_38 ad u0) rfl (by decide) tw_858 rfl rfl dX12_readsLine_114 rfl ?_
      obtain ⟨hc0, hf⟩ := ck_of hf
      refine r_iaload 118 53 160 C (wd_53 ad u0) hc0 dX12_readsLine_117 rfl ?_
      obtain ⟨x0, ex0, hf⟩ := nm_of hf
      refine r_nm ex0 ?_
      obtain ⟨r0, u1, h1, hf⟩ := bd_of hf
      refine r_cSI 121 [.int x0] C hR (c_X12_sort ad x0  u0 r0 u1 h1) q_X12_sort tw_1096 tw_1097 (Nat.le_of_ble_eq_true rfl) (Nat.le_of_ble_eq_true rfl) rfl rfl (Nat.le_of_ble_eq_true rfl) dX12_readsLine_118 rfl ?_
      refine r_iconst (v := 2) 122 C dX12_readsLine_121 (by decide) rfl ?_
      refine r_icmp_ne 125 138 C dX12_readsLine_122 (by decide) rfl (fun c2 => ?_) (fun c2 => ?_)
      · have hf := ifF c2 hf
        refine r_iconst (v := 0) 139 C dX12_readsLine_138 (by decide) rfl ?_
        exact r_zret C E rfl (pr1 hf) (pr2 hf) dX12_readsLine_139
      · have hf := ifT c2 hf
        refine r_aload_n 126 0 C dX12_readsLine_125 rfl rfl rfl ?_
        refine r_get 129 38 31 C inX12 (wd_38 ad u1) rfl (by decide) tw_859 rfl rfl dX12_readsLine_126 rfl ?_
        refine r_aload_n 130 0 C dX12_readsLine_129 rfl rfl rfl ?_
        refine r_get 133 38 30 C inX12 (wd_38 ad u1) rfl (by decide) tw_858 rfl rfl dX12_readsLine_130 rfl ?_
        refine r_isub 134 C dX12_readsLine_133 rfl ?_
        refine r_iconst (v := 3) 135 C dX12_readsLine_134 (by decide) rfl ?_
        refine r_icmp_le 138 140 C dX12_readsLine_135 (by decide) rfl (fun c3 => ?_) (fun c3 => ?_)
        · have hf := ifT c3 hf
          refine r_iconst (v := 0) 141 C dX12_readsLine_140 (by decide) rfl ?_
          refine r_istore_n 142 [(0, .ref (ad 38)), (1, .int t0), (2, .int (0 : Int32))] [1, 2, 0] C dX12_readsLine_141 rfl (by decide) rfl rfl ?_
          refine r_aload_n 143 0 C dX12_readsLine_142 rfl rfl rfl ?_
          refine r_get 146 38 30 C inX12 (wd_38 ad u1) rfl (by decide) tw_858 rfl rfl dX12_readsLine_143 rfl ?_
          obtain ⟨x1, ex1, hf⟩ := nm_of hf
          refine r_nm ex1 ?_
          refine r_istore_n 147 [(0, .ref (ad 38)), (1, .int t0), (2, .int (0 : Int32)), (3, .int x1)] [1, 2, 3, 0] C dX12_readsLine_146 rfl (by decide) rfl rfl ?_
          refine r_sub [(0, .ref (ad 38)), (1, .int t0), (2, .int (0 : Int32)), (3, .int x1)] [0, 1, 2, 3] rfl ?_
          exact w_X12_readsLine_147 C hR E  FUEL t0 (0 : Int32) x1    u1 hf
        · have hf := ifF c3 hf
          refine r_iconst (v := 0) 139 C dX12_readsLine_138 (by decide) rfl ?_
          exact r_zret C E rfl (pr1 hf) (pr2 hf) dX12_readsLine_139
  · have hf := ifT c0 hf
    refine r_iconst (v := 0) 93 C dX12_readsLine_92 (by decide) rfl ?_
    exact r_zret C E rfl (pr1 hf) (pr2 hf) dX12_readsLine_93
def f_X12_readsLine  (u : S2) : Option (Int32 × S2) := bd (f_X12_isWord (132260 : Int32) (4 : Int32) u) (fun r0 u0 => (if r0 = 0 then bd (f_X12_isWord (468007 : Int32) (4 : Int32) u0) (fun r1 u1 => (if r1 = 0 then bd (f_X12_isWord (660653 : Int32) (4 : Int32) u1) (fun r2 u2 => (if r2 = 0 then bd (f_X12_isWord (675309 : Int32) (4 : Int32) u2) (fun r3 u3 => (if r3 = 0 then bd (f_X12_isWord (26810053 : Int32) (5 : Int32) u3) (fun r4 u4 => (if r4 = 0 then bd (f_X12_isWord (802 : Int32) (2 : Int32) u4) (fun r5 u5 => (if r5 = 0 then f_X12_readsLine_86   (-1 : Int32) u5 else f_X12_readsLine_86   (5 : Int32) u5)) else f_X12_readsLine_86   (4 : Int32) u4)) else f_X12_readsLine_86   (3 : Int32) u3)) else f_X12_readsLine_86   (2 : Int32) u2)) else f_X12_readsLine_86   (1 : Int32) u1)) else f_X12_readsLine_86   (0 : Int32) u0))
set_option maxRecDepth 20000 in
theorem c_X12_readsLine (ad : Nat → Nat)   (u : S2) (r : Int32) (w : S2) (hf : f_X12_readsLine  u = some (r, w)) : HI yX12_readsLine cX12_readsLine 4 (some .boolean) 2 40 ad [.ref (ad 38)] u r w := by
  refine HI_of (by decide) (Nat.le_of_ble_eq_true rfl) (fun K C hR E => ?_)
  refine r_sub [(0, .ref (ad 38))] [0] rfl ?_
  unfold f_X12_readsLine at hf
  refine r_aload_n 1 0 C dX12_readsLine_0 rfl rfl rfl ?_
  refine r_ldc (v := 132260) 3 C tw_1103 dX12_readsLine_1 rfl ?_
  refine r_iconst (v := 4) 4 C dX12_readsLine_3 (by decide) rfl ?_
  obtain ⟨r0, u0, h0, hf⟩ := bd_of hf
  refine r_cVI 7 [.int (132260 : Int32), .int (4 : Int32)] C hR (c_X12_isWord ad (132260 : Int32) (4 : Int32)    u r0 u0 h0) q_X12_isWord tw_1104 (wd_38 ad u) rfl rfl tw_1106 tp_49 (Nat.le_of_ble_eq_true rfl) (Nat.le_of_ble_eq_true rfl) rfl rfl (Nat.le_of_ble_eq_true rfl) dX12_readsLine_4 rfl ?_
  refine r_if_eq 10 14 C dX12_readsLine_7 (by decide) rfl (fun c0 => ?_) (fun c0 => ?_)
  · have hf := ifT c0 hf
    refine r_aload_n 15 0 C dX12_readsLine_14 rfl rfl rfl ?_
    refine r_ldc (v := 468007) 17 C tw_1108 dX12_readsLine_15 rfl ?_
    refine r_iconst (v := 4) 18 C dX12_readsLine_17 (by decide) rfl ?_
    obtain ⟨r1, u1, h1, hf⟩ := bd_of hf
    refine r_cVI 21 [.int (468007 : Int32), .int (4 : Int32)] C hR (c_X12_isWord ad (468007 : Int32) (4 : Int32)    u0 r1 u1 h1) q_X12_isWord tw_1104 (wd_38 ad u0) rfl rfl tw_1106 tp_49 (Nat.le_of_ble_eq_true rfl) (Nat.le_of_ble_eq_true rfl) rfl rfl (Nat.le_of_ble_eq_true rfl) dX12_readsLine_18 rfl ?_
    refine r_if_eq 24 28 C dX12_readsLine_21 (by decide) rfl (fun c1 => ?_) (fun c1 => ?_)
    · have hf := ifT c1 hf
      refine r_aload_n 29 0 C dX12_readsLine_28 rfl rfl rfl ?_
      refine r_ldc (v := 660653) 31 C tw_1109 dX12_readsLine_29 rfl ?_
      refine r_iconst (v := 4) 32 C dX12_readsLine_31 (by decide) rfl ?_
      obtain ⟨r2, u2, h2, hf⟩ := bd_of hf
      refine r_cVI 35 [.int (660653 : Int32), .int (4 : Int32)] C hR (c_X12_isWord ad (660653 : Int32) (4 : Int32)    u1 r2 u2 h2) q_X12_isWord tw_1104 (wd_38 ad u1) rfl rfl tw_1106 tp_49 (Nat.le_of_ble_eq_true rfl) (Nat.le_of_ble_eq_true rfl) rfl rfl (Nat.le_of_ble_eq_true rfl) dX12_readsLine_32 rfl ?_
      refine r_if_eq 38 42 C dX12_readsLine_35 (by decide) rfl (fun c2 => ?_) (fun c2 => ?_)
      · have hf := ifT c2 hf
        refine r_aload_n 43 0 C dX12_readsLine_42 rfl rfl rfl ?_
        refine r_ldc (v := 675309) 45 C tw_1110 dX12_readsLine_43 rfl ?_
        refine r_iconst (v := 4) 46 C dX12_readsLine_45 (by decide) rfl ?_
        obtain ⟨r3, u3, h3, hf⟩ := bd_of hf
        refine r_cVI 49 [.int (675309 : Int32), .int (4 : Int32)] C hR (c_X12_isWord ad (675309 : Int32) (4 : Int32)    u2 r3 u3 h3) q_X12_isWord tw_1104 (wd_38 ad u2) rfl rfl tw_1106 tp_49 (Nat.le_of_ble_eq_true rfl) (Nat.le_of_ble_eq_true rfl) rfl rfl (Nat.le_of_ble_eq_true rfl) dX12_readsLine_46 rfl ?_
        refine r_if_eq 52 56 C dX12_readsLine_49 (by decide) rfl (fun c3 => ?_) (fun c3 => ?_)
        · have hf := ifT c3 hf
          refine r_aload_n 57 0 C dX12_readsLine_56 rfl rfl rfl ?_
          refine r_ldc (v := 26810053) 59 C tw_1111 dX12_readsLine_57 rfl ?_
          refine r_iconst (v := 5) 60 C dX12_readsLine_59 (by decide) rfl ?_
          obtain ⟨r4, u4, h4, hf⟩ := bd_of hf
          refine r_cVI 63 [.int (26810053 : Int32), .int (5 : Int32)] C hR (c_X12_isWord ad (26810053 : Int32) (5 : Int32)    u3 r4 u4 h4) q_X12_isWord tw_1104 (wd_38 ad u3) rfl rfl tw_1106 tp_49 (Nat.le_of_ble_eq_true rfl) (Nat.le_of_ble_eq_true rfl) rfl rfl (Nat.le_of_ble_eq_true rfl) dX12_readsLine_60 rfl ?_
          refine r_if_eq 66 70 C dX12_readsLine_63 (by decide) rfl (fun c4 => ?_) (fun c4 => ?_)
          · have hf := ifT c4 hf
            refine r_aload_n 71 0 C dX12_readsLine_70 rfl rfl rfl ?_
            refine r_sipush (v := 802) 74 C dX12_readsLine_71 (by decide) rfl ?_
            refine r_iconst (v := 2) 75 C dX12_readsLine_74 (by decide) rfl ?_
            obtain ⟨r5, u5, h5, hf⟩ := bd_of hf
            refine r_cVI 78 [.int (802 : Int32), .int (2 : Int32)] C hR (c_X12_isWord ad (802 : Int32) (2 : Int32)    u4 r5 u5 h5) q_X12_isWord tw_1104 (wd_38 ad u4) rfl rfl tw_1106 tp_49 (Nat.le_of_ble_eq_true rfl) (Nat.le_of_ble_eq_true rfl) rfl rfl (Nat.le_of_ble_eq_true rfl) dX12_readsLine_75 rfl ?_
            refine r_if_eq 81 85 C dX12_readsLine_78 (by decide) rfl (fun c5 => ?_) (fun c5 => ?_)
            · have hf := ifT c5 hf
              refine r_iconst (v := -1) 86 C dX12_readsLine_85 (by decide) rfl ?_
              refine r_sub [(0, .ref (ad 38))] [0] rfl ?_
              exact w_X12_readsLine_86 C hR E   (-1 : Int32)  u5 hf
            · have hf := ifF c5 hf
              refine r_iconst (v := 5) 82 C dX12_readsLine_81 (by decide) rfl ?_
              refine r_goto 86 C dX12_readsLine_82 (by decide) ?_
              refine r_sub [(0, .ref (ad 38))] [0] rfl ?_
              exact w_X12_readsLine_86 C hR E   (5 : Int32)  u5 hf
          · have hf := ifF c4 hf
            refine r_iconst (v := 4) 67 C dX12_readsLine_66 (by decide) rfl ?_
            refine r_goto 86 C dX12_readsLine_67 (by decide) ?_
            refine r_sub [(0, .ref (ad 38))] [0] rfl ?_
            exact w_X12_readsLine_86 C hR E   (4 : Int32)  u4 hf
        · have hf := ifF c3 hf
          refine r_iconst (v := 3) 53 C dX12_readsLine_52 (by decide) rfl ?_
          refine r_goto 86 C dX12_readsLine_53 (by decide) ?_
          refine r_sub [(0, .ref (ad 38))] [0] rfl ?_
          exact w_X12_readsLine_86 C hR E   (3 : Int32)  u3 hf
      · have hf := ifF c2 hf
        refine r_iconst (v := 2) 39 C dX12_readsLine_38 (by decide) rfl ?_
        refine r_goto 86 C dX12_readsLine_39 (by decide) ?_
        refine r_sub [(0, .ref (ad 38))] [0] rfl ?_
        exact w_X12_readsLine_86 C hR E   (2 : Int32)  u2 hf
    · have hf := ifF c1 hf
      refine r_iconst (v := 1) 25 C dX12_readsLine_24 (by decide) rfl ?_
      refine r_goto 86 C dX12_readsLine_25 (by decide) ?_
      refine r_sub [(0, .ref (ad 38))] [0] rfl ?_
      exact w_X12_readsLine_86 C hR E   (1 : Int32)  u1 hf
  · have hf := ifF c0 hf
    refine r_iconst (v := 0) 11 C dX12_readsLine_10 (by decide) rfl ?_
    refine r_goto 86 C dX12_readsLine_11 (by decide) ?_
    refine r_sub [(0, .ref (ad 38))] [0] rfl ?_
    exact w_X12_readsLine_86 C hR E   (0 : Int32)  u0 hf
def f_X12_fault_146   (u : S2) : Option (Int32 × S2) := some (u 38 30, u)
set_option maxRecDepth 20000 in
theorem w_X12_fault_146 {K : Ctx} {ad : Nat → Nat} (C : Cx K ad cX12_fault 2 yX12_fault.cls (some .int)) (hR : Rm K 3 63) {r : Int32} {w : S2} (E : EI K ad r w)    (u : S2) (hf : f_X12_fault_146   u = some (r, w)) : RW K ad 2 146 [(0, .ref (ad 38))] [] u := by
  unfold f_X12_fault_146 at hf
  refine r_aload_n 147 0 C dX12_fault_146 rfl rfl rfl ?_
  refine r_get 150 38 30 C inX12 (wd_38 ad u) rfl (by decide) tw_858 rfl rfl dX12_fault_147 rfl ?_
  exact r_iret C E (pr1 hf) (pr2 hf) dX12_fault_150
def f_X12_fault_142 (z76 : S2 → Option (Int32 × S2)) (v1 : Int32) (u : S2) : Option (Int32 × S2) := (if v1 = 0 then f_X12_fault_146    u else z76  u)
set_option maxRecDepth 20000 in
theorem w_X12_fault_142 {K : Ctx} {ad : Nat → Nat} (C : Cx K ad cX12_fault 2 yX12_fault.cls (some .int)) (hR : Rm K 3 63) {r : Int32} {w : S2} (E : EI K ad r w) (z76 : S2 → Option (Int32 × S2)) (hz76 : ∀   (u : S2), z76  u = some (r, w) → RW K ad 2 76 [(0, .ref (ad 38))] [] u) (v1 : Int32)  (u : S2) (hf : f_X12_fault_142 z76 v1 u = some (r, w)) : RW K ad 2 142 [(0, .ref (ad 38)), (1, .int v1)] [] u := by
  unfold f_X12_fault_142 at hf
  refine r_iload_n 143 1 C dX12_fault_142 rfl rfl rfl ?_
  refine r_if_ne 146 151 C dX12_fault_143 (by decide) rfl (fun c0 => ?_) (fun c0 => ?_)
  · have hf := ifF c0 hf
    refine r_goto 76 C dX12_fault_151 (by decide) ?_
    refine r_sub [(0, .ref (ad 38))] [0] rfl ?_
    exact hz76   u hf
  · have hf := ifT c0 hf
    refine r_sub [(0, .ref (ad 38))] [0] rfl ?_
    exact w_X12_fault_146 C hR E     u hf
def f_X12_fault_128 (z76 : S2 → Option (Int32 × S2)) (t0 : Int32) (u : S2) : Option (Int32 × S2) := (if t0 = 0 then f_X12_fault_142 z76  t0 u else bv (f_X12_token  u) (fun u0 => bd (f_X12_readsLine  u0) (fun r0 u1 => f_X12_fault_142 z76  r0 u1)))
set_option maxRecDepth 20000 in
theorem w_X12_fault_128 {K : Ctx} {ad : Nat → Nat} (C : Cx K ad cX12_fault 2 yX12_fault.cls (some .int)) (hR : Rm K 3 63) {r : Int32} {w : S2} (E : EI K ad r w) (z76 : S2 → Option (Int32 × S2)) (hz76 : ∀   (u : S2), z76  u = some (r, w) → RW K ad 2 76 [(0, .ref (ad 38))] [] u) (t0 : Int32)  (u : S2) (hf : f_X12_fault_128 z76 t0 u = some (r, w)) : RW K ad 2 128 [(0, .ref (ad 38))] [.int t0] u := by
  unfold f_X12_fault_128 at hf
  refine r_istore_n 129 [(0, .ref (ad 38)), (1, .int t0)] [1, 0] C dX12_fault_128 rfl (by decide) rfl rfl ?_
  refine r_iload_n 130 1 C dX12_fault_129 rfl rfl rfl ?_
  refine r_if_eq 133 142 C dX12_fault_130 (by decide) rfl (fun c0 => ?_) (fun c0 => ?_)
  · have hf := ifT c0 hf
    refine r_sub [(0, .ref (ad 38)), (1, .int t0)] [0, 1] rfl ?_
    exact w_X12_fault_142 C hR E z76 hz76  t0  u hf
  · have hf := ifF c0 hf
    refine r_aload_n 134 0 C dX12_fault_133 rfl rfl rfl ?_
    obtain ⟨u0, h0, hf⟩ := bv_of hf
    refine r_cVV 137 [] C hR (c_X12_token ad   u u0 h0) q_X12_token tw_1092 (wd_38 ad u) rfl rfl tw_1094 tp_47 (Nat.le_of_ble_eq_true rfl) (Nat.le_of_ble_eq_true rfl) rfl rfl (Nat.le_of_ble_eq_true rfl) dX12_fault_134 rfl ?_
    refine r_aload_n 138 0 C dX12_fault_137 rfl rfl rfl ?_
    obtain ⟨r0, u1, h1, hf⟩ := bd_of hf
    refine r_cVI 141 [] C hR (c_X12_readsLine ad   u0 r0 u1 h1) q_X12_readsLine tw_1099 (wd_38 ad u0) rfl rfl tw_1101 tp_48 (Nat.le_of_ble_eq_true rfl) (Nat.le_of_ble_eq_true rfl) rfl rfl (Nat.le_of_ble_eq_true rfl) dX12_fault_138 rfl ?_
    refine r_istore_n 142 [(0, .ref (ad 38)), (1, .int r0)] [1, 0] C dX12_fault_141 rfl (by decide) rfl rfl ?_
    refine r_sub [(0, .ref (ad 38)), (1, .int r0)] [0, 1] rfl ?_
    exact w_X12_fault_142 C hR E z76 hz76  r0  u1 hf
def f_X12_fault_127 (z76 : S2 → Option (Int32 × S2))  (u : S2) : Option (Int32 × S2) := f_X12_fault_128 z76  (0 : Int32) u
set_option maxRecDepth 20000 in
theorem w_X12_fault_127 {K : Ctx} {ad : Nat → Nat} (C : Cx K ad cX12_fault 2 yX12_fault.cls (some .int)) (hR : Rm K 3 63) {r : Int32} {w : S2} (E : EI K ad r w) (z76 : S2 → Option (Int32 × S2)) (hz76 : ∀   (u : S2), z76  u = some (r, w) → RW K ad 2 76 [(0, .ref (ad 38))] [] u)   (u : S2) (hf : f_X12_fault_127 z76  u = some (r, w)) : RW K ad 2 127 [(0, .ref (ad 38))] [] u := by
  unfold f_X12_fault_127 at hf
  refine r_iconst (v := 0) 128 C dX12_fault_127 (by decide) rfl ?_
  refine r_sub [(0, .ref (ad 38))] [0] rfl ?_
  exact w_X12_fault_128 C hR E z76 hz76  (0 : Int32)  u hf
def f_X12_fault_76  : Nat → S2 → Option (Int32 × S2)
  | 0, _ => none
  | n + 1, u => (if (u 38 16) ≤ (u 38 30) then some ((-1 : Int32), u) else (if ((u 38 31) - (u 38 30)) = (1 : Int32) then ck (inb (u 38 30) 160) (nm (u 53 (Int32.toNatClampNeg (u 38 30))) (fun x0 => (if x0 = (59 : Int32) then (if (8 : Int32) ≤ (u 38 19) then f_X12_fault_127 (fun  u => f_X12_fault_76  n  u)   u else f_X12_fault_128 (fun  u => f_X12_fault_76  n  u)  (1 : Int32) u) else f_X12_fault_127 (fun  u => f_X12_fault_76  n  u)   u))) else f_X12_fault_127 (fun  u => f_X12_fault_76  n  u)   u))
theorem f_X12_fault_76_e  (n : Nat)  (u : S2) : f_X12_fault_76  (n + 1)  u = (if (u 38 16) ≤ (u 38 30) then some ((-1 : Int32), u) else (if ((u 38 31) - (u 38 30)) = (1 : Int32) then ck (inb (u 38 30) 160) (nm (u 53 (Int32.toNatClampNeg (u 38 30))) (fun x0 => (if x0 = (59 : Int32) then (if (8 : Int32) ≤ (u 38 19) then f_X12_fault_127 (fun  u => f_X12_fault_76  n  u)   u else f_X12_fault_128 (fun  u => f_X12_fault_76  n  u)  (1 : Int32) u) else f_X12_fault_127 (fun  u => f_X12_fault_76  n  u)   u))) else f_X12_fault_127 (fun  u => f_X12_fault_76  n  u)   u)) := rfl
set_option maxRecDepth 20000 in
theorem w_X12_fault_76 {K : Ctx} {ad : Nat → Nat} (C : Cx K ad cX12_fault 2 yX12_fault.cls (some .int)) (hR : Rm K 3 63) {r : Int32} {w : S2} (E : EI K ad r w)  : ∀ (n : Nat)   (u : S2) (hf : f_X12_fault_76  n  u = some (r, w)), RW K ad 2 76 [(0, .ref (ad 38))] [] u := by
  intro n
  induction n with
  | zero => intro   u hf; cases hf
  | succ n ih =>
    intro   u hf
    rw [f_X12_fault_76_e] at hf
    refine r_aload_n 77 0 C dX12_fault_76 rfl rfl rfl ?_
    refine r_get 80 38 30 C inX12 (wd_38 ad u) rfl (by decide) tw_858 rfl rfl dX12_fault_77 rfl ?_
    refine r_aload_n 81 0 C dX12_fault_80 rfl rfl rfl ?_
    refine r_get 84 38 16 C inX12 (wd_38 ad u) rfl (by decide) tw_844 rfl rfl dX12_fault_81 rfl ?_
    refine r_icmp_ge 87 154 C dX12_fault_84 (by decide) rfl (fun c0 => ?_) (fun c0 => ?_)
    · have hf := ifT c0 hf
      refine r_iconst (v := -1) 155 C dX12_fault_154 (by decide) rfl ?_
      exact r_iret C E (pr1 hf) (pr2 hf) dX12_fault_155
    · have hf := ifF c0 hf
      refine r_aload_n 88 0 C dX12_fault_87 rfl rfl rfl ?_
      refine r_get 91 38 31 C inX12 (wd_38 ad u) rfl (by decide) tw_859 rfl rfl dX12_fault_88 rfl ?_
      refine r_aload_n 92 0 C dX12_fault_91 rfl rfl rfl ?_
      refine r_get 95 38 30 C inX12 (wd_38 ad u) rfl (by decide) tw_858 rfl rfl dX12_fault_92 rfl ?_
      refine r_isub 96 C dX12_fault_95 rfl ?_
      refine r_iconst (v := 1) 97 C dX12_fault_96 (by decide) rfl ?_
      refine r_icmp_ne 100 127 C dX12_fault_97 (by decide) rfl (fun c1 => ?_) (fun c1 => ?_)
      · have hf := ifF c1 hf
        refine r_sub [(0, .ref (ad 38))] [0] rfl ?_
        exact w_X12_fault_127 C hR E (fun  u => f_X12_fault_76  n  u) (fun   u h => ih   u h)    u hf
      · have hf := ifT c1 hf
        refine r_aload_n 101 0 C dX12_fault_100 rfl rfl rfl ?_
        refine r_get 104 38 15 C inX12 (wd_38 ad u) rfl (by decide) tw_843 rfl rfl dX12_fault_101 rfl ?_
        refine r_aload_n 105 0 C dX12_fault_104 rfl rfl rfl ?_
        refine r_get 108 38 30 C inX12 (wd_38 ad u) rfl (by decide) tw_858 rfl rfl dX12_fault_105 rfl ?_
        obtain ⟨hc0, hf⟩ := ck_of hf
        refine r_iaload 109 53 160 C (wd_53 ad u) hc0 dX12_fault_108 rfl ?_
        obtain ⟨x0, ex0, hf⟩ := nm_of hf
        refine r_nm ex0 ?_
        refine r_bipush (v := 59) 111 C dX12_fault_109 (by decide) rfl ?_
        refine r_icmp_ne 114 127 C dX12_fault_111 (by decide) rfl (fun c2 => ?_) (fun c2 => ?_)
        · have hf := ifF c2 hf
          refine r_sub [(0, .ref (ad 38))] [0] rfl ?_
          exact w_X12_fault_127 C hR E (fun  u => f_X12_fault_76  n  u) (fun   u h => ih   u h)    u hf
        · have hf := ifT c2 hf
          refine r_aload_n 115 0 C dX12_fault_114 rfl rfl rfl ?_
          refine r_get 118 38 19 C inX12 (wd_38 ad u) rfl (by decide) tw_847 rfl rfl dX12_fault_115 rfl ?_
          refine r_bipush (v := 8) 120 C dX12_fault_118 (by decide) rfl ?_
          refine r_icmp_ge 123 127 C dX12_fault_120 (by decide) rfl (fun c3 => ?_) (fun c3 => ?_)
          · have hf := ifT c3 hf
            refine r_sub [(0, .ref (ad 38))] [0] rfl ?_
            exact w_X12_fault_127 C hR E (fun  u => f_X12_fault_76  n  u) (fun   u h => ih   u h)    u hf
          · have hf := ifF c3 hf
            refine r_iconst (v := 1) 124 C dX12_fault_123 (by decide) rfl ?_
            refine r_goto 128 C dX12_fault_124 (by decide) ?_
            refine r_sub [(0, .ref (ad 38))] [0] rfl ?_
            exact w_X12_fault_128 C hR E (fun  u => f_X12_fault_76  n  u) (fun   u h => ih   u h)  (1 : Int32)  u hf
def f_X12_fault_60   (u : S2) : Option (Int32 × S2) := bv (f_X12_token  u) (fun u0 => bd (f_X12_readsLine  u0) (fun r0 u1 => (if r0 = 0 then some (u1 38 30, u1) else f_X12_fault_76  FUEL  u1)))
set_option maxRecDepth 20000 in
theorem w_X12_fault_60 {K : Ctx} {ad : Nat → Nat} (C : Cx K ad cX12_fault 2 yX12_fault.cls (some .int)) (hR : Rm K 3 63) {r : Int32} {w : S2} (E : EI K ad r w)    (u : S2) (hf : f_X12_fault_60   u = some (r, w)) : RW K ad 2 60 [(0, .ref (ad 38))] [] u := by
  unfold f_X12_fault_60 at hf
  refine r_aload_n 61 0 C dX12_fault_60 rfl rfl rfl ?_
  obtain ⟨u0, h0, hf⟩ := bv_of hf
  refine r_cVV 64 [] C hR (c_X12_token ad   u u0 h0) q_X12_token tw_1092 (wd_38 ad u) rfl rfl tw_1094 tp_47 (Nat.le_of_ble_eq_true rfl) (Nat.le_of_ble_eq_true rfl) rfl rfl (Nat.le_of_ble_eq_true rfl) dX12_fault_61 rfl ?_
  refine r_aload_n 65 0 C dX12_fault_64 rfl rfl rfl ?_
  obtain ⟨r0, u1, h1, hf⟩ := bd_of hf
  refine r_cVI 68 [] C hR (c_X12_readsLine ad   u0 r0 u1 h1) q_X12_readsLine tw_1099 (wd_38 ad u0) rfl rfl tw_1101 tp_48 (Nat.le_of_ble_eq_true rfl) (Nat.le_of_ble_eq_true rfl) rfl rfl (Nat.le_of_ble_eq_true rfl) dX12_fault_65 rfl ?_
  refine r_if_ne 71 76 C dX12_fault_68 (by decide) rfl (fun c0 => ?_) (fun c0 => ?_)
  · have hf := ifF c0 hf
    refine r_sub [(0, .ref (ad 38))] [0] rfl ?_
    exact w_X12_fault_76 C hR E  FUEL   u1 hf
  · have hf := ifT c0 hf
    refine r_aload_n 72 0 C dX12_fault_71 rfl rfl rfl ?_
    refine r_get 75 38 30 C inX12 (wd_38 ad u1) rfl (by decide) tw_858 rfl rfl dX12_fault_72 rfl ?_
    exact r_iret C E (pr1 hf) (pr2 hf) dX12_fault_75
def f_X12_fault_53 (z12 : Int32 → S2 → Option (Int32 × S2)) (v1 : Int32) (t1 : Int32) (t2 : Int32) (u : S2) : Option (Int32 × S2) := ck (inb t1 6) (nm (wr u 55 (Int32.toNatClampNeg t1) t2) (fun u0 => nm (v1 + (1 : Int32)) (fun x0 => z12 x0 u0)))
set_option maxRecDepth 20000 in
theorem w_X12_fault_53 {K : Ctx} {ad : Nat → Nat} (C : Cx K ad cX12_fault 2 yX12_fault.cls (some .int)) (hR : Rm K 3 63) {r : Int32} {w : S2} (E : EI K ad r w) (z12 : Int32 → S2 → Option (Int32 × S2)) (hz12 : ∀ (v1 : Int32)  (u : S2), z12 v1 u = some (r, w) → RW K ad 2 12 [(0, .ref (ad 38)), (1, .int v1)] [] u) (v1 : Int32) (t1 : Int32) (t2 : Int32)    (u : S2) (hf : f_X12_fault_53 z12 v1 t1 t2 u = some (r, w)) : RW K ad 2 53 [(0, .ref (ad 38)), (1, .int v1)] [.int t2, .int t1, .ref (ad 55)] u := by
  unfold f_X12_fault_53 at hf
  obtain ⟨hc0, hf⟩ := ck_of hf
  refine r_iastore 54 55 6 C (wd_55 ad u) (sA_55 ad u) hc0 dX12_fault_53 rfl ?_
  obtain ⟨u0, eu0, hf⟩ := nm_of hf
  refine r_st eu0 ?_
  obtain ⟨x0, ex0, hf⟩ := nm_of hf
  refine r_iinc (v := x0) 57 1 [(0, .ref (ad 38)), (1, .int x0)] [1, 0] C dX12_fault_54 rfl (by rw [ex0]; rfl) (by decide) rfl rfl ?_
  refine r_goto 12 C dX12_fault_57 (by decide) ?_
  refine r_sub [(0, .ref (ad 38)), (1, .int x0)] [0, 1] rfl ?_
  exact hz12 x0  u0 hf
def f_X12_fault_12  : Nat → Int32 → S2 → Option (Int32 × S2)
  | 0, _, _ => none
  | n + 1, v1, u => (if (6 : Int32) ≤ v1 then f_X12_fault_60    u else (if v1 = (1 : Int32) then f_X12_fault_53 (fun v1 u => f_X12_fault_12  n v1 u)  v1 v1 (100 : Int32) u else (if v1 = (3 : Int32) then f_X12_fault_53 (fun v1 u => f_X12_fault_12  n v1 u)  v1 v1 (35 : Int32) u else (if v1 = (4 : Int32) then f_X12_fault_53 (fun v1 u => f_X12_fault_12  n v1 u)  v1 v1 (1 : Int32) u else f_X12_fault_53 (fun v1 u => f_X12_fault_12  n v1 u)  v1 v1 (0 : Int32) u))))
theorem f_X12_fault_12_e  (n : Nat) (v1 : Int32) (u : S2) : f_X12_fault_12  (n + 1) v1 u = (if (6 : Int32) ≤ v1 then f_X12_fault_60    u else (if v1 = (1 : Int32) then f_X12_fault_53 (fun v1 u => f_X12_fault_12  n v1 u)  v1 v1 (100 : Int32) u else (if v1 = (3 : Int32) then f_X12_fault_53 (fun v1 u => f_X12_fault_12  n v1 u)  v1 v1 (35 : Int32) u else (if v1 = (4 : Int32) then f_X12_fault_53 (fun v1 u => f_X12_fault_12  n v1 u)  v1 v1 (1 : Int32) u else f_X12_fault_53 (fun v1 u => f_X12_fault_12  n v1 u)  v1 v1 (0 : Int32) u)))) := rfl
set_option maxRecDepth 20000 in
theorem w_X12_fault_12 {K : Ctx} {ad : Nat → Nat} (C : Cx K ad cX12_fault 2 yX12_fault.cls (some .int)) (hR : Rm K 3 63) {r : Int32} {w : S2} (E : EI K ad r w)  : ∀ (n : Nat) (v1 : Int32)  (u : S2) (hf : f_X12_fault_12  n v1 u = some (r, w)), RW K ad 2 12 [(0, .ref (ad 38)), (1, .int v1)] [] u := by
  intro n
  induction n with
  | zero => intro v1  u hf; cases hf
  | succ n ih =>
    intro v1  u hf
    rw [f_X12_fault_12_e] at hf
    refine r_iload_n 13 1 C dX12_fault_12 rfl rfl rfl ?_
    refine r_bipush (v := 6) 15 C dX12_fault_13 (by decide) rfl ?_
    refine r_icmp_ge 18 60 C dX12_fault_15 (by decide) rfl (fun c0 => ?_) (fun c0 => ?_)
    · have hf := ifT c0 hf
      refine r_sub [(0, .ref (ad 38))] [0] rfl ?_
      exact w_X12_fault_60 C hR E     u hf
    · have hf := ifF c0 hf
      refine r_aload_n 19 0 C dX12_fault_18 rfl rfl rfl ?_
      refine r_get 22 38 18 C inX12 (wd_38 ad u) rfl (by decide) tw_846 rfl rfl dX12_fault_19 rfl ?_
      refine r_iload_n 23 1 C dX12_fault_22 rfl rfl rfl ?_
      refine r_iload_n 24 1 C dX12_fault_23 rfl rfl rfl ?_
      refine r_iconst (v := 1) 25 C dX12_fault_24 (by decide) rfl ?_
      refine r_icmp_ne 28 33 C dX12_fault_25 (by decide) rfl (fun c1 => ?_) (fun c1 => ?_)
      · have hf := ifF c1 hf
        refine r_iload_n 34 1 C dX12_fault_33 rfl rfl rfl ?_
        refine r_iconst (v := 3) 35 C dX12_fault_34 (by decide) rfl ?_
        refine r_icmp_ne 38 43 C dX12_fault_35 (by decide) rfl (fun c2 => ?_) (fun c2 => ?_)
        · have hf := ifF c2 hf
          refine r_iload_n 44 1 C dX12_fault_43 rfl rfl rfl ?_
          refine r_iconst (v := 4) 45 C dX12_fault_44 (by decide) rfl ?_
          refine r_icmp_ne 48 52 C dX12_fault_45 (by decide) rfl (fun c3 => ?_) (fun c3 => ?_)
          · have hf := ifF c3 hf
            refine r_iconst (v := 0) 53 C dX12_fault_52 (by decide) rfl ?_
            refine r_sub [(0, .ref (ad 38)), (1, .int v1)] [0, 1] rfl ?_
            exact w_X12_fault_53 C hR E (fun v1 u => f_X12_fault_12  n v1 u) (fun v1  u h => ih v1  u h)  v1 v1 (0 : Int32)    u hf
          · have hf := ifT c3 hf
            refine r_iconst (v := 1) 49 C dX12_fault_48 (by decide) rfl ?_
            refine r_goto 53 C dX12_fault_49 (by decide) ?_
            refine r_sub [(0, .ref (ad 38)), (1, .int v1)] [0, 1] rfl ?_
            exact w_X12_fault_53 C hR E (fun v1 u => f_X12_fault_12  n v1 u) (fun v1  u h => ih v1  u h)  v1 v1 (1 : Int32)    u hf
        · have hf := ifT c2 hf
          refine r_bipush (v := 35) 40 C dX12_fault_38 (by decide) rfl ?_
          refine r_goto 53 C dX12_fault_40 (by decide) ?_
          refine r_sub [(0, .ref (ad 38)), (1, .int v1)] [0, 1] rfl ?_
          exact w_X12_fault_53 C hR E (fun v1 u => f_X12_fault_12  n v1 u) (fun v1  u h => ih v1  u h)  v1 v1 (35 : Int32)    u hf
      · have hf := ifT c1 hf
        refine r_bipush (v := 100) 30 C dX12_fault_28 (by decide) rfl ?_
        refine r_goto 53 C dX12_fault_30 (by decide) ?_
        refine r_sub [(0, .ref (ad 38)), (1, .int v1)] [0, 1] rfl ?_
        exact w_X12_fault_53 C hR E (fun v1 u => f_X12_fault_12  n v1 u) (fun v1  u h => ih v1  u h)  v1 v1 (100 : Int32)    u hf
def f_X12_fault  (u : S2) : Option (Int32 × S2) := nm (wr u 38 29 (0 : Int32)) (fun u0 => nm (wr u0 38 19 (0 : Int32)) (fun u1 => f_X12_fault_12  FUEL (0 : Int32) u1))
set_option maxRecDepth 20000 in
theorem c_X12_fault (ad : Nat → Nat)   (u : S2) (r : Int32) (w : S2) (hf : f_X12_fault  u = some (r, w)) : HI yX12_fault cX12_fault 2 (some .int) 3 63 ad [.ref (ad 38)] u r w := by
  refine HI_of (by decide) (Nat.le_of_ble_eq_true rfl) (fun K C hR E => ?_)
  refine r_sub [(0, .ref (ad 38))] [0] rfl ?_
  unfold f_X12_fault at hf
  refine r_aload_n 1 0 C dX12_fault_0 rfl rfl rfl ?_
  refine r_iconst (v := 0) 2 C dX12_fault_1 (by decide) rfl ?_
  refine r_put 5 38 29 C inX12 tyX12_ok nmX12 (wd_38 ad u) (sF_38_29 ad u (0 : Int32)) rfl (by decide) tw_857 rfl rfl (tyX12_ok 29 (by decide)) rfl rfl (Nat.le_of_ble_eq_true rfl) dX12_fault_2 rfl ?_
  obtain ⟨u0, eu0, hf⟩ := nm_of hf
  refine r_st eu0 ?_
  refine r_aload_n 6 0 C dX12_fault_5 rfl rfl rfl ?_
  refine r_iconst (v := 0) 7 C dX12_fault_6 (by decide) rfl ?_
  refine r_put 10 38 19 C inX12 tyX12_ok nmX12 (wd_38 ad u0) (sF_38_19 ad u0 (0 : Int32)) rfl (by decide) tw_847 rfl rfl (tyX12_ok 19 (by decide)) rfl rfl (Nat.le_of_ble_eq_true rfl) dX12_fault_7 rfl ?_
  obtain ⟨u1, eu1, hf⟩ := nm_of hf
  refine r_st eu1 ?_
  refine r_iconst (v := 0) 11 C dX12_fault_10 (by decide) rfl ?_
  refine r_istore_n 12 [(0, .ref (ad 38)), (1, .int (0 : Int32))] [1, 0] C dX12_fault_11 rfl (by decide) rfl rfl ?_
  refine r_sub [(0, .ref (ad 38)), (1, .int (0 : Int32))] [0, 1] rfl ?_
  exact w_X12_fault_12 C hR E  FUEL (0 : Int32)  u1 hf
def f_X12_steerer_37   (u : S2) : Option (Int32 × S2) := nm (wr u 42 0 (-1 : Int32)) (fun u0 => nm (wr u0 38 16 (0 : Int32)) (fun u1 => some (u1 38 19, u1)))
set_option maxRecDepth 20000 in
theorem w_X12_steerer_37 {K : Ctx} {ad : Nat → Nat} (C : Cx K ad cX12_steerer 2 yX12_steerer.cls (some .int)) (hR : Rm K 4 84) {r : Int32} {w : S2} (E : EI K ad r w)    (u : S2) (hf : f_X12_steerer_37   u = some (r, w)) : RW K ad 2 37 [(0, .ref (ad 38))] [] u := by
  unfold f_X12_steerer_37 at hf
  refine r_aload_n 38 0 C dX12_steerer_37 rfl rfl rfl ?_
  refine r_get 41 38 3 C inX12 (wd_38 ad u) rfl (by decide) tw_831 rfl rfl dX12_steerer_38 rfl ?_
  refine r_iconst (v := 0) 42 C dX12_steerer_41 (by decide) rfl ?_
  refine r_iconst (v := -1) 43 C dX12_steerer_42 (by decide) rfl ?_
  refine r_iastore 44 42 2 C (wd_42 ad u) (sA_42 ad u) (by decide) dX12_steerer_43 rfl ?_
  obtain ⟨u0, eu0, hf⟩ := nm_of hf
  refine r_st eu0 ?_
  refine r_aload_n 45 0 C dX12_steerer_44 rfl rfl rfl ?_
  refine r_iconst (v := 0) 46 C dX12_steerer_45 (by decide) rfl ?_
  refine r_put 49 38 16 C inX12 tyX12_ok nmX12 (wd_38 ad u0) (sF_38_16 ad u0 (0 : Int32)) rfl (by decide) tw_844 rfl rfl (tyX12_ok 16 (by decide)) rfl rfl (Nat.le_of_ble_eq_true rfl) dX12_steerer_46 rfl ?_
  obtain ⟨u1, eu1, hf⟩ := nm_of hf
  refine r_st eu1 ?_
  refine r_aload_n 50 0 C dX12_steerer_49 rfl rfl rfl ?_
  refine r_get 53 38 19 C inX12 (wd_38 ad u1) rfl (by decide) tw_847 rfl rfl dX12_steerer_50 rfl ?_
  exact r_iret C E (pr1 hf) (pr2 hf) dX12_steerer_53
def f_X12_steerer_13  : Nat → Int32 → S2 → Option (Int32 × S2)
  | 0, _, _ => none
  | n + 1, v1, u => (if (6 : Int32) ≤ v1 then f_X12_steerer_37    u else ck (inb v1 6) (nm (u 55 (Int32.toNatClampNeg v1)) (fun x0 => ck (inb v1 6) (nm (wr u 54 (Int32.toNatClampNeg v1) x0) (fun u0 => nm (v1 + (1 : Int32)) (fun x1 => f_X12_steerer_13  n x1 u0))))))
theorem f_X12_steerer_13_e  (n : Nat) (v1 : Int32) (u : S2) : f_X12_steerer_13  (n + 1) v1 u = (if (6 : Int32) ≤ v1 then f_X12_steerer_37    u else ck (inb v1 6) (nm (u 55 (Int32.toNatClampNeg v1)) (fun x0 => ck (inb v1 6) (nm (wr u 54 (Int32.toNatClampNeg v1) x0) (fun u0 => nm (v1 + (1 : Int32)) (fun x1 => f_X12_steerer_13  n x1 u0)))))) := rfl
set_option maxRecDepth 20000 in
theorem w_X12_steerer_13 {K : Ctx} {ad : Nat → Nat} (C : Cx K ad cX12_steerer 2 yX12_steerer.cls (some .int)) (hR : Rm K 4 84) {r : Int32} {w : S2} (E : EI K ad r w)  : ∀ (n : Nat) (v1 : Int32)  (u : S2) (hf : f_X12_steerer_13  n v1 u = some (r, w)), RW K ad 2 13 [(0, .ref (ad 38)), (1, .int v1)] [] u := by
  intro n
  induction n with
  | zero => intro v1  u hf; cases hf
  | succ n ih =>
    intro v1  u hf
    rw [f_X12_steerer_13_e] at hf
    refine r_iload_n 14 1 C dX12_steerer_13 rfl rfl rfl ?_
    refine r_bipush (v := 6) 16 C dX12_steerer_14 (by decide) rfl ?_
    refine r_icmp_ge 19 37 C dX12_steerer_16 (by decide) rfl (fun c0 => ?_) (fun c0 => ?_)
    · have hf := ifT c0 hf
      refine r_sub [(0, .ref (ad 38))] [0] rfl ?_
      exact w_X12_steerer_37 C hR E     u hf
    · have hf := ifF c0 hf
      refine r_aload_n 20 0 C dX12_steerer_19 rfl rfl rfl ?_
      refine r_get 23 38 17 C inX12 (wd_38 ad u) rfl (by decide) tw_845 rfl rfl dX12_steerer_20 rfl ?_
      refine r_iload_n 24 1 C dX12_steerer_23 rfl rfl rfl ?_
      refine r_aload_n 25 0 C dX12_steerer_24 rfl rfl rfl ?_
      refine r_get 28 38 18 C inX12 (wd_38 ad u) rfl (by decide) tw_846 rfl rfl dX12_steerer_25 rfl ?_
      refine r_iload_n 29 1 C dX12_steerer_28 rfl rfl rfl ?_
      obtain ⟨hc0, hf⟩ := ck_of hf
      refine r_iaload 30 55 6 C (wd_55 ad u) hc0 dX12_steerer_29 rfl ?_
      obtain ⟨x0, ex0, hf⟩ := nm_of hf
      refine r_nm ex0 ?_
      obtain ⟨hc1, hf⟩ := ck_of hf
      refine r_iastore 31 54 6 C (wd_54 ad u) (sA_54 ad u) hc1 dX12_steerer_30 rfl ?_
      obtain ⟨u0, eu0, hf⟩ := nm_of hf
      refine r_st eu0 ?_
      obtain ⟨x1, ex1, hf⟩ := nm_of hf
      refine r_iinc (v := x1) 34 1 [(0, .ref (ad 38)), (1, .int x1)] [1, 0] C dX12_steerer_31 rfl (by rw [ex1]; rfl) (by decide) rfl rfl ?_
      refine r_goto 13 C dX12_steerer_34 (by decide) ?_
      refine r_sub [(0, .ref (ad 38)), (1, .int x1)] [0, 1] rfl ?_
      exact ih x1  u0 hf
def f_X12_steerer  (u : S2) : Option (Int32 × S2) := bd (f_X12_fault  u) (fun r0 u0 => (if r0 = (-1 : Int32) then f_X12_steerer_13  FUEL (0 : Int32) u0 else some ((-4 : Int32), u0)))
set_option maxRecDepth 20000 in
theorem c_X12_steerer (ad : Nat → Nat)   (u : S2) (r : Int32) (w : S2) (hf : f_X12_steerer  u = some (r, w)) : HI yX12_steerer cX12_steerer 2 (some .int) 4 84 ad [.ref (ad 38)] u r w := by
  refine HI_of (by decide) (Nat.le_of_ble_eq_true rfl) (fun K C hR E => ?_)
  refine r_sub [(0, .ref (ad 38))] [0] rfl ?_
  unfold f_X12_steerer at hf
  refine r_aload_n 1 0 C dX12_steerer_0 rfl rfl rfl ?_
  obtain ⟨r0, u0, h0, hf⟩ := bd_of hf
  refine r_cVI 4 [] C hR (c_X12_fault ad   u r0 u0 h0) q_X12_fault tw_1116 (wd_38 ad u) rfl rfl tw_1089 tw_1090 (Nat.le_of_ble_eq_true rfl) (Nat.le_of_ble_eq_true rfl) rfl rfl (Nat.le_of_ble_eq_true rfl) dX12_steerer_1 rfl ?_
  refine r_iconst (v := -1) 5 C dX12_steerer_4 (by decide) rfl ?_
  refine r_icmp_eq 8 11 C dX12_steerer_5 (by decide) rfl (fun c0 => ?_) (fun c0 => ?_)
  · have hf := ifT c0 hf
    refine r_iconst (v := 0) 12 C dX12_steerer_11 (by decide) rfl ?_
    refine r_istore_n 13 [(0, .ref (ad 38)), (1, .int (0 : Int32))] [1, 0] C dX12_steerer_12 rfl (by decide) rfl rfl ?_
    refine r_sub [(0, .ref (ad 38)), (1, .int (0 : Int32))] [0, 1] rfl ?_
    exact w_X12_steerer_13 C hR E  FUEL (0 : Int32)  u0 hf
  · have hf := ifF c0 hf
    refine r_bipush (v := -4) 10 C dX12_steerer_8 (by decide) rfl ?_
    exact r_iret C E (pr1 hf) (pr2 hf) dX12_steerer_10
def f_X12_steers (v1 : Int32) (u : S2) : Option (Int32 × S2) := bd (f_X12_in ((Int32.toInt64 v1)) ((0 : Int64)) ((5 : Int64)) u) (fun r0 u0 => (if r0 = 0 then some ((-3 : Int32), u0) else ck (inb v1 6) (nm (u0 54 (Int32.toNatClampNeg v1)) (fun x0 => some (x0, u0)))))
set_option maxRecDepth 20000 in
theorem c_X12_steers (ad : Nat → Nat) (v1 : Int32)  (u : S2) (r : Int32) (w : S2) (hf : f_X12_steers v1 u = some (r, w)) : HI yX12_steers cX12_steers 2 (some .int) 1 25 ad [.ref (ad 38), .int v1] u r w := by
  refine HI_of (by decide) (Nat.le_of_ble_eq_true rfl) (fun K C hR E => ?_)
  refine r_sub [(0, .ref (ad 38)), (1, .int v1)] [0, 1] rfl ?_
  unfold f_X12_steers at hf
  refine r_iload_n 1 1 C dX12_steers_0 rfl rfl rfl ?_
  refine r_i2l 2 C dX12_steers_1 rfl ?_
  refine r_lconst (v := 0) 3 C dX12_steers_2 (by decide) rfl ?_
  refine r_ldc2 (v := 5) 6 C tw_980 dX12_steers_3 rfl ?_
  obtain ⟨r0, u0, h0, hf⟩ := bd_of hf
  refine r_cSI 9 [.long (Int32.toInt64 v1), .long (0 : Int64), .long (5 : Int64)] C hR (c_X12_in ad ((Int32.toInt64 v1)) ((0 : Int64)) ((5 : Int64))    u r0 u0 h0) q_X12_in tw_945 tw_946 (Nat.le_of_ble_eq_true rfl) (Nat.le_of_ble_eq_true rfl) rfl rfl (Nat.le_of_ble_eq_true rfl) dX12_steers_6 rfl ?_
  refine r_if_eq 12 21 C dX12_steers_9 (by decide) rfl (fun c0 => ?_) (fun c0 => ?_)
  · have hf := ifT c0 hf
    refine r_bipush (v := -3) 23 C dX12_steers_21 (by decide) rfl ?_
    exact r_iret C E (pr1 hf) (pr2 hf) dX12_steers_23
  · have hf := ifF c0 hf
    refine r_aload_n 13 0 C dX12_steers_12 rfl rfl rfl ?_
    refine r_get 16 38 17 C inX12 (wd_38 ad u0) rfl (by decide) tw_845 rfl rfl dX12_steers_13 rfl ?_
    refine r_iload_n 17 1 C dX12_steers_16 rfl rfl rfl ?_
    obtain ⟨hc0, hf⟩ := ck_of hf
    refine r_iaload 18 54 6 C (wd_54 ad u0) hc0 dX12_steers_17 rfl ?_
    obtain ⟨x0, ex0, hf⟩ := nm_of hf
    refine r_nm ex0 ?_
    refine r_goto 23 C dX12_steers_18 (by decide) ?_
    exact r_iret C E (pr1 hf) (pr2 hf) dX12_steers_23
def f_X12_course (v1 : Int32) (u : S2) : Option (Int32 × S2) := bd (f_X12_isHeading v1 u) (fun r0 u0 => (if r0 = 0 then some ((-3 : Int32), u0) else nm (u0 38 20) (fun x0 => nm (wr u0 38 20 v1) (fun u1 => nm (wr u1 42 0 (-1 : Int32)) (fun u2 => some (x0, u2))))))
set_option maxRecDepth 20000 in
theorem c_X12_course (ad : Nat → Nat) (v1 : Int32)  (u : S2) (r : Int32) (w : S2) (hf : f_X12_course v1 u = some (r, w)) : HI yX12_course cX12_course 3 (some .int) 2 45 ad [.ref (ad 38), .int v1] u r w := by
  refine HI_of (by decide) (Nat.le_of_ble_eq_true rfl) (fun K C hR E => ?_)
  refine r_sub [(0, .ref (ad 38)), (1, .int v1)] [0, 1] rfl ?_
  unfold f_X12_course at hf
  refine r_iload_n 1 1 C dX12_course_0 rfl rfl rfl ?_
  obtain ⟨r0, u0, h0, hf⟩ := bd_of hf
  refine r_cSI 4 [.int v1] C hR (c_X12_isHeading ad v1  u r0 u0 h0) q_X12_isHeading tw_958 tw_959 (Nat.le_of_ble_eq_true rfl) (Nat.le_of_ble_eq_true rfl) rfl rfl (Nat.le_of_ble_eq_true rfl) dX12_course_1 rfl ?_
  refine r_if_ne 7 10 C dX12_course_4 (by decide) rfl (fun c0 => ?_) (fun c0 => ?_)
  · have hf := ifF c0 hf
    refine r_aload_n 11 0 C dX12_course_10 rfl rfl rfl ?_
    refine r_get 14 38 20 C inX12 (wd_38 ad u0) rfl (by decide) tw_848 rfl rfl dX12_course_11 rfl ?_
    obtain ⟨x0, ex0, hf⟩ := nm_of hf
    refine r_nm ex0 ?_
    refine r_istore_n 15 [(0, .ref (ad 38)), (1, .int v1), (2, .int x0)] [1, 2, 0] C dX12_course_14 rfl (by decide) rfl rfl ?_
    refine r_aload_n 16 0 C dX12_course_15 rfl rfl rfl ?_
    refine r_iload_n 17 1 C dX12_course_16 rfl rfl rfl ?_
    refine r_put 20 38 20 C inX12 tyX12_ok nmX12 (wd_38 ad u0) (sF_38_20 ad u0 v1) rfl (by decide) tw_848 rfl rfl (tyX12_ok 20 (by decide)) rfl rfl (Nat.le_of_ble_eq_true rfl) dX12_course_17 rfl ?_
    obtain ⟨u1, eu1, hf⟩ := nm_of hf
    refine r_st eu1 ?_
    refine r_aload_n 21 0 C dX12_course_20 rfl rfl rfl ?_
    refine r_get 24 38 3 C inX12 (wd_38 ad u1) rfl (by decide) tw_831 rfl rfl dX12_course_21 rfl ?_
    refine r_iconst (v := 0) 25 C dX12_course_24 (by decide) rfl ?_
    refine r_iconst (v := -1) 26 C dX12_course_25 (by decide) rfl ?_
    refine r_iastore 27 42 2 C (wd_42 ad u1) (sA_42 ad u1) (by decide) dX12_course_26 rfl ?_
    obtain ⟨u2, eu2, hf⟩ := nm_of hf
    refine r_st eu2 ?_
    refine r_iload_n 28 2 C dX12_course_27 rfl rfl rfl ?_
    exact r_iret C E (pr1 hf) (pr2 hf) dX12_course_28
  · have hf := ifT c0 hf
    refine r_bipush (v := -3) 9 C dX12_course_7 (by decide) rfl ?_
    exact r_iret C E (pr1 hf) (pr2 hf) dX12_course_9
def f_X12_laySwing_55 (z14 : Int32 → Int32 → Int32 → Int32 → Int32 → Int32 → Int32 → S2 → Option (S2)) (v1 : Int32) (v2 : Int32) (v3 : Int32) (v4 : Int32) (v6 : Int32) (v8 : Int32) (t0 : Int32) (u : S2) : Option (S2) := bd (f_X12_held t0 (9999 : Int32) u) (fun r0 u0 => ck (inb (v8 - (1 : Int32)) 601) (nm (u0 61 (Int32.toNatClampNeg (v8 - (1 : Int32)))) (fun x0 => bd (f_X12_wrapped (x0 + r0) u0) (fun r1 u1 => ck (inb v8 601) (nm (wr u1 61 (Int32.toNatClampNeg v8) r1) (fun u2 => nm (v8 + (1 : Int32)) (fun x1 => z14 v1 v2 v3 v4 v6 r0 x1 u2)))))))
set_option maxRecDepth 20000 in
theorem w_X12_laySwing_55 {K : Ctx} {ad : Nat → Nat} (C : Cx K ad cX12_laySwing 9 yX12_laySwing.cls none) (hR : Rm K 3 63) {w : S2} (E : EV K ad w) (z14 : Int32 → Int32 → Int32 → Int32 → Int32 → Int32 → Int32 → S2 → Option (S2)) (hz14 : ∀ (v1 : Int32) (v2 : Int32) (v3 : Int32) (v4 : Int32) (v6 : Int32) (v7 : Int32) (v8 : Int32)        (u : S2), z14 v1 v2 v3 v4 v6 v7 v8 u = some w → RW K ad 9 14 [(0, .ref (ad 38)), (1, .int v1), (2, .int v2), (3, .int v3), (4, .int v4), (6, .int v6), (7, .int v7), (8, .int v8)] [] u) (v1 : Int32) (v2 : Int32) (v3 : Int32) (v4 : Int32) (v6 : Int32) (v8 : Int32) (t0 : Int32)        (u : S2) (hf : f_X12_laySwing_55 z14 v1 v2 v3 v4 v6 v8 t0 u = some w) : RW K ad 9 55 [(0, .ref (ad 38)), (1, .int v1), (2, .int v2), (3, .int v3), (4, .int v4), (6, .int v6), (8, .int v8)] [.int t0] u := by
  unfold f_X12_laySwing_55 at hf
  refine r_sipush (v := 9999) 58 C dX12_laySwing_55 (by decide) rfl ?_
  obtain ⟨r0, u0, h0, hf⟩ := bd_of hf
  refine r_cSI 61 [.int t0, .int (9999 : Int32)] C hR (c_X12_held ad t0 (9999 : Int32)   u r0 u0 h0) q_X12_held tw_1062 tw_1063 (Nat.le_of_ble_eq_true rfl) (Nat.le_of_ble_eq_true rfl) rfl rfl (Nat.le_of_ble_eq_true rfl) dX12_laySwing_58 rfl ?_
  refine r_istore 63 [(0, .ref (ad 38)), (1, .int v1), (2, .int v2), (3, .int v3), (4, .int v4), (6, .int v6), (7, .int r0), (8, .int v8)] [1, 2, 3, 4, 5, 6, 0, 7] C dX12_laySwing_61 (by decide) rfl rfl ?_
  refine r_aload_n 64 0 C dX12_laySwing_63 rfl rfl rfl ?_
  refine r_get 67 38 32 C inX12 (wd_38 ad u0) rfl (by decide) tw_860 rfl rfl dX12_laySwing_64 rfl ?_
  refine r_iload 69 7 C dX12_laySwing_67 rfl rfl ?_
  refine r_aload_n 70 0 C dX12_laySwing_69 rfl rfl rfl ?_
  refine r_get 73 38 32 C inX12 (wd_38 ad u0) rfl (by decide) tw_860 rfl rfl dX12_laySwing_70 rfl ?_
  refine r_iload 75 7 C dX12_laySwing_73 rfl rfl ?_
  refine r_iconst (v := 1) 76 C dX12_laySwing_75 (by decide) rfl ?_
  refine r_isub 77 C dX12_laySwing_76 rfl ?_
  obtain ⟨hc0, hf⟩ := ck_of hf
  refine r_iaload 78 61 601 C (wd_61 ad u0) hc0 dX12_laySwing_77 rfl ?_
  obtain ⟨x0, ex0, hf⟩ := nm_of hf
  refine r_nm ex0 ?_
  refine r_iload 80 6 C dX12_laySwing_78 rfl rfl ?_
  refine r_iadd 81 C dX12_laySwing_80 rfl ?_
  obtain ⟨r1, u1, h1, hf⟩ := bd_of hf
  refine r_cSI 84 [.int (x0 + r0)] C hR (c_X12_wrapped ad (x0 + r0)  u0 r1 u1 h1) q_X12_wrapped tw_1059 tw_1060 (Nat.le_of_ble_eq_true rfl) (Nat.le_of_ble_eq_true rfl) rfl rfl (Nat.le_of_ble_eq_true rfl) dX12_laySwing_81 rfl ?_
  obtain ⟨hc1, hf⟩ := ck_of hf
  refine r_iastore 85 61 601 C (wd_61 ad u1) (sA_61 ad u1) hc1 dX12_laySwing_84 rfl ?_
  obtain ⟨u2, eu2, hf⟩ := nm_of hf
  refine r_st eu2 ?_
  obtain ⟨x1, ex1, hf⟩ := nm_of hf
  refine r_iinc (v := x1) 88 7 [(0, .ref (ad 38)), (1, .int v1), (2, .int v2), (3, .int v3), (4, .int v4), (6, .int v6), (7, .int r0), (8, .int x1)] [1, 2, 3, 4, 5, 6, 7, 0] C dX12_laySwing_85 rfl (by rw [ex1]; rfl) (by decide) rfl rfl ?_
  refine r_goto 14 C dX12_laySwing_88 (by decide) ?_
  refine r_sub [(0, .ref (ad 38)), (1, .int v1), (2, .int v2), (3, .int v3), (4, .int v4), (6, .int v6), (7, .int r0), (8, .int x1)] [0, 1, 2, 3, 4, 5, 6, 7] rfl ?_
  exact hz14 v1 v2 v3 v4 v6 r0 x1        u2 hf
def f_X12_laySwing_14  : Nat → Int32 → Int32 → Int32 → Int32 → Int32 → Int32 → Int32 → S2 → Option (S2)
  | 0, _, _, _, _, _, _, _, _ => none
  | n + 1, v1, v2, v3, v4, v6, v7, v8, u => (if v6 < v8 then some u else ck (inb (v8 - (1 : Int32)) 601) (nm (u 61 (Int32.toNatClampNeg (v8 - (1 : Int32)))) (fun x0 => bd (f_X12_pulled v7 v1 v4 x0 u) (fun r0 u0 => (if v3 = 0 then f_X12_laySwing_55 (fun v1 v2 v3 v4 v6 v7 v8 u => f_X12_laySwing_14  n v1 v2 v3 v4 v6 v7 v8 u)  v1 v2 v3 v4 v6 v8 r0 u0 else bd (f_X12_damped r0 v2 u0) (fun r1 u1 => f_X12_laySwing_55 (fun v1 v2 v3 v4 v6 v7 v8 u => f_X12_laySwing_14  n v1 v2 v3 v4 v6 v7 v8 u)  v1 v2 v3 v4 v6 v8 r1 u1))))))
theorem f_X12_laySwing_14_e  (n : Nat) (v1 : Int32) (v2 : Int32) (v3 : Int32) (v4 : Int32) (v6 : Int32) (v7 : Int32) (v8 : Int32) (u : S2) : f_X12_laySwing_14  (n + 1) v1 v2 v3 v4 v6 v7 v8 u = (if v6 < v8 then some u else ck (inb (v8 - (1 : Int32)) 601) (nm (u 61 (Int32.toNatClampNeg (v8 - (1 : Int32)))) (fun x0 => bd (f_X12_pulled v7 v1 v4 x0 u) (fun r0 u0 => (if v3 = 0 then f_X12_laySwing_55 (fun v1 v2 v3 v4 v6 v7 v8 u => f_X12_laySwing_14  n v1 v2 v3 v4 v6 v7 v8 u)  v1 v2 v3 v4 v6 v8 r0 u0 else bd (f_X12_damped r0 v2 u0) (fun r1 u1 => f_X12_laySwing_55 (fun v1 v2 v3 v4 v6 v7 v8 u => f_X12_laySwing_14  n v1 v2 v3 v4 v6 v7 v8 u)  v1 v2 v3 v4 v6 v8 r1 u1)))))) := rfl
set_option maxRecDepth 20000 in
theorem w_X12_laySwing_14 {K : Ctx} {ad : Nat → Nat} (C : Cx K ad cX12_laySwing 9 yX12_laySwing.cls none) (hR : Rm K 3 63) {w : S2} (E : EV K ad w)  : ∀ (n : Nat) (v1 : Int32) (v2 : Int32) (v3 : Int32) (v4 : Int32) (v6 : Int32) (v7 : Int32) (v8 : Int32)        (u : S2) (hf : f_X12_laySwing_14  n v1 v2 v3 v4 v6 v7 v8 u = some w), RW K ad 9 14 [(0, .ref (ad 38)), (1, .int v1), (2, .int v2), (3, .int v3), (4, .int v4), (6, .int v6), (7, .int v7), (8, .int v8)] [] u := by
  intro n
  induction n with
  | zero => intro v1 v2 v3 v4 v6 v7 v8        u hf; cases hf
  | succ n ih =>
    intro v1 v2 v3 v4 v6 v7 v8        u hf
    rw [f_X12_laySwing_14_e] at hf
    refine r_iload 16 7 C dX12_laySwing_14 rfl rfl ?_
    refine r_iload 18 5 C dX12_laySwing_16 rfl rfl ?_
    refine r_icmp_gt 21 91 C dX12_laySwing_18 (by decide) rfl (fun c0 => ?_) (fun c0 => ?_)
    · have hf := ifT c0 hf
      exact r_vret C E (so_of hf) dX12_laySwing_91
    · have hf := ifF c0 hf
      refine r_iload 23 6 C dX12_laySwing_21 rfl rfl ?_
      refine r_iload_n 24 1 C dX12_laySwing_23 rfl rfl rfl ?_
      refine r_iload 26 4 C dX12_laySwing_24 rfl rfl ?_
      refine r_aload_n 27 0 C dX12_laySwing_26 rfl rfl rfl ?_
      refine r_get 30 38 32 C inX12 (wd_38 ad u) rfl (by decide) tw_860 rfl rfl dX12_laySwing_27 rfl ?_
      refine r_iload 32 7 C dX12_laySwing_30 rfl rfl ?_
      refine r_iconst (v := 1) 33 C dX12_laySwing_32 (by decide) rfl ?_
      refine r_isub 34 C dX12_laySwing_33 rfl ?_
      obtain ⟨hc0, hf⟩ := ck_of hf
      refine r_iaload 35 61 601 C (wd_61 ad u) hc0 dX12_laySwing_34 rfl ?_
      obtain ⟨x0, ex0, hf⟩ := nm_of hf
      refine r_nm ex0 ?_
      obtain ⟨r0, u0, h0, hf⟩ := bd_of hf
      refine r_cSI 38 [.int v7, .int v1, .int v4, .int x0] C hR (c_X12_pulled ad v7 v1 v4 x0     u r0 u0 h0) q_X12_pulled tw_1069 tw_1070 (Nat.le_of_ble_eq_true rfl) (Nat.le_of_ble_eq_true rfl) rfl rfl (Nat.le_of_ble_eq_true rfl) dX12_laySwing_35 rfl ?_
      refine r_istore 40 [(0, .ref (ad 38)), (1, .int v1), (2, .int v2), (3, .int v3), (4, .int v4), (6, .int v6), (7, .int r0), (8, .int v8)] [1, 2, 3, 4, 5, 6, 0, 7] C dX12_laySwing_38 (by decide) rfl rfl ?_
      refine r_iload_n 41 3 C dX12_laySwing_40 rfl rfl rfl ?_
      refine r_if_eq 44 53 C dX12_laySwing_41 (by decide) rfl (fun c1 => ?_) (fun c1 => ?_)
      · have hf := ifT c1 hf
        refine r_iload 55 6 C dX12_laySwing_53 rfl rfl ?_
        refine r_sub [(0, .ref (ad 38)), (1, .int v1), (2, .int v2), (3, .int v3), (4, .int v4), (6, .int v6), (8, .int v8)] [0, 1, 2, 3, 4, 5, 7] rfl ?_
        exact w_X12_laySwing_55 C hR E (fun v1 v2 v3 v4 v6 v7 v8 u => f_X12_laySwing_14  n v1 v2 v3 v4 v6 v7 v8 u) (fun v1 v2 v3 v4 v6 v7 v8        u h => ih v1 v2 v3 v4 v6 v7 v8        u h)  v1 v2 v3 v4 v6 v8 r0        u0 hf
      · have hf := ifF c1 hf
        refine r_iload 46 6 C dX12_laySwing_44 rfl rfl ?_
        refine r_iload_n 47 2 C dX12_laySwing_46 rfl rfl rfl ?_
        obtain ⟨r1, u1, h1, hf⟩ := bd_of hf
        refine r_cSI 50 [.int r0, .int v2] C hR (c_X12_damped ad r0 v2   u0 r1 u1 h1) q_X12_damped tw_1072 tw_1073 (Nat.le_of_ble_eq_true rfl) (Nat.le_of_ble_eq_true rfl) rfl rfl (Nat.le_of_ble_eq_true rfl) dX12_laySwing_47 rfl ?_
        refine r_goto 55 C dX12_laySwing_50 (by decide) ?_
        refine r_sub [(0, .ref (ad 38)), (1, .int v1), (2, .int v2), (3, .int v3), (4, .int v4), (6, .int v6), (8, .int v8)] [0, 1, 2, 3, 4, 5, 7] rfl ?_
        exact w_X12_laySwing_55 C hR E (fun v1 v2 v3 v4 v6 v7 v8 u => f_X12_laySwing_14  n v1 v2 v3 v4 v6 v7 v8 u) (fun v1 v2 v3 v4 v6 v7 v8        u h => ih v1 v2 v3 v4 v6 v7 v8        u h)  v1 v2 v3 v4 v6 v8 r1        u1 hf
def f_X12_laySwing (v1 : Int32) (v2 : Int32) (v3 : Int32) (v4 : Int32) (v5 : Int32) (v6 : Int32) (u : S2) : Option (S2) := nm (wr u 61 0 v5) (fun u0 => f_X12_laySwing_14  FUEL v1 v2 v3 v4 v6 (0 : Int32) (1 : Int32) u0)
set_option maxRecDepth 20000 in
theorem c_X12_laySwing (ad : Nat → Nat) (v1 : Int32) (v2 : Int32) (v3 : Int32) (v4 : Int32) (v5 : Int32) (v6 : Int32)       (u : S2) (w : S2) (hf : f_X12_laySwing v1 v2 v3 v4 v5 v6 u = some w) : HV yX12_laySwing cX12_laySwing 9 none 3 63 ad [.ref (ad 38), .int v1, .int v2, .int v3, .int v4, .int v5, .int v6] u w := by
  refine HV_of (by decide) (Nat.le_of_ble_eq_true rfl) (fun K C hR E => ?_)
  refine r_sub [(0, .ref (ad 38)), (1, .int v1), (2, .int v2), (3, .int v3), (4, .int v4), (5, .int v5), (6, .int v6)] [0, 1, 2, 3, 4, 5, 6] rfl ?_
  unfold f_X12_laySwing at hf
  refine r_iconst (v := 0) 1 C dX12_laySwing_0 (by decide) rfl ?_
  refine r_istore 3 [(0, .ref (ad 38)), (1, .int v1), (2, .int v2), (3, .int v3), (4, .int v4), (5, .int v5), (6, .int v6), (7, .int (0 : Int32))] [1, 2, 3, 4, 5, 6, 7, 0] C dX12_laySwing_1 (by decide) rfl rfl ?_
  refine r_aload_n 4 0 C dX12_laySwing_3 rfl rfl rfl ?_
  refine r_get 7 38 32 C inX12 (wd_38 ad u) rfl (by decide) tw_860 rfl rfl dX12_laySwing_4 rfl ?_
  refine r_iconst (v := 0) 8 C dX12_laySwing_7 (by decide) rfl ?_
  refine r_iload 10 5 C dX12_laySwing_8 rfl rfl ?_
  refine r_iastore 11 61 601 C (wd_61 ad u) (sA_61 ad u) (by decide) dX12_laySwing_10 rfl ?_
  obtain ⟨u0, eu0, hf⟩ := nm_of hf
  refine r_st eu0 ?_
  refine r_iconst (v := 1) 12 C dX12_laySwing_11 (by decide) rfl ?_
  refine r_istore 14 [(0, .ref (ad 38)), (1, .int v1), (2, .int v2), (3, .int v3), (4, .int v4), (5, .int v5), (6, .int v6), (7, .int (0 : Int32)), (8, .int (1 : Int32))] [1, 2, 3, 4, 5, 6, 7, 8, 0] C dX12_laySwing_12 (by decide) rfl rfl ?_
  refine r_sub [(0, .ref (ad 38)), (1, .int v1), (2, .int v2), (3, .int v3), (4, .int v4), (6, .int v6), (7, .int (0 : Int32)), (8, .int (1 : Int32))] [0, 1, 2, 3, 4, 6, 7, 8] rfl ?_
  exact w_X12_laySwing_14 C hR E  FUEL v1 v2 v3 v4 v6 (0 : Int32) (1 : Int32)        u0 hf
def f_X12_crosses_46 (z2 : Int32 → S2 → Option (Int32 × S2)) (v1 : Int32) (t0 : Int32) (t1 : Int32) (u : S2) : Option (Int32 × S2) := (if t0 = t1 then nm (v1 + (1 : Int32)) (fun x0 => z2 x0 u) else some (v1, u))
set_option maxRecDepth 20000 in
theorem w_X12_crosses_46 {K : Ctx} {ad : Nat → Nat} (C : Cx K ad cX12_crosses 2 yX12_crosses.cls (some .int)) (hR : Rm K 0 0) {r : Int32} {w : S2} (E : EI K ad r w) (z2 : Int32 → S2 → Option (Int32 × S2)) (hz2 : ∀ (v1 : Int32)  (u : S2), z2 v1 u = some (r, w) → RW K ad 2 2 [(0, .ref (ad 38)), (1, .int v1)] [] u) (v1 : Int32) (t0 : Int32) (t1 : Int32)    (u : S2) (hf : f_X12_crosses_46 z2 v1 t0 t1 u = some (r, w)) : RW K ad 2 46 [(0, .ref (ad 38)), (1, .int v1)] [.int t1, .int t0] u := by
  unfold f_X12_crosses_46 at hf
  refine r_icmp_eq 49 51 C dX12_crosses_46 (by decide) rfl (fun c0 => ?_) (fun c0 => ?_)
  · have hf := ifT c0 hf
    obtain ⟨x0, ex0, hf⟩ := nm_of hf
    refine r_iinc (v := x0) 54 1 [(0, .ref (ad 38)), (1, .int x0)] [1, 0] C dX12_crosses_51 rfl (by rw [ex0]; rfl) (by decide) rfl rfl ?_
    refine r_goto 2 C dX12_crosses_54 (by decide) ?_
    refine r_sub [(0, .ref (ad 38)), (1, .int x0)] [0, 1] rfl ?_
    exact hz2 x0  u hf
  · have hf := ifF c0 hf
    refine r_iload_n 50 1 C dX12_crosses_49 rfl rfl rfl ?_
    exact r_iret C E (pr1 hf) (pr2 hf) dX12_crosses_50
def f_X12_crosses_32 (z2 : Int32 → S2 → Option (Int32 × S2)) (v1 : Int32) (t0 : Int32) (u : S2) : Option (Int32 × S2) := nm (u 61 0) (fun x0 => (if 0 ≤ x0 then f_X12_crosses_46 z2  v1 t0 (0 : Int32) u else f_X12_crosses_46 z2  v1 t0 (1 : Int32) u))
set_option maxRecDepth 20000 in
theorem w_X12_crosses_32 {K : Ctx} {ad : Nat → Nat} (C : Cx K ad cX12_crosses 2 yX12_crosses.cls (some .int)) (hR : Rm K 0 0) {r : Int32} {w : S2} (E : EI K ad r w) (z2 : Int32 → S2 → Option (Int32 × S2)) (hz2 : ∀ (v1 : Int32)  (u : S2), z2 v1 u = some (r, w) → RW K ad 2 2 [(0, .ref (ad 38)), (1, .int v1)] [] u) (v1 : Int32) (t0 : Int32)   (u : S2) (hf : f_X12_crosses_32 z2 v1 t0 u = some (r, w)) : RW K ad 2 32 [(0, .ref (ad 38)), (1, .int v1)] [.int t0] u := by
  unfold f_X12_crosses_32 at hf
  refine r_aload_n 33 0 C dX12_crosses_32 rfl rfl rfl ?_
  refine r_get 36 38 32 C inX12 (wd_38 ad u) rfl (by decide) tw_860 rfl rfl dX12_crosses_33 rfl ?_
  refine r_iconst (v := 0) 37 C dX12_crosses_36 (by decide) rfl ?_
  refine r_iaload 38 61 601 C (wd_61 ad u) (by decide) dX12_crosses_37 rfl ?_
  obtain ⟨x0, ex0, hf⟩ := nm_of hf
  refine r_nm ex0 ?_
  refine r_if_ge 41 45 C dX12_crosses_38 (by decide) rfl (fun c0 => ?_) (fun c0 => ?_)
  · have hf := ifT c0 hf
    refine r_iconst (v := 0) 46 C dX12_crosses_45 (by decide) rfl ?_
    refine r_sub [(0, .ref (ad 38)), (1, .int v1)] [0, 1] rfl ?_
    exact w_X12_crosses_46 C hR E z2 hz2  v1 t0 (0 : Int32)    u hf
  · have hf := ifF c0 hf
    refine r_iconst (v := 1) 42 C dX12_crosses_41 (by decide) rfl ?_
    refine r_goto 46 C dX12_crosses_42 (by decide) ?_
    refine r_sub [(0, .ref (ad 38)), (1, .int v1)] [0, 1] rfl ?_
    exact w_X12_crosses_46 C hR E z2 hz2  v1 t0 (1 : Int32)    u hf
def f_X12_crosses_2  : Nat → Int32 → S2 → Option (Int32 × S2)
  | 0, _, _ => none
  | n + 1, v1, u => (if (600 : Int32) < v1 then some ((-1 : Int32), u) else ck (inb v1 601) (nm (u 61 (Int32.toNatClampNeg v1)) (fun x0 => (if x0 = 0 then some (v1, u) else ck (inb v1 601) (nm (u 61 (Int32.toNatClampNeg v1)) (fun x1 => (if 0 ≤ x1 then f_X12_crosses_32 (fun v1 u => f_X12_crosses_2  n v1 u)  v1 (0 : Int32) u else f_X12_crosses_32 (fun v1 u => f_X12_crosses_2  n v1 u)  v1 (1 : Int32) u)))))))
theorem f_X12_crosses_2_e  (n : Nat) (v1 : Int32) (u : S2) : f_X12_crosses_2  (n + 1) v1 u = (if (600 : Int32) < v1 then some ((-1 : Int32), u) else ck (inb v1 601) (nm (u 61 (Int32.toNatClampNeg v1)) (fun x0 => (if x0 = 0 then some (v1, u) else ck (inb v1 601) (nm (u 61 (Int32.toNatClampNeg v1)) (fun x1 => (if 0 ≤ x1 then f_X12_crosses_32 (fun v1 u => f_X12_crosses_2  n v1 u)  v1 (0 : Int32) u else f_X12_crosses_32 (fun v1 u => f_X12_crosses_2  n v1 u)  v1 (1 : Int32) u))))))) := rfl
set_option maxRecDepth 20000 in
theorem w_X12_crosses_2 {K : Ctx} {ad : Nat → Nat} (C : Cx K ad cX12_crosses 2 yX12_crosses.cls (some .int)) (hR : Rm K 0 0) {r : Int32} {w : S2} (E : EI K ad r w)  : ∀ (n : Nat) (v1 : Int32)  (u : S2) (hf : f_X12_crosses_2  n v1 u = some (r, w)), RW K ad 2 2 [(0, .ref (ad 38)), (1, .int v1)] [] u := by
  intro n
  induction n with
  | zero => intro v1  u hf; cases hf
  | succ n ih =>
    intro v1  u hf
    rw [f_X12_crosses_2_e] at hf
    refine r_iload_n 3 1 C dX12_crosses_2 rfl rfl rfl ?_
    refine r_sipush (v := 600) 6 C dX12_crosses_3 (by decide) rfl ?_
    refine r_icmp_gt 9 57 C dX12_crosses_6 (by decide) rfl (fun c0 => ?_) (fun c0 => ?_)
    · have hf := ifT c0 hf
      refine r_iconst (v := -1) 58 C dX12_crosses_57 (by decide) rfl ?_
      exact r_iret C E (pr1 hf) (pr2 hf) dX12_crosses_58
    · have hf := ifF c0 hf
      refine r_aload_n 10 0 C dX12_crosses_9 rfl rfl rfl ?_
      refine r_get 13 38 32 C inX12 (wd_38 ad u) rfl (by decide) tw_860 rfl rfl dX12_crosses_10 rfl ?_
      refine r_iload_n 14 1 C dX12_crosses_13 rfl rfl rfl ?_
      obtain ⟨hc0, hf⟩ := ck_of hf
      refine r_iaload 15 61 601 C (wd_61 ad u) hc0 dX12_crosses_14 rfl ?_
      obtain ⟨x0, ex0, hf⟩ := nm_of hf
      refine r_nm ex0 ?_
      refine r_if_eq 18 49 C dX12_crosses_15 (by decide) rfl (fun c1 => ?_) (fun c1 => ?_)
      · have hf := ifT c1 hf
        refine r_iload_n 50 1 C dX12_crosses_49 rfl rfl rfl ?_
        exact r_iret C E (pr1 hf) (pr2 hf) dX12_crosses_50
      · have hf := ifF c1 hf
        refine r_aload_n 19 0 C dX12_crosses_18 rfl rfl rfl ?_
        refine r_get 22 38 32 C inX12 (wd_38 ad u) rfl (by decide) tw_860 rfl rfl dX12_crosses_19 rfl ?_
        refine r_iload_n 23 1 C dX12_crosses_22 rfl rfl rfl ?_
        obtain ⟨hc1, hf⟩ := ck_of hf
        refine r_iaload 24 61 601 C (wd_61 ad u) hc1 dX12_crosses_23 rfl ?_
        obtain ⟨x1, ex1, hf⟩ := nm_of hf
        refine r_nm ex1 ?_
        refine r_if_ge 27 31 C dX12_crosses_24 (by decide) rfl (fun c2 => ?_) (fun c2 => ?_)
        · have hf := ifT c2 hf
          refine r_iconst (v := 0) 32 C dX12_crosses_31 (by decide) rfl ?_
          refine r_sub [(0, .ref (ad 38)), (1, .int v1)] [0, 1] rfl ?_
          exact w_X12_crosses_32 C hR E (fun v1 u => f_X12_crosses_2  n v1 u) (fun v1  u h => ih v1  u h)  v1 (0 : Int32)   u hf
        · have hf := ifF c2 hf
          refine r_iconst (v := 1) 28 C dX12_crosses_27 (by decide) rfl ?_
          refine r_goto 32 C dX12_crosses_28 (by decide) ?_
          refine r_sub [(0, .ref (ad 38)), (1, .int v1)] [0, 1] rfl ?_
          exact w_X12_crosses_32 C hR E (fun v1 u => f_X12_crosses_2  n v1 u) (fun v1  u h => ih v1  u h)  v1 (1 : Int32)   u hf
def f_X12_crosses  (u : S2) : Option (Int32 × S2) := f_X12_crosses_2  FUEL (1 : Int32) u
set_option maxRecDepth 20000 in
theorem c_X12_crosses (ad : Nat → Nat)   (u : S2) (r : Int32) (w : S2) (hf : f_X12_crosses  u = some (r, w)) : HI yX12_crosses cX12_crosses 2 (some .int) 0 0 ad [.ref (ad 38)] u r w := by
  refine HI_of (by decide) (Nat.le_of_ble_eq_true rfl) (fun K C hR E => ?_)
  refine r_sub [(0, .ref (ad 38))] [0] rfl ?_
  unfold f_X12_crosses at hf
  refine r_iconst (v := 1) 1 C dX12_crosses_0 (by decide) rfl ?_
  refine r_istore_n 2 [(0, .ref (ad 38)), (1, .int (1 : Int32))] [1, 0] C dX12_crosses_1 rfl (by decide) rfl rfl ?_
  refine r_sub [(0, .ref (ad 38)), (1, .int (1 : Int32))] [0, 1] rfl ?_
  exact w_X12_crosses_2 C hR E  FUEL (1 : Int32)  u hf
def f_X12_rests_20  : Nat → Int32 → S2 → Option (Int32 × S2)
  | 0, _, _ => none
  | n + 1, v1, u => (if v1 ≤ 0 then some (v1, u) else ck (inb (v1 - (1 : Int32)) 601) (nm (u 61 (Int32.toNatClampNeg (v1 - (1 : Int32)))) (fun x0 => bd (f_X12_size x0 u) (fun r0 u0 => (if (100 : Int32) < r0 then some (v1, u0) else nm (v1 + (-1 : Int32)) (fun x1 => f_X12_rests_20  n x1 u0))))))
theorem f_X12_rests_20_e  (n : Nat) (v1 : Int32) (u : S2) : f_X12_rests_20  (n + 1) v1 u = (if v1 ≤ 0 then some (v1, u) else ck (inb (v1 - (1 : Int32)) 601) (nm (u 61 (Int32.toNatClampNeg (v1 - (1 : Int32)))) (fun x0 => bd (f_X12_size x0 u) (fun r0 u0 => (if (100 : Int32) < r0 then some (v1, u0) else nm (v1 + (-1 : Int32)) (fun x1 => f_X12_rests_20  n x1 u0)))))) := rfl
set_option maxRecDepth 20000 in
theorem w_X12_rests_20 {K : Ctx} {ad : Nat → Nat} (C : Cx K ad cX12_rests 2 yX12_rests.cls (some .int)) (hR : Rm K 1 20) {r : Int32} {w : S2} (E : EI K ad r w)  : ∀ (n : Nat) (v1 : Int32)  (u : S2) (hf : f_X12_rests_20  n v1 u = some (r, w)), RW K ad 2 20 [(0, .ref (ad 38)), (1, .int v1)] [] u := by
  intro n
  induction n with
  | zero => intro v1  u hf; cases hf
  | succ n ih =>
    intro v1  u hf
    rw [f_X12_rests_20_e] at hf
    refine r_iload_n 21 1 C dX12_rests_20 rfl rfl rfl ?_
    refine r_if_le 24 46 C dX12_rests_21 (by decide) rfl (fun c0 => ?_) (fun c0 => ?_)
    · have hf := ifT c0 hf
      refine r_iload_n 47 1 C dX12_rests_46 rfl rfl rfl ?_
      exact r_iret C E (pr1 hf) (pr2 hf) dX12_rests_47
    · have hf := ifF c0 hf
      refine r_aload_n 25 0 C dX12_rests_24 rfl rfl rfl ?_
      refine r_get 28 38 32 C inX12 (wd_38 ad u) rfl (by decide) tw_860 rfl rfl dX12_rests_25 rfl ?_
      refine r_iload_n 29 1 C dX12_rests_28 rfl rfl rfl ?_
      refine r_iconst (v := 1) 30 C dX12_rests_29 (by decide) rfl ?_
      refine r_isub 31 C dX12_rests_30 rfl ?_
      obtain ⟨hc0, hf⟩ := ck_of hf
      refine r_iaload 32 61 601 C (wd_61 ad u) hc0 dX12_rests_31 rfl ?_
      obtain ⟨x0, ex0, hf⟩ := nm_of hf
      refine r_nm ex0 ?_
      obtain ⟨r0, u0, h0, hf⟩ := bd_of hf
      refine r_cSI 35 [.int x0] C hR (c_X12_size ad x0  u r0 u0 h0) q_X12_size tw_1033 tw_1034 (Nat.le_of_ble_eq_true rfl) (Nat.le_of_ble_eq_true rfl) rfl rfl (Nat.le_of_ble_eq_true rfl) dX12_rests_32 rfl ?_
      refine r_bipush (v := 100) 37 C dX12_rests_35 (by decide) rfl ?_
      refine r_icmp_gt 40 46 C dX12_rests_37 (by decide) rfl (fun c1 => ?_) (fun c1 => ?_)
      · have hf := ifT c1 hf
        refine r_iload_n 47 1 C dX12_rests_46 rfl rfl rfl ?_
        exact r_iret C E (pr1 hf) (pr2 hf) dX12_rests_47
      · have hf := ifF c1 hf
        obtain ⟨x1, ex1, hf⟩ := nm_of hf
        refine r_iinc (v := x1) 43 1 [(0, .ref (ad 38)), (1, .int x1)] [1, 0] C dX12_rests_40 rfl (by rw [ex1]; rfl) (by decide) rfl rfl ?_
        refine r_goto 20 C dX12_rests_43 (by decide) ?_
        refine r_sub [(0, .ref (ad 38)), (1, .int x1)] [0, 1] rfl ?_
        exact ih x1  u0 hf
def f_X12_rests  (u : S2) : Option (Int32 × S2) := nm (u 61 600) (fun x0 => bd (f_X12_size x0 u) (fun r0 u0 => (if r0 ≤ (100 : Int32) then f_X12_rests_20  FUEL (600 : Int32) u0 else some ((-1 : Int32), u0))))
set_option maxRecDepth 20000 in
theorem c_X12_rests (ad : Nat → Nat)   (u : S2) (r : Int32) (w : S2) (hf : f_X12_rests  u = some (r, w)) : HI yX12_rests cX12_rests 2 (some .int) 1 20 ad [.ref (ad 38)] u r w := by
  refine HI_of (by decide) (Nat.le_of_ble_eq_true rfl) (fun K C hR E => ?_)
  refine r_sub [(0, .ref (ad 38))] [0] rfl ?_
  unfold f_X12_rests at hf
  refine r_sipush (v := 600) 3 C dX12_rests_0 (by decide) rfl ?_
  refine r_istore_n 4 [(0, .ref (ad 38)), (1, .int (600 : Int32))] [1, 0] C dX12_rests_3 rfl (by decide) rfl rfl ?_
  refine r_aload_n 5 0 C dX12_rests_4 rfl rfl rfl ?_
  refine r_get 8 38 32 C inX12 (wd_38 ad u) rfl (by decide) tw_860 rfl rfl dX12_rests_5 rfl ?_
  refine r_iload_n 9 1 C dX12_rests_8 rfl rfl rfl ?_
  refine r_iaload 10 61 601 C (wd_61 ad u) (by decide) dX12_rests_9 rfl ?_
  obtain ⟨x0, ex0, hf⟩ := nm_of hf
  refine r_nm ex0 ?_
  obtain ⟨r0, u0, h0, hf⟩ := bd_of hf
  refine r_cSI 13 [.int x0] C hR (c_X12_size ad x0  u r0 u0 h0) q_X12_size tw_1033 tw_1034 (Nat.le_of_ble_eq_true rfl) (Nat.le_of_ble_eq_true rfl) rfl rfl (Nat.le_of_ble_eq_true rfl) dX12_rests_10 rfl ?_
  refine r_bipush (v := 100) 15 C dX12_rests_13 (by decide) rfl ?_
  refine r_icmp_le 18 20 C dX12_rests_15 (by decide) rfl (fun c0 => ?_) (fun c0 => ?_)
  · have hf := ifT c0 hf
    refine r_sub [(0, .ref (ad 38)), (1, .int (600 : Int32))] [0, 1] rfl ?_
    exact w_X12_rests_20 C hR E  FUEL (600 : Int32)  u0 hf
  · have hf := ifF c0 hf
    refine r_iconst (v := -1) 19 C dX12_rests_18 (by decide) rfl ?_
    exact r_iret C E (pr1 hf) (pr2 hf) dX12_rests_19
def f_X12_swing_158  (v6 : Int32) (u : S2) : Option (Int32 × S2) := ck (inb v6 601) (nm (u 61 (Int32.toNatClampNeg v6)) (fun x0 => some ((50000 : Int32) + x0, u)))
set_option maxRecDepth 20000 in
theorem w_X12_swing_158 {K : Ctx} {ad : Nat → Nat} (C : Cx K ad cX12_swing 8 yX12_swing.cls (some .int)) (hR : Rm K 4 91) {r : Int32} {w : S2} (E : EI K ad r w)  (v6 : Int32)  (u : S2) (hf : f_X12_swing_158  v6 u = some (r, w)) : RW K ad 8 158 [(0, .ref (ad 38)), (6, .int v6)] [] u := by
  unfold f_X12_swing_158 at hf
  refine r_ldc (v := 50000) 160 C tw_1040 dX12_swing_158 rfl ?_
  refine r_aload_n 161 0 C dX12_swing_160 rfl rfl rfl ?_
  refine r_get 164 38 32 C inX12 (wd_38 ad u) rfl (by decide) tw_860 rfl rfl dX12_swing_161 rfl ?_
  refine r_iload 166 1 C dX12_swing_164 rfl rfl ?_
  obtain ⟨hc0, hf⟩ := ck_of hf
  refine r_iaload 167 61 601 C (wd_61 ad u) hc0 dX12_swing_166 rfl ?_
  obtain ⟨x0, ex0, hf⟩ := nm_of hf
  refine r_nm ex0 ?_
  refine r_iadd 168 C dX12_swing_167 rfl ?_
  exact r_iret C E (pr1 hf) (pr2 hf) dX12_swing_168
def f_X12_swing_150 (z112 : Int32 → Int32 → S2 → Option (Int32 × S2)) (v7 : Int32) (t0 : Int32) (u : S2) : Option (Int32 × S2) := nm (v7 + (1 : Int32)) (fun x0 => z112 t0 x0 u)
set_option maxRecDepth 20000 in
theorem w_X12_swing_150 {K : Ctx} {ad : Nat → Nat} (C : Cx K ad cX12_swing 8 yX12_swing.cls (some .int)) (hR : Rm K 4 91) {r : Int32} {w : S2} (E : EI K ad r w) (z112 : Int32 → Int32 → S2 → Option (Int32 × S2)) (hz112 : ∀ (v6 : Int32) (v7 : Int32)   (u : S2), z112 v6 v7 u = some (r, w) → RW K ad 8 112 [(0, .ref (ad 38)), (6, .int v6), (7, .int v7)] [] u) (v7 : Int32) (t0 : Int32)   (u : S2) (hf : f_X12_swing_150 z112 v7 t0 u = some (r, w)) : RW K ad 8 150 [(0, .ref (ad 38)), (7, .int v7)] [.int t0] u := by
  unfold f_X12_swing_150 at hf
  refine r_istore 152 [(0, .ref (ad 38)), (6, .int t0), (7, .int v7)] [1, 0, 2] C dX12_swing_150 (by decide) rfl rfl ?_
  obtain ⟨x0, ex0, hf⟩ := nm_of hf
  refine r_iinc (v := x0) 155 2 [(0, .ref (ad 38)), (6, .int t0), (7, .int x0)] [1, 2, 0] C dX12_swing_152 rfl (by rw [ex0]; rfl) (by decide) rfl rfl ?_
  refine r_goto 112 C dX12_swing_155 (by decide) ?_
  refine r_sub [(0, .ref (ad 38)), (6, .int t0), (7, .int x0)] [0, 1, 2] rfl ?_
  exact hz112 t0 x0   u hf
def f_X12_swing_112  : Nat → Int32 → Int32 → S2 → Option (Int32 × S2)
  | 0, _, _, _ => none
  | n + 1, v6, v7, u => (if (600 : Int32) < v7 then f_X12_swing_158   v6 u else ck (inb v7 601) (nm (u 61 (Int32.toNatClampNeg v7)) (fun x0 => bd (f_X12_size x0 u) (fun r0 u0 => ck (inb v6 601) (nm (u0 61 (Int32.toNatClampNeg v6)) (fun x1 => bd (f_X12_size x1 u0) (fun r1 u1 => (if r0 ≤ r1 then f_X12_swing_150 (fun v6 v7 u => f_X12_swing_112  n v6 v7 u)  v7 v6 u1 else f_X12_swing_150 (fun v6 v7 u => f_X12_swing_112  n v6 v7 u)  v7 v7 u1))))))))
theorem f_X12_swing_112_e  (n : Nat) (v6 : Int32) (v7 : Int32) (u : S2) : f_X12_swing_112  (n + 1) v6 v7 u = (if (600 : Int32) < v7 then f_X12_swing_158   v6 u else ck (inb v7 601) (nm (u 61 (Int32.toNatClampNeg v7)) (fun x0 => bd (f_X12_size x0 u) (fun r0 u0 => ck (inb v6 601) (nm (u0 61 (Int32.toNatClampNeg v6)) (fun x1 => bd (f_X12_size x1 u0) (fun r1 u1 => (if r0 ≤ r1 then f_X12_swing_150 (fun v6 v7 u => f_X12_swing_112  n v6 v7 u)  v7 v6 u1 else f_X12_swing_150 (fun v6 v7 u => f_X12_swing_112  n v6 v7 u)  v7 v7 u1)))))))) := rfl
set_option maxRecDepth 20000 in
theorem w_X12_swing_112 {K : Ctx} {ad : Nat → Nat} (C : Cx K ad cX12_swing 8 yX12_swing.cls (some .int)) (hR : Rm K 4 91) {r : Int32} {w : S2} (E : EI K ad r w)  : ∀ (n : Nat) (v6 : Int32) (v7 : Int32)   (u : S2) (hf : f_X12_swing_112  n v6 v7 u = some (r, w)), RW K ad 8 112 [(0, .ref (ad 38)), (6, .int v6), (7, .int v7)] [] u := by
  intro n
  induction n with
  | zero => intro v6 v7   u hf; cases hf
  | succ n ih =>
    intro v6 v7   u hf
    rw [f_X12_swing_112_e] at hf
    refine r_iload 114 2 C dX12_swing_112 rfl rfl ?_
    refine r_sipush (v := 600) 117 C dX12_swing_114 (by decide) rfl ?_
    refine r_icmp_gt 120 158 C dX12_swing_117 (by decide) rfl (fun c0 => ?_) (fun c0 => ?_)
    · have hf := ifT c0 hf
      refine r_sub [(0, .ref (ad 38)), (6, .int v6)] [0, 1] rfl ?_
      exact w_X12_swing_158 C hR E   v6  u hf
    · have hf := ifF c0 hf
      refine r_aload_n 121 0 C dX12_swing_120 rfl rfl rfl ?_
      refine r_get 124 38 32 C inX12 (wd_38 ad u) rfl (by decide) tw_860 rfl rfl dX12_swing_121 rfl ?_
      refine r_iload 126 2 C dX12_swing_124 rfl rfl ?_
      obtain ⟨hc0, hf⟩ := ck_of hf
      refine r_iaload 127 61 601 C (wd_61 ad u) hc0 dX12_swing_126 rfl ?_
      obtain ⟨x0, ex0, hf⟩ := nm_of hf
      refine r_nm ex0 ?_
      obtain ⟨r0, u0, h0, hf⟩ := bd_of hf
      refine r_cSI 130 [.int x0] C hR (c_X12_size ad x0  u r0 u0 h0) q_X12_size tw_1033 tw_1034 (Nat.le_of_ble_eq_true rfl) (Nat.le_of_ble_eq_true rfl) rfl rfl (Nat.le_of_ble_eq_true rfl) dX12_swing_127 rfl ?_
      refine r_aload_n 131 0 C dX12_swing_130 rfl rfl rfl ?_
      refine r_get 134 38 32 C inX12 (wd_38 ad u0) rfl (by decide) tw_860 rfl rfl dX12_swing_131 rfl ?_
      refine r_iload 136 1 C dX12_swing_134 rfl rfl ?_
      obtain ⟨hc1, hf⟩ := ck_of hf
      refine r_iaload 137 61 601 C (wd_61 ad u0) hc1 dX12_swing_136 rfl ?_
      obtain ⟨x1, ex1, hf⟩ := nm_of hf
      refine r_nm ex1 ?_
      obtain ⟨r1, u1, h1, hf⟩ := bd_of hf
      refine r_cSI 140 [.int x1] C hR (c_X12_size ad x1  u0 r1 u1 h1) q_X12_size tw_1033 tw_1034 (Nat.le_of_ble_eq_true rfl) (Nat.le_of_ble_eq_true rfl) rfl rfl (Nat.le_of_ble_eq_true rfl) dX12_swing_137 rfl ?_
      refine r_icmp_le 143 148 C dX12_swing_140 (by decide) rfl (fun c1 => ?_) (fun c1 => ?_)
      · have hf := ifT c1 hf
        refine r_iload 150 1 C dX12_swing_148 rfl rfl ?_
        refine r_sub [(0, .ref (ad 38)), (7, .int v7)] [0, 2] rfl ?_
        exact w_X12_swing_150 C hR E (fun v6 v7 u => f_X12_swing_112  n v6 v7 u) (fun v6 v7   u h => ih v6 v7   u h)  v7 v6   u1 hf
      · have hf := ifF c1 hf
        refine r_iload 145 2 C dX12_swing_143 rfl rfl ?_
        refine r_goto 150 C dX12_swing_145 (by decide) ?_
        refine r_sub [(0, .ref (ad 38)), (7, .int v7)] [0, 2] rfl ?_
        exact w_X12_swing_150 C hR E (fun v6 v7 u => f_X12_swing_112  n v6 v7 u) (fun v6 v7   u h => ih v6 v7   u h)  v7 v7   u1 hf
def f_X12_swing (v1 : Int32) (v2 : Int32) (v3 : Int32) (v4 : Int32) (u : S2) : Option (Int32 × S2) := bd (f_X12_isPointer v1 u) (fun r0 u0 => (if r0 = 0 then some ((-2 : Int32), u0) else bd (f_X12_in ((Int32.toInt64 v2)) ((-9000 : Int64)) ((9000 : Int64)) u0) (fun r1 u1 => (if r1 = 0 then some ((-3 : Int32), u1) else (if v2 = 0 then some ((-3 : Int32), u1) else bd (f_X12_in ((Int32.toInt64 v4)) ((0 : Int64)) ((2 : Int64)) u1) (fun r2 u2 => (if r2 = 0 then some ((-3 : Int32), u2) else ck (inb v1 3) (nm (u2 45 (Int32.toNatClampNeg v1)) (fun x0 => ck (inb v1 3) (nm (u2 46 (Int32.toNatClampNeg v1)) (fun x1 => nm (u2 39 0) (fun x2 => bv (f_X12_laySwing x0 x1 v3 x2 v2 (600 : Int32) u2) (fun u3 => (if v4 = (2 : Int32) then bd (f_X12_rests  u3) (fun r4 u5 => some (r4, u5)) else bd (f_X12_crosses  u3) (fun r3 u4 => (if v4 = 0 then some (r3, u4) else (if r3 = (-1 : Int32) then some (r3, u4) else nm (r3 + (1 : Int32)) (fun x3 => f_X12_swing_112  FUEL r3 x3 u4))))))))))))))))))
set_option maxRecDepth 20000 in
theorem c_X12_swing (ad : Nat → Nat) (v1 : Int32) (v2 : Int32) (v3 : Int32) (v4 : Int32)     (u : S2) (r : Int32) (w : S2) (hf : f_X12_swing v1 v2 v3 v4 u = some (r, w)) : HI yX12_swing cX12_swing 8 (some .int) 4 91 ad [.ref (ad 38), .int v1, .int v2, .int v3, .int v4] u r w := by
  refine HI_of (by decide) (Nat.le_of_ble_eq_true rfl) (fun K C hR E => ?_)
  refine r_sub [(0, .ref (ad 38)), (1, .int v1), (2, .int v2), (3, .int v3), (4, .int v4)] [0, 1, 2, 3, 4] rfl ?_
  unfold f_X12_swing at hf
  refine r_iload_n 1 1 C dX12_swing_0 rfl rfl rfl ?_
  obtain ⟨r0, u0, h0, hf⟩ := bd_of hf
  refine r_cSI 4 [.int v1] C hR (c_X12_isPointer ad v1  u r0 u0 h0) q_X12_isPointer tw_976 tw_977 (Nat.le_of_ble_eq_true rfl) (Nat.le_of_ble_eq_true rfl) rfl rfl (Nat.le_of_ble_eq_true rfl) dX12_swing_1 rfl ?_
  refine r_if_ne 7 10 C dX12_swing_4 (by decide) rfl (fun c0 => ?_) (fun c0 => ?_)
  · have hf := ifF c0 hf
    refine r_iload_n 11 2 C dX12_swing_10 rfl rfl rfl ?_
    refine r_i2l 12 C dX12_swing_11 rfl ?_
    refine r_ldc2 (v := -9000) 15 C tw_1129 dX12_swing_12 rfl ?_
    refine r_ldc2 (v := 9000) 18 C tw_1130 dX12_swing_15 rfl ?_
    obtain ⟨r1, u1, h1, hf⟩ := bd_of hf
    refine r_cSI 21 [.long (Int32.toInt64 v2), .long (-9000 : Int64), .long (9000 : Int64)] C hR (c_X12_in ad ((Int32.toInt64 v2)) ((-9000 : Int64)) ((9000 : Int64))    u0 r1 u1 h1) q_X12_in tw_945 tw_946 (Nat.le_of_ble_eq_true rfl) (Nat.le_of_ble_eq_true rfl) rfl rfl (Nat.le_of_ble_eq_true rfl) dX12_swing_18 rfl ?_
    refine r_if_eq 24 41 C dX12_swing_21 (by decide) rfl (fun c1 => ?_) (fun c1 => ?_)
    · have hf := ifT c1 hf
      refine r_bipush (v := -3) 43 C dX12_swing_41 (by decide) rfl ?_
      exact r_iret C E (pr1 hf) (pr2 hf) dX12_swing_43
    · have hf := ifF c1 hf
      refine r_iload_n 25 2 C dX12_swing_24 rfl rfl rfl ?_
      refine r_if_eq 28 41 C dX12_swing_25 (by decide) rfl (fun c2 => ?_) (fun c2 => ?_)
      · have hf := ifT c2 hf
        refine r_bipush (v := -3) 43 C dX12_swing_41 (by decide) rfl ?_
        exact r_iret C E (pr1 hf) (pr2 hf) dX12_swing_43
      · have hf := ifF c2 hf
        refine r_iload 30 4 C dX12_swing_28 rfl rfl ?_
        refine r_i2l 31 C dX12_swing_30 rfl ?_
        refine r_lconst (v := 0) 32 C dX12_swing_31 (by decide) rfl ?_
        refine r_ldc2 (v := 2) 35 C tw_979 dX12_swing_32 rfl ?_
        obtain ⟨r2, u2, h2, hf⟩ := bd_of hf
        refine r_cSI 38 [.long (Int32.toInt64 v4), .long (0 : Int64), .long (2 : Int64)] C hR (c_X12_in ad ((Int32.toInt64 v4)) ((0 : Int64)) ((2 : Int64))    u1 r2 u2 h2) q_X12_in tw_945 tw_946 (Nat.le_of_ble_eq_true rfl) (Nat.le_of_ble_eq_true rfl) rfl rfl (Nat.le_of_ble_eq_true rfl) dX12_swing_35 rfl ?_
        refine r_if_ne 41 44 C dX12_swing_38 (by decide) rfl (fun c3 => ?_) (fun c3 => ?_)
        · have hf := ifF c3 hf
          refine r_aload_n 45 0 C dX12_swing_44 rfl rfl rfl ?_
          refine r_aload_n 46 0 C dX12_swing_45 rfl rfl rfl ?_
          refine r_get 49 38 7 C inX12 (wd_38 ad u2) rfl (by decide) tw_835 rfl rfl dX12_swing_46 rfl ?_
          refine r_iload_n 50 1 C dX12_swing_49 rfl rfl rfl ?_
          obtain ⟨hc0, hf⟩ := ck_of hf
          refine r_iaload 51 45 3 C (wd_45 ad u2) hc0 dX12_swing_50 rfl ?_
          obtain ⟨x0, ex0, hf⟩ := nm_of hf
          refine r_nm ex0 ?_
          refine r_aload_n 52 0 C dX12_swing_51 rfl rfl rfl ?_
          refine r_get 55 38 8 C inX12 (wd_38 ad u2) rfl (by decide) tw_836 rfl rfl dX12_swing_52 rfl ?_
          refine r_iload_n 56 1 C dX12_swing_55 rfl rfl rfl ?_
          obtain ⟨hc1, hf⟩ := ck_of hf
          refine r_iaload 57 46 3 C (wd_46 ad u2) hc1 dX12_swing_56 rfl ?_
          obtain ⟨x1, ex1, hf⟩ := nm_of hf
          refine r_nm ex1 ?_
          refine r_iload_n 58 3 C dX12_swing_57 rfl rfl rfl ?_
          refine r_aload_n 59 0 C dX12_swing_58 rfl rfl rfl ?_
          refine r_get 62 38 0 C inX12 (wd_38 ad u2) rfl (by decide) tw_828 rfl rfl dX12_swing_59 rfl ?_
          refine r_iconst (v := 0) 63 C dX12_swing_62 (by decide) rfl ?_
          refine r_iaload 64 39 8 C (wd_39 ad u2) (by decide) dX12_swing_63 rfl ?_
          obtain ⟨x2, ex2, hf⟩ := nm_of hf
          refine r_nm ex2 ?_
          refine r_iload_n 65 2 C dX12_swing_64 rfl rfl rfl ?_
          refine r_sipush (v := 600) 68 C dX12_swing_65 (by decide) rfl ?_
          obtain ⟨u3, h3, hf⟩ := bv_of hf
          refine r_cVV 71 [.int x0, .int x1, .int v3, .int x2, .int v2, .int (600 : Int32)] C hR (c_X12_laySwing ad x0 x1 v3 x2 v2 (600 : Int32)        u2 u3 h3) q_X12_laySwing tw_1131 (wd_38 ad u2) rfl rfl tw_1133 tp_50 (Nat.le_of_ble_eq_true rfl) (Nat.le_of_ble_eq_true rfl) rfl rfl (Nat.le_of_ble_eq_true rfl) dX12_swing_68 rfl ?_
          refine r_iload 73 4 C dX12_swing_71 rfl rfl ?_
          refine r_iconst (v := 2) 74 C dX12_swing_73 (by decide) rfl ?_
          refine r_icmp_ne 77 82 C dX12_swing_74 (by decide) rfl (fun c4 => ?_) (fun c4 => ?_)
          · have hf := ifF c4 hf
            refine r_aload_n 83 0 C dX12_swing_82 rfl rfl rfl ?_
            obtain ⟨r3, u4, h4, hf⟩ := bd_of hf
            refine r_cVI 86 [] C hR (c_X12_crosses ad   u3 r3 u4 h4) q_X12_crosses tw_1139 (wd_38 ad u3) rfl rfl tw_1141 tp_52 (Nat.le_of_ble_eq_true rfl) (Nat.le_of_ble_eq_true rfl) rfl rfl (Nat.le_of_ble_eq_true rfl) dX12_swing_83 rfl ?_
            refine r_istore 88 [(0, .ref (ad 38)), (1, .int v1), (2, .int v2), (3, .int v3), (4, .int v4), (5, .int r3)] [1, 2, 3, 4, 5, 0] C dX12_swing_86 (by decide) rfl rfl ?_
            refine r_iload 90 4 C dX12_swing_88 rfl rfl ?_
            refine r_if_eq 93 99 C dX12_swing_90 (by decide) rfl (fun c5 => ?_) (fun c5 => ?_)
            · have hf := ifT c5 hf
              refine r_iload 101 5 C dX12_swing_99 rfl rfl ?_
              exact r_iret C E (pr1 hf) (pr2 hf) dX12_swing_101
            · have hf := ifF c5 hf
              refine r_iload 95 5 C dX12_swing_93 rfl rfl ?_
              refine r_iconst (v := -1) 96 C dX12_swing_95 (by decide) rfl ?_
              refine r_icmp_ne 99 102 C dX12_swing_96 (by decide) rfl (fun c6 => ?_) (fun c6 => ?_)
              · have hf := ifF c6 hf
                refine r_iload 104 5 C dX12_swing_102 rfl rfl ?_
                refine r_istore 106 [(0, .ref (ad 38)), (1, .int v1), (2, .int v2), (3, .int v3), (4, .int v4), (5, .int r3), (6, .int r3)] [1, 2, 3, 4, 5, 6, 0] C dX12_swing_104 (by decide) rfl rfl ?_
                refine r_iload 108 5 C dX12_swing_106 rfl rfl ?_
                refine r_iconst (v := 1) 109 C dX12_swing_108 (by decide) rfl ?_
                refine r_iadd 110 C dX12_swing_109 rfl ?_
                obtain ⟨x3, ex3, hf⟩ := nm_of hf
                refine r_nm ex3 ?_
                refine r_istore 112 [(0, .ref (ad 38)), (1, .int v1), (2, .int v2), (3, .int v3), (4, .int v4), (5, .int r3), (6, .int r3), (7, .int x3)] [1, 2, 3, 4, 5, 6, 7, 0] C dX12_swing_110 (by decide) rfl rfl ?_
                refine r_sub [(0, .ref (ad 38)), (6, .int r3), (7, .int x3)] [0, 6, 7] rfl ?_
                exact w_X12_swing_112 C hR E  FUEL r3 x3   u4 hf
              · have hf := ifT c6 hf
                refine r_iload 101 5 C dX12_swing_99 rfl rfl ?_
                exact r_iret C E (pr1 hf) (pr2 hf) dX12_swing_101
          · have hf := ifT c4 hf
            refine r_aload_n 78 0 C dX12_swing_77 rfl rfl rfl ?_
            obtain ⟨r4, u5, h5, hf⟩ := bd_of hf
            refine r_cVI 81 [] C hR (c_X12_rests ad   u3 r4 u5 h5) q_X12_rests tw_1135 (wd_38 ad u3) rfl rfl tw_1137 tp_51 (Nat.le_of_ble_eq_true rfl) (Nat.le_of_ble_eq_true rfl) rfl rfl (Nat.le_of_ble_eq_true rfl) dX12_swing_78 rfl ?_
            exact r_iret C E (pr1 hf) (pr2 hf) dX12_swing_81
        · have hf := ifT c3 hf
          refine r_bipush (v := -3) 43 C dX12_swing_41 (by decide) rfl ?_
          exact r_iret C E (pr1 hf) (pr2 hf) dX12_swing_43
  · have hf := ifT c0 hf
    refine r_bipush (v := -2) 9 C dX12_swing_7 (by decide) rfl ?_
    exact r_iret C E (pr1 hf) (pr2 hf) dX12_swing_9
def f_X12_noUse_12  : Nat → Int32 → Int32 → S2 → Option (Int32 × S2)
  | 0, _, _, _ => none
  | n + 1, v1, v2, u => (if (90 : Int32) ≤ v2 then some ((-1 : Int32), u) else ck (inb v1 3) (nm (u 45 (Int32.toNatClampNeg v1)) (fun x0 => ck (inb v1 3) (nm (u 46 (Int32.toNatClampNeg v1)) (fun x1 => bv (f_X12_laySwing x0 x1 (1 : Int32) v2 (3000 : Int32) (600 : Int32) u) (fun u0 => bd (f_X12_rests  u0) (fun r0 u1 => (if r0 = (-1 : Int32) then some (v2, u1) else nm (v2 + (1 : Int32)) (fun x2 => f_X12_noUse_12  n v1 x2 u1)))))))))
theorem f_X12_noUse_12_e  (n : Nat) (v1 : Int32) (v2 : Int32) (u : S2) : f_X12_noUse_12  (n + 1) v1 v2 u = (if (90 : Int32) ≤ v2 then some ((-1 : Int32), u) else ck (inb v1 3) (nm (u 45 (Int32.toNatClampNeg v1)) (fun x0 => ck (inb v1 3) (nm (u 46 (Int32.toNatClampNeg v1)) (fun x1 => bv (f_X12_laySwing x0 x1 (1 : Int32) v2 (3000 : Int32) (600 : Int32) u) (fun u0 => bd (f_X12_rests  u0) (fun r0 u1 => (if r0 = (-1 : Int32) then some (v2, u1) else nm (v2 + (1 : Int32)) (fun x2 => f_X12_noUse_12  n v1 x2 u1))))))))) := rfl
set_option maxRecDepth 20000 in
theorem w_X12_noUse_12 {K : Ctx} {ad : Nat → Nat} (C : Cx K ad cX12_noUse 3 yX12_noUse.cls (some .int)) (hR : Rm K 4 91) {r : Int32} {w : S2} (E : EI K ad r w)  : ∀ (n : Nat) (v1 : Int32) (v2 : Int32)   (u : S2) (hf : f_X12_noUse_12  n v1 v2 u = some (r, w)), RW K ad 3 12 [(0, .ref (ad 38)), (1, .int v1), (2, .int v2)] [] u := by
  intro n
  induction n with
  | zero => intro v1 v2   u hf; cases hf
  | succ n ih =>
    intro v1 v2   u hf
    rw [f_X12_noUse_12_e] at hf
    refine r_iload_n 13 2 C dX12_noUse_12 rfl rfl rfl ?_
    refine r_bipush (v := 90) 15 C dX12_noUse_13 (by decide) rfl ?_
    refine r_icmp_ge 18 58 C dX12_noUse_15 (by decide) rfl (fun c0 => ?_) (fun c0 => ?_)
    · have hf := ifT c0 hf
      refine r_iconst (v := -1) 59 C dX12_noUse_58 (by decide) rfl ?_
      exact r_iret C E (pr1 hf) (pr2 hf) dX12_noUse_59
    · have hf := ifF c0 hf
      refine r_aload_n 19 0 C dX12_noUse_18 rfl rfl rfl ?_
      refine r_aload_n 20 0 C dX12_noUse_19 rfl rfl rfl ?_
      refine r_get 23 38 7 C inX12 (wd_38 ad u) rfl (by decide) tw_835 rfl rfl dX12_noUse_20 rfl ?_
      refine r_iload_n 24 1 C dX12_noUse_23 rfl rfl rfl ?_
      obtain ⟨hc0, hf⟩ := ck_of hf
      refine r_iaload 25 45 3 C (wd_45 ad u) hc0 dX12_noUse_24 rfl ?_
      obtain ⟨x0, ex0, hf⟩ := nm_of hf
      refine r_nm ex0 ?_
      refine r_aload_n 26 0 C dX12_noUse_25 rfl rfl rfl ?_
      refine r_get 29 38 8 C inX12 (wd_38 ad u) rfl (by decide) tw_836 rfl rfl dX12_noUse_26 rfl ?_
      refine r_iload_n 30 1 C dX12_noUse_29 rfl rfl rfl ?_
      obtain ⟨hc1, hf⟩ := ck_of hf
      refine r_iaload 31 46 3 C (wd_46 ad u) hc1 dX12_noUse_30 rfl ?_
      obtain ⟨x1, ex1, hf⟩ := nm_of hf
      refine r_nm ex1 ?_
      refine r_iconst (v := 1) 32 C dX12_noUse_31 (by decide) rfl ?_
      refine r_iload_n 33 2 C dX12_noUse_32 rfl rfl rfl ?_
      refine r_sipush (v := 3000) 36 C dX12_noUse_33 (by decide) rfl ?_
      refine r_sipush (v := 600) 39 C dX12_noUse_36 (by decide) rfl ?_
      obtain ⟨u0, h0, hf⟩ := bv_of hf
      refine r_cVV 42 [.int x0, .int x1, .int (1 : Int32), .int v2, .int (3000 : Int32), .int (600 : Int32)] C hR (c_X12_laySwing ad x0 x1 (1 : Int32) v2 (3000 : Int32) (600 : Int32)        u u0 h0) q_X12_laySwing tw_1131 (wd_38 ad u) rfl rfl tw_1133 tp_50 (Nat.le_of_ble_eq_true rfl) (Nat.le_of_ble_eq_true rfl) rfl rfl (Nat.le_of_ble_eq_true rfl) dX12_noUse_39 rfl ?_
      refine r_aload_n 43 0 C dX12_noUse_42 rfl rfl rfl ?_
      obtain ⟨r0, u1, h1, hf⟩ := bd_of hf
      refine r_cVI 46 [] C hR (c_X12_rests ad   u0 r0 u1 h1) q_X12_rests tw_1135 (wd_38 ad u0) rfl rfl tw_1137 tp_51 (Nat.le_of_ble_eq_true rfl) (Nat.le_of_ble_eq_true rfl) rfl rfl (Nat.le_of_ble_eq_true rfl) dX12_noUse_43 rfl ?_
      refine r_iconst (v := -1) 47 C dX12_noUse_46 (by decide) rfl ?_
      refine r_icmp_ne 50 52 C dX12_noUse_47 (by decide) rfl (fun c1 => ?_) (fun c1 => ?_)
      · have hf := ifF c1 hf
        obtain ⟨x2, ex2, hf⟩ := nm_of hf
        refine r_iinc (v := x2) 55 2 [(0, .ref (ad 38)), (1, .int v1), (2, .int x2)] [1, 2, 0] C dX12_noUse_52 rfl (by rw [ex2]; rfl) (by decide) rfl rfl ?_
        refine r_goto 12 C dX12_noUse_55 (by decide) ?_
        refine r_sub [(0, .ref (ad 38)), (1, .int v1), (2, .int x2)] [0, 1, 2] rfl ?_
        exact ih v1 x2   u1 hf
      · have hf := ifT c1 hf
        refine r_iload_n 51 2 C dX12_noUse_50 rfl rfl rfl ?_
        exact r_iret C E (pr1 hf) (pr2 hf) dX12_noUse_51
def f_X12_noUse (v1 : Int32) (u : S2) : Option (Int32 × S2) := bd (f_X12_isPointer v1 u) (fun r0 u0 => (if r0 = 0 then some ((-2 : Int32), u0) else f_X12_noUse_12  FUEL v1 (0 : Int32) u0))
set_option maxRecDepth 20000 in
theorem c_X12_noUse (ad : Nat → Nat) (v1 : Int32)  (u : S2) (r : Int32) (w : S2) (hf : f_X12_noUse v1 u = some (r, w)) : HI yX12_noUse cX12_noUse 3 (some .int) 4 91 ad [.ref (ad 38), .int v1] u r w := by
  refine HI_of (by decide) (Nat.le_of_ble_eq_true rfl) (fun K C hR E => ?_)
  refine r_sub [(0, .ref (ad 38)), (1, .int v1)] [0, 1] rfl ?_
  unfold f_X12_noUse at hf
  refine r_iload_n 1 1 C dX12_noUse_0 rfl rfl rfl ?_
  obtain ⟨r0, u0, h0, hf⟩ := bd_of hf
  refine r_cSI 4 [.int v1] C hR (c_X12_isPointer ad v1  u r0 u0 h0) q_X12_isPointer tw_976 tw_977 (Nat.le_of_ble_eq_true rfl) (Nat.le_of_ble_eq_true rfl) rfl rfl (Nat.le_of_ble_eq_true rfl) dX12_noUse_1 rfl ?_
  refine r_if_ne 7 10 C dX12_noUse_4 (by decide) rfl (fun c0 => ?_) (fun c0 => ?_)
  · have hf := ifF c0 hf
    refine r_iconst (v := 0) 11 C dX12_noUse_10 (by decide) rfl ?_
    refine r_istore_n 12 [(0, .ref (ad 38)), (1, .int v1), (2, .int (0 : Int32))] [1, 2, 0] C dX12_noUse_11 rfl (by decide) rfl rfl ?_
    refine r_sub [(0, .ref (ad 38)), (1, .int v1), (2, .int (0 : Int32))] [0, 1, 2] rfl ?_
    exact w_X12_noUse_12 C hR E  FUEL v1 (0 : Int32)   u0 hf
  · have hf := ifT c0 hf
    refine r_bipush (v := -2) 9 C dX12_noUse_7 (by decide) rfl ?_
    exact r_iret C E (pr1 hf) (pr2 hf) dX12_noUse_9
def f_X12_turnedOf_105 (z12 : Int32 → Int32 → Int32 → Int32 → Int32 → Int32 → Int32 → Int32 → Int32 → S2 → Option (Int32 × S2)) (v1 : Int32) (v2 : Int32) (v3 : Int32) (v4 : Int32) (v5 : Int32) (v6 : Int32) (v7 : Int32) (v9 : Int32) (t0 : Int32) (u : S2) : Option (Int32 × S2) := nm (v9 + (1 : Int32)) (fun x0 => z12 v1 v2 v3 v4 v5 v6 v7 t0 x0 u)
set_option maxRecDepth 20000 in
theorem w_X12_turnedOf_105 {K : Ctx} {ad : Nat → Nat} (C : Cx K ad cX12_turnedOf 10 yX12_turnedOf.cls (some .int)) (hR : Rm K 3 63) {r : Int32} {w : S2} (E : EI K ad r w) (z12 : Int32 → Int32 → Int32 → Int32 → Int32 → Int32 → Int32 → Int32 → Int32 → S2 → Option (Int32 × S2)) (hz12 : ∀ (v1 : Int32) (v2 : Int32) (v3 : Int32) (v4 : Int32) (v5 : Int32) (v6 : Int32) (v7 : Int32) (v8 : Int32) (v9 : Int32)          (u : S2), z12 v1 v2 v3 v4 v5 v6 v7 v8 v9 u = some (r, w) → RW K ad 10 12 [(0, .ref (ad 38)), (1, .int v1), (2, .int v2), (3, .int v3), (4, .int v4), (5, .int v5), (6, .int v6), (7, .int v7), (8, .int v8), (9, .int v9)] [] u) (v1 : Int32) (v2 : Int32) (v3 : Int32) (v4 : Int32) (v5 : Int32) (v6 : Int32) (v7 : Int32) (v9 : Int32) (t0 : Int32)          (u : S2) (hf : f_X12_turnedOf_105 z12 v1 v2 v3 v4 v5 v6 v7 v9 t0 u = some (r, w)) : RW K ad 10 105 [(0, .ref (ad 38)), (1, .int v1), (2, .int v2), (3, .int v3), (4, .int v4), (5, .int v5), (6, .int v6), (7, .int v7), (9, .int v9)] [.int t0] u := by
  unfold f_X12_turnedOf_105 at hf
  refine r_istore 107 [(0, .ref (ad 38)), (1, .int v1), (2, .int v2), (3, .int v3), (4, .int v4), (5, .int v5), (6, .int v6), (7, .int v7), (8, .int t0), (9, .int v9)] [1, 2, 3, 4, 5, 6, 7, 8, 0, 9] C dX12_turnedOf_105 (by decide) rfl rfl ?_
  obtain ⟨x0, ex0, hf⟩ := nm_of hf
  refine r_iinc (v := x0) 110 9 [(0, .ref (ad 38)), (1, .int v1), (2, .int v2), (3, .int v3), (4, .int v4), (5, .int v5), (6, .int v6), (7, .int v7), (8, .int t0), (9, .int x0)] [1, 2, 3, 4, 5, 6, 7, 8, 9, 0] C dX12_turnedOf_107 rfl (by rw [ex0]; rfl) (by decide) rfl rfl ?_
  refine r_goto 12 C dX12_turnedOf_110 (by decide) ?_
  refine r_sub [(0, .ref (ad 38)), (1, .int v1), (2, .int v2), (3, .int v3), (4, .int v4), (5, .int v5), (6, .int v6), (7, .int v7), (8, .int t0), (9, .int x0)] [0, 1, 2, 3, 4, 5, 6, 7, 8, 9] rfl ?_
  exact hz12 v1 v2 v3 v4 v5 v6 v7 t0 x0          u hf
def f_X12_turnedOf_58 (z12 : Int32 → Int32 → Int32 → Int32 → Int32 → Int32 → Int32 → Int32 → Int32 → S2 → Option (Int32 × S2)) (v1 : Int32) (v2 : Int32) (v3 : Int32) (v4 : Int32) (v5 : Int32) (v6 : Int32) (v8 : Int32) (v9 : Int32) (t0 : Int32) (t1 : Int32) (u : S2) : Option (Int32 × S2) := ck (inb v1 3) (nm (u 47 (Int32.toNatClampNeg v1)) (fun x0 => bd (f_X12_kicked t0 t1 x0 u) (fun r0 u0 => bd (f_X12_held r0 (9999 : Int32) u0) (fun r1 u1 => bd (f_X12_wrapped (v6 + r1) u1) (fun r2 u2 => bd (f_X12_size r2 u2) (fun r3 u3 => (if r3 ≤ v8 then f_X12_turnedOf_105 z12  v1 v2 v3 v4 v5 r2 r1 v9 v8 u3 else bd (f_X12_size r2 u3) (fun r4 u4 => f_X12_turnedOf_105 z12  v1 v2 v3 v4 v5 r2 r1 v9 r4 u4))))))))
set_option maxRecDepth 20000 in
theorem w_X12_turnedOf_58 {K : Ctx} {ad : Nat → Nat} (C : Cx K ad cX12_turnedOf 10 yX12_turnedOf.cls (some .int)) (hR : Rm K 3 63) {r : Int32} {w : S2} (E : EI K ad r w) (z12 : Int32 → Int32 → Int32 → Int32 → Int32 → Int32 → Int32 → Int32 → Int32 → S2 → Option (Int32 × S2)) (hz12 : ∀ (v1 : Int32) (v2 : Int32) (v3 : Int32) (v4 : Int32) (v5 : Int32) (v6 : Int32) (v7 : Int32) (v8 : Int32) (v9 : Int32)          (u : S2), z12 v1 v2 v3 v4 v5 v6 v7 v8 v9 u = some (r, w) → RW K ad 10 12 [(0, .ref (ad 38)), (1, .int v1), (2, .int v2), (3, .int v3), (4, .int v4), (5, .int v5), (6, .int v6), (7, .int v7), (8, .int v8), (9, .int v9)] [] u) (v1 : Int32) (v2 : Int32) (v3 : Int32) (v4 : Int32) (v5 : Int32) (v6 : Int32) (v8 : Int32) (v9 : Int32) (t0 : Int32) (t1 : Int32)           (u : S2) (hf : f_X12_turnedOf_58 z12 v1 v2 v3 v4 v5 v6 v8 v9 t0 t1 u = some (r, w)) : RW K ad 10 58 [(0, .ref (ad 38)), (1, .int v1), (2, .int v2), (3, .int v3), (4, .int v4), (5, .int v5), (6, .int v6), (8, .int v8), (9, .int v9)] [.int t1, .int t0] u := by
  unfold f_X12_turnedOf_58 at hf
  refine r_aload_n 59 0 C dX12_turnedOf_58 rfl rfl rfl ?_
  refine r_get 62 38 9 C inX12 (wd_38 ad u) rfl (by decide) tw_837 rfl rfl dX12_turnedOf_59 rfl ?_
  refine r_iload_n 63 1 C dX12_turnedOf_62 rfl rfl rfl ?_
  obtain ⟨hc0, hf⟩ := ck_of hf
  refine r_iaload 64 47 3 C (wd_47 ad u) hc0 dX12_turnedOf_63 rfl ?_
  obtain ⟨x0, ex0, hf⟩ := nm_of hf
  refine r_nm ex0 ?_
  obtain ⟨r0, u0, h0, hf⟩ := bd_of hf
  refine r_cSI 67 [.int t0, .int t1, .int x0] C hR (c_X12_kicked ad t0 t1 x0    u r0 u0 h0) q_X12_kicked tw_1075 tw_1076 (Nat.le_of_ble_eq_true rfl) (Nat.le_of_ble_eq_true rfl) rfl rfl (Nat.le_of_ble_eq_true rfl) dX12_turnedOf_64 rfl ?_
  refine r_sipush (v := 9999) 70 C dX12_turnedOf_67 (by decide) rfl ?_
  obtain ⟨r1, u1, h1, hf⟩ := bd_of hf
  refine r_cSI 73 [.int r0, .int (9999 : Int32)] C hR (c_X12_held ad r0 (9999 : Int32)   u0 r1 u1 h1) q_X12_held tw_1062 tw_1063 (Nat.le_of_ble_eq_true rfl) (Nat.le_of_ble_eq_true rfl) rfl rfl (Nat.le_of_ble_eq_true rfl) dX12_turnedOf_70 rfl ?_
  refine r_istore 75 [(0, .ref (ad 38)), (1, .int v1), (2, .int v2), (3, .int v3), (4, .int v4), (5, .int v5), (6, .int v6), (7, .int r1), (8, .int v8), (9, .int v9)] [1, 2, 3, 4, 5, 6, 7, 0, 8, 9] C dX12_turnedOf_73 (by decide) rfl rfl ?_
  refine r_iload 77 6 C dX12_turnedOf_75 rfl rfl ?_
  refine r_iload 79 7 C dX12_turnedOf_77 rfl rfl ?_
  refine r_iadd 80 C dX12_turnedOf_79 rfl ?_
  obtain ⟨r2, u2, h2, hf⟩ := bd_of hf
  refine r_cSI 83 [.int (v6 + r1)] C hR (c_X12_wrapped ad (v6 + r1)  u1 r2 u2 h2) q_X12_wrapped tw_1059 tw_1060 (Nat.le_of_ble_eq_true rfl) (Nat.le_of_ble_eq_true rfl) rfl rfl (Nat.le_of_ble_eq_true rfl) dX12_turnedOf_80 rfl ?_
  refine r_istore 85 [(0, .ref (ad 38)), (1, .int v1), (2, .int v2), (3, .int v3), (4, .int v4), (5, .int v5), (6, .int r2), (7, .int r1), (8, .int v8), (9, .int v9)] [1, 2, 3, 4, 5, 6, 0, 7, 8, 9] C dX12_turnedOf_83 (by decide) rfl rfl ?_
  refine r_iload 87 6 C dX12_turnedOf_85 rfl rfl ?_
  obtain ⟨r3, u3, h3, hf⟩ := bd_of hf
  refine r_cSI 90 [.int r2] C hR (c_X12_size ad r2  u2 r3 u3 h3) q_X12_size tw_1033 tw_1034 (Nat.le_of_ble_eq_true rfl) (Nat.le_of_ble_eq_true rfl) rfl rfl (Nat.le_of_ble_eq_true rfl) dX12_turnedOf_87 rfl ?_
  refine r_iload 92 8 C dX12_turnedOf_90 rfl rfl ?_
  refine r_icmp_le 95 103 C dX12_turnedOf_92 (by decide) rfl (fun c0 => ?_) (fun c0 => ?_)
  · have hf := ifT c0 hf
    refine r_iload 105 8 C dX12_turnedOf_103 rfl rfl ?_
    refine r_sub [(0, .ref (ad 38)), (1, .int v1), (2, .int v2), (3, .int v3), (4, .int v4), (5, .int v5), (6, .int r2), (7, .int r1), (9, .int v9)] [0, 1, 2, 3, 4, 5, 6, 7, 9] rfl ?_
    exact w_X12_turnedOf_105 C hR E z12 hz12  v1 v2 v3 v4 v5 r2 r1 v9 v8          u3 hf
  · have hf := ifF c0 hf
    refine r_iload 97 6 C dX12_turnedOf_95 rfl rfl ?_
    obtain ⟨r4, u4, h4, hf⟩ := bd_of hf
    refine r_cSI 100 [.int r2] C hR (c_X12_size ad r2  u3 r4 u4 h4) q_X12_size tw_1033 tw_1034 (Nat.le_of_ble_eq_true rfl) (Nat.le_of_ble_eq_true rfl) rfl rfl (Nat.le_of_ble_eq_true rfl) dX12_turnedOf_97 rfl ?_
    refine r_goto 105 C dX12_turnedOf_100 (by decide) ?_
    refine r_sub [(0, .ref (ad 38)), (1, .int v1), (2, .int v2), (3, .int v3), (4, .int v4), (5, .int v5), (6, .int r2), (7, .int r1), (9, .int v9)] [0, 1, 2, 3, 4, 5, 6, 7, 9] rfl ?_
    exact w_X12_turnedOf_105 C hR E z12 hz12  v1 v2 v3 v4 v5 r2 r1 v9 r4          u4 hf
def f_X12_turnedOf_12  : Nat → Int32 → Int32 → Int32 → Int32 → Int32 → Int32 → Int32 → Int32 → Int32 → S2 → Option (Int32 × S2)
  | 0, _, _, _, _, _, _, _, _, _, _ => none
  | n + 1, v1, v2, v3, v4, v5, v6, v7, v8, v9, u => (if v3 < v9 then some (v8, u) else nm (u 39 0) (fun x0 => bd (f_X12_pulled v7 v2 x0 v6 u) (fun r0 u0 => ck (inb v1 3) (nm (u0 46 (Int32.toNatClampNeg v1)) (fun x1 => bd (f_X12_damped r0 x1 u0) (fun r1 u1 => (if v4 < v9 then f_X12_turnedOf_58 (fun v1 v2 v3 v4 v5 v6 v7 v8 v9 u => f_X12_turnedOf_12  n v1 v2 v3 v4 v5 v6 v7 v8 v9 u)  v1 v2 v3 v4 v5 v6 v8 v9 r1 (0 : Int32) u1 else f_X12_turnedOf_58 (fun v1 v2 v3 v4 v5 v6 v7 v8 v9 u => f_X12_turnedOf_12  n v1 v2 v3 v4 v5 v6 v7 v8 v9 u)  v1 v2 v3 v4 v5 v6 v8 v9 r1 v5 u1)))))))
theorem f_X12_turnedOf_12_e  (n : Nat) (v1 : Int32) (v2 : Int32) (v3 : Int32) (v4 : Int32) (v5 : Int32) (v6 : Int32) (v7 : Int32) (v8 : Int32) (v9 : Int32) (u : S2) : f_X12_turnedOf_12  (n + 1) v1 v2 v3 v4 v5 v6 v7 v8 v9 u = (if v3 < v9 then some (v8, u) else nm (u 39 0) (fun x0 => bd (f_X12_pulled v7 v2 x0 v6 u) (fun r0 u0 => ck (inb v1 3) (nm (u0 46 (Int32.toNatClampNeg v1)) (fun x1 => bd (f_X12_damped r0 x1 u0) (fun r1 u1 => (if v4 < v9 then f_X12_turnedOf_58 (fun v1 v2 v3 v4 v5 v6 v7 v8 v9 u => f_X12_turnedOf_12  n v1 v2 v3 v4 v5 v6 v7 v8 v9 u)  v1 v2 v3 v4 v5 v6 v8 v9 r1 (0 : Int32) u1 else f_X12_turnedOf_58 (fun v1 v2 v3 v4 v5 v6 v7 v8 v9 u => f_X12_turnedOf_12  n v1 v2 v3 v4 v5 v6 v7 v8 v9 u)  v1 v2 v3 v4 v5 v6 v8 v9 r1 v5 u1))))))) := rfl
set_option maxRecDepth 20000 in
theorem w_X12_turnedOf_12 {K : Ctx} {ad : Nat → Nat} (C : Cx K ad cX12_turnedOf 10 yX12_turnedOf.cls (some .int)) (hR : Rm K 3 63) {r : Int32} {w : S2} (E : EI K ad r w)  : ∀ (n : Nat) (v1 : Int32) (v2 : Int32) (v3 : Int32) (v4 : Int32) (v5 : Int32) (v6 : Int32) (v7 : Int32) (v8 : Int32) (v9 : Int32)          (u : S2) (hf : f_X12_turnedOf_12  n v1 v2 v3 v4 v5 v6 v7 v8 v9 u = some (r, w)), RW K ad 10 12 [(0, .ref (ad 38)), (1, .int v1), (2, .int v2), (3, .int v3), (4, .int v4), (5, .int v5), (6, .int v6), (7, .int v7), (8, .int v8), (9, .int v9)] [] u := by
  intro n
  induction n with
  | zero => intro v1 v2 v3 v4 v5 v6 v7 v8 v9          u hf; cases hf
  | succ n ih =>
    intro v1 v2 v3 v4 v5 v6 v7 v8 v9          u hf
    rw [f_X12_turnedOf_12_e] at hf
    refine r_iload 14 9 C dX12_turnedOf_12 rfl rfl ?_
    refine r_iload_n 15 3 C dX12_turnedOf_14 rfl rfl rfl ?_
    refine r_icmp_gt 18 113 C dX12_turnedOf_15 (by decide) rfl (fun c0 => ?_) (fun c0 => ?_)
    · have hf := ifT c0 hf
      refine r_iload 115 8 C dX12_turnedOf_113 rfl rfl ?_
      exact r_iret C E (pr1 hf) (pr2 hf) dX12_turnedOf_115
    · have hf := ifF c0 hf
      refine r_iload 20 7 C dX12_turnedOf_18 rfl rfl ?_
      refine r_iload_n 21 2 C dX12_turnedOf_20 rfl rfl rfl ?_
      refine r_aload_n 22 0 C dX12_turnedOf_21 rfl rfl rfl ?_
      refine r_get 25 38 0 C inX12 (wd_38 ad u) rfl (by decide) tw_828 rfl rfl dX12_turnedOf_22 rfl ?_
      refine r_iconst (v := 0) 26 C dX12_turnedOf_25 (by decide) rfl ?_
      refine r_iaload 27 39 8 C (wd_39 ad u) (by decide) dX12_turnedOf_26 rfl ?_
      obtain ⟨x0, ex0, hf⟩ := nm_of hf
      refine r_nm ex0 ?_
      refine r_iload 29 6 C dX12_turnedOf_27 rfl rfl ?_
      obtain ⟨r0, u0, h0, hf⟩ := bd_of hf
      refine r_cSI 32 [.int v7, .int v2, .int x0, .int v6] C hR (c_X12_pulled ad v7 v2 x0 v6     u r0 u0 h0) q_X12_pulled tw_1069 tw_1070 (Nat.le_of_ble_eq_true rfl) (Nat.le_of_ble_eq_true rfl) rfl rfl (Nat.le_of_ble_eq_true rfl) dX12_turnedOf_29 rfl ?_
      refine r_aload_n 33 0 C dX12_turnedOf_32 rfl rfl rfl ?_
      refine r_get 36 38 8 C inX12 (wd_38 ad u0) rfl (by decide) tw_836 rfl rfl dX12_turnedOf_33 rfl ?_
      refine r_iload_n 37 1 C dX12_turnedOf_36 rfl rfl rfl ?_
      obtain ⟨hc0, hf⟩ := ck_of hf
      refine r_iaload 38 46 3 C (wd_46 ad u0) hc0 dX12_turnedOf_37 rfl ?_
      obtain ⟨x1, ex1, hf⟩ := nm_of hf
      refine r_nm ex1 ?_
      obtain ⟨r1, u1, h1, hf⟩ := bd_of hf
      refine r_cSI 41 [.int r0, .int x1] C hR (c_X12_damped ad r0 x1   u0 r1 u1 h1) q_X12_damped tw_1072 tw_1073 (Nat.le_of_ble_eq_true rfl) (Nat.le_of_ble_eq_true rfl) rfl rfl (Nat.le_of_ble_eq_true rfl) dX12_turnedOf_38 rfl ?_
      refine r_istore 43 [(0, .ref (ad 38)), (1, .int v1), (2, .int v2), (3, .int v3), (4, .int v4), (5, .int v5), (6, .int v6), (7, .int r1), (8, .int v8), (9, .int v9)] [1, 2, 3, 4, 5, 6, 7, 0, 8, 9] C dX12_turnedOf_41 (by decide) rfl rfl ?_
      refine r_iload 45 7 C dX12_turnedOf_43 rfl rfl ?_
      refine r_iload 47 9 C dX12_turnedOf_45 rfl rfl ?_
      refine r_iload 49 4 C dX12_turnedOf_47 rfl rfl ?_
      refine r_icmp_gt 52 57 C dX12_turnedOf_49 (by decide) rfl (fun c1 => ?_) (fun c1 => ?_)
      · have hf := ifT c1 hf
        refine r_iconst (v := 0) 58 C dX12_turnedOf_57 (by decide) rfl ?_
        refine r_sub [(0, .ref (ad 38)), (1, .int v1), (2, .int v2), (3, .int v3), (4, .int v4), (5, .int v5), (6, .int v6), (8, .int v8), (9, .int v9)] [0, 1, 2, 3, 4, 5, 6, 8, 9] rfl ?_
        exact w_X12_turnedOf_58 C hR E (fun v1 v2 v3 v4 v5 v6 v7 v8 v9 u => f_X12_turnedOf_12  n v1 v2 v3 v4 v5 v6 v7 v8 v9 u) (fun v1 v2 v3 v4 v5 v6 v7 v8 v9          u h => ih v1 v2 v3 v4 v5 v6 v7 v8 v9          u h)  v1 v2 v3 v4 v5 v6 v8 v9 r1 (0 : Int32)           u1 hf
      · have hf := ifF c1 hf
        refine r_iload 54 5 C dX12_turnedOf_52 rfl rfl ?_
        refine r_goto 58 C dX12_turnedOf_54 (by decide) ?_
        refine r_sub [(0, .ref (ad 38)), (1, .int v1), (2, .int v2), (3, .int v3), (4, .int v4), (5, .int v5), (6, .int v6), (8, .int v8), (9, .int v9)] [0, 1, 2, 3, 4, 5, 6, 8, 9] rfl ?_
        exact w_X12_turnedOf_58 C hR E (fun v1 v2 v3 v4 v5 v6 v7 v8 v9 u => f_X12_turnedOf_12  n v1 v2 v3 v4 v5 v6 v7 v8 v9 u) (fun v1 v2 v3 v4 v5 v6 v7 v8 v9          u h => ih v1 v2 v3 v4 v5 v6 v7 v8 v9          u h)  v1 v2 v3 v4 v5 v6 v8 v9 r1 v5           u1 hf
def f_X12_turnedOf (v1 : Int32) (v2 : Int32) (v3 : Int32) (v4 : Int32) (v5 : Int32) (u : S2) : Option (Int32 × S2) := f_X12_turnedOf_12  FUEL v1 v2 v3 v4 v5 (0 : Int32) (0 : Int32) (0 : Int32) (1 : Int32) u
set_option maxRecDepth 20000 in
theorem c_X12_turnedOf (ad : Nat → Nat) (v1 : Int32) (v2 : Int32) (v3 : Int32) (v4 : Int32) (v5 : Int32)      (u : S2) (r : Int32) (w : S2) (hf : f_X12_turnedOf v1 v2 v3 v4 v5 u = some (r, w)) : HI yX12_turnedOf cX12_turnedOf 10 (some .int) 3 63 ad [.ref (ad 38), .int v1, .int v2, .int v3, .int v4, .int v5] u r w := by
  refine HI_of (by decide) (Nat.le_of_ble_eq_true rfl) (fun K C hR E => ?_)
  refine r_sub [(0, .ref (ad 38)), (1, .int v1), (2, .int v2), (3, .int v3), (4, .int v4), (5, .int v5)] [0, 1, 2, 3, 4, 5] rfl ?_
  unfold f_X12_turnedOf at hf
  refine r_iconst (v := 0) 1 C dX12_turnedOf_0 (by decide) rfl ?_
  refine r_istore 3 [(0, .ref (ad 38)), (1, .int v1), (2, .int v2), (3, .int v3), (4, .int v4), (5, .int v5), (6, .int (0 : Int32))] [1, 2, 3, 4, 5, 6, 0] C dX12_turnedOf_1 (by decide) rfl rfl ?_
  refine r_iconst (v := 0) 4 C dX12_turnedOf_3 (by decide) rfl ?_
  refine r_istore 6 [(0, .ref (ad 38)), (1, .int v1), (2, .int v2), (3, .int v3), (4, .int v4), (5, .int v5), (6, .int (0 : Int32)), (7, .int (0 : Int32))] [1, 2, 3, 4, 5, 6, 7, 0] C dX12_turnedOf_4 (by decide) rfl rfl ?_
  refine r_iconst (v := 0) 7 C dX12_turnedOf_6 (by decide) rfl ?_
  refine r_istore 9 [(0, .ref (ad 38)), (1, .int v1), (2, .int v2), (3, .int v3), (4, .int v4), (5, .int v5), (6, .int (0 : Int32)), (7, .int (0 : Int32)), (8, .int (0 : Int32))] [1, 2, 3, 4, 5, 6, 7, 8, 0] C dX12_turnedOf_7 (by decide) rfl rfl ?_
  refine r_iconst (v := 1) 10 C dX12_turnedOf_9 (by decide) rfl ?_
  refine r_istore 12 [(0, .ref (ad 38)), (1, .int v1), (2, .int v2), (3, .int v3), (4, .int v4), (5, .int v5), (6, .int (0 : Int32)), (7, .int (0 : Int32)), (8, .int (0 : Int32)), (9, .int (1 : Int32))] [1, 2, 3, 4, 5, 6, 7, 8, 9, 0] C dX12_turnedOf_10 (by decide) rfl rfl ?_
  refine r_sub [(0, .ref (ad 38)), (1, .int v1), (2, .int v2), (3, .int v3), (4, .int v4), (5, .int v5), (6, .int (0 : Int32)), (7, .int (0 : Int32)), (8, .int (0 : Int32)), (9, .int (1 : Int32))] [0, 1, 2, 3, 4, 5, 6, 7, 8, 9] rfl ?_
  exact w_X12_turnedOf_12 C hR E  FUEL v1 v2 v3 v4 v5 (0 : Int32) (0 : Int32) (0 : Int32) (1 : Int32)          u hf
def f_X12_isTurn (v0 : Int32) (v1 : Int32) (v2 : Int32) (u : S2) : Option (Int32 × S2) := bd (f_X12_in ((Int32.toInt64 v0)) ((1 : Int64)) ((300 : Int64)) u) (fun r0 u0 => (if r0 = 0 then some ((0 : Int32), u0) else bd (f_X12_in ((Int32.toInt64 v1)) ((0 : Int64)) ((Int32.toInt64 v0)) u0) (fun r1 u1 => (if r1 = 0 then some ((0 : Int32), u1) else bd (f_X12_in ((Int32.toInt64 v2)) ((-999 : Int64)) ((999 : Int64)) u1) (fun r2 u2 => (if r2 = 0 then some ((0 : Int32), u2) else some ((1 : Int32), u2)))))))
set_option maxRecDepth 20000 in
theorem c_X12_isTurn (ad : Nat → Nat) (v0 : Int32) (v1 : Int32) (v2 : Int32)    (u : S2) (r : Int32) (w : S2) (hf : f_X12_isTurn v0 v1 v2 u = some (r, w)) : HI yX12_isTurn cX12_isTurn 3 (some .boolean) 1 25 ad [.int v0, .int v1, .int v2] u r w := by
  refine HI_of (by decide) (Nat.le_of_ble_eq_true rfl) (fun K C hR E => ?_)
  refine r_sub [(0, .int v0), (1, .int v1), (2, .int v2)] [0, 1, 2] rfl ?_
  unfold f_X12_isTurn at hf
  refine r_iload_n 1 0 C dX12_isTurn_0 rfl rfl rfl ?_
  refine r_i2l 2 C dX12_isTurn_1 rfl ?_
  refine r_lconst (v := 1) 3 C dX12_isTurn_2 (by decide) rfl ?_
  refine r_ldc2 (v := 300) 6 C tw_1154 dX12_isTurn_3 rfl ?_
  obtain ⟨r0, u0, h0, hf⟩ := bd_of hf
  refine r_cSI 9 [.long (Int32.toInt64 v0), .long (1 : Int64), .long (300 : Int64)] C hR (c_X12_in ad ((Int32.toInt64 v0)) ((1 : Int64)) ((300 : Int64))    u r0 u0 h0) q_X12_in tw_945 tw_946 (Nat.le_of_ble_eq_true rfl) (Nat.le_of_ble_eq_true rfl) rfl rfl (Nat.le_of_ble_eq_true rfl) dX12_isTurn_6 rfl ?_
  refine r_if_eq 12 41 C dX12_isTurn_9 (by decide) rfl (fun c0 => ?_) (fun c0 => ?_)
  · have hf := ifT c0 hf
    refine r_iconst (v := 0) 42 C dX12_isTurn_41 (by decide) rfl ?_
    exact r_zret C E rfl (pr1 hf) (pr2 hf) dX12_isTurn_42
  · have hf := ifF c0 hf
    refine r_iload_n 13 1 C dX12_isTurn_12 rfl rfl rfl ?_
    refine r_i2l 14 C dX12_isTurn_13 rfl ?_
    refine r_lconst (v := 0) 15 C dX12_isTurn_14 (by decide) rfl ?_
    refine r_iload_n 16 0 C dX12_isTurn_15 rfl rfl rfl ?_
    refine r_i2l 17 C dX12_isTurn_16 rfl ?_
    obtain ⟨r1, u1, h1, hf⟩ := bd_of hf
    refine r_cSI 20 [.long (Int32.toInt64 v1), .long (0 : Int64), .long (Int32.toInt64 v0)] C hR (c_X12_in ad ((Int32.toInt64 v1)) ((0 : Int64)) ((Int32.toInt64 v0))    u0 r1 u1 h1) q_X12_in tw_945 tw_946 (Nat.le_of_ble_eq_true rfl) (Nat.le_of_ble_eq_true rfl) rfl rfl (Nat.le_of_ble_eq_true rfl) dX12_isTurn_17 rfl ?_
    refine r_if_eq 23 41 C dX12_isTurn_20 (by decide) rfl (fun c1 => ?_) (fun c1 => ?_)
    · have hf := ifT c1 hf
      refine r_iconst (v := 0) 42 C dX12_isTurn_41 (by decide) rfl ?_
      exact r_zret C E rfl (pr1 hf) (pr2 hf) dX12_isTurn_42
    · have hf := ifF c1 hf
      refine r_iload_n 24 2 C dX12_isTurn_23 rfl rfl rfl ?_
      refine r_i2l 25 C dX12_isTurn_24 rfl ?_
      refine r_ldc2 (v := -999) 28 C tw_966 dX12_isTurn_25 rfl ?_
      refine r_ldc2 (v := 999) 31 C tw_967 dX12_isTurn_28 rfl ?_
      obtain ⟨r2, u2, h2, hf⟩ := bd_of hf
      refine r_cSI 34 [.long (Int32.toInt64 v2), .long (-999 : Int64), .long (999 : Int64)] C hR (c_X12_in ad ((Int32.toInt64 v2)) ((-999 : Int64)) ((999 : Int64))    u1 r2 u2 h2) q_X12_in tw_945 tw_946 (Nat.le_of_ble_eq_true rfl) (Nat.le_of_ble_eq_true rfl) rfl rfl (Nat.le_of_ble_eq_true rfl) dX12_isTurn_31 rfl ?_
      refine r_if_eq 37 41 C dX12_isTurn_34 (by decide) rfl (fun c2 => ?_) (fun c2 => ?_)
      · have hf := ifT c2 hf
        refine r_iconst (v := 0) 42 C dX12_isTurn_41 (by decide) rfl ?_
        exact r_zret C E rfl (pr1 hf) (pr2 hf) dX12_isTurn_42
      · have hf := ifF c2 hf
        refine r_iconst (v := 1) 38 C dX12_isTurn_37 (by decide) rfl ?_
        refine r_goto 42 C dX12_isTurn_38 (by decide) ?_
        exact r_zret C E rfl (pr1 hf) (pr2 hf) dX12_isTurn_42
def f_X12_turned (v1 : Int32) (v2 : Int32) (v3 : Int32) (v4 : Int32) (u : S2) : Option (Int32 × S2) := bd (f_X12_isPointer v1 u) (fun r0 u0 => (if r0 = 0 then some ((-2 : Int32), u0) else bd (f_X12_isTurn v2 v3 v4 u0) (fun r1 u1 => (if r1 = 0 then some ((-3 : Int32), u1) else ck (inb v1 3) (nm (u1 45 (Int32.toNatClampNeg v1)) (fun x0 => bd (f_X12_turnedOf v1 x0 v2 v3 v4 u1) (fun r2 u2 => some (r2, u2))))))))
set_option maxRecDepth 20000 in
theorem c_X12_turned (ad : Nat → Nat) (v1 : Int32) (v2 : Int32) (v3 : Int32) (v4 : Int32)     (u : S2) (r : Int32) (w : S2) (hf : f_X12_turned v1 v2 v3 v4 u = some (r, w)) : HI yX12_turned cX12_turned 5 (some .int) 4 92 ad [.ref (ad 38), .int v1, .int v2, .int v3, .int v4] u r w := by
  refine HI_of (by decide) (Nat.le_of_ble_eq_true rfl) (fun K C hR E => ?_)
  refine r_sub [(0, .ref (ad 38)), (1, .int v1), (2, .int v2), (3, .int v3), (4, .int v4)] [0, 1, 2, 3, 4] rfl ?_
  unfold f_X12_turned at hf
  refine r_iload_n 1 1 C dX12_turned_0 rfl rfl rfl ?_
  obtain ⟨r0, u0, h0, hf⟩ := bd_of hf
  refine r_cSI 4 [.int v1] C hR (c_X12_isPointer ad v1  u r0 u0 h0) q_X12_isPointer tw_976 tw_977 (Nat.le_of_ble_eq_true rfl) (Nat.le_of_ble_eq_true rfl) rfl rfl (Nat.le_of_ble_eq_true rfl) dX12_turned_1 rfl ?_
  refine r_if_ne 7 10 C dX12_turned_4 (by decide) rfl (fun c0 => ?_) (fun c0 => ?_)
  · have hf := ifF c0 hf
    refine r_iload_n 11 2 C dX12_turned_10 rfl rfl rfl ?_
    refine r_iload_n 12 3 C dX12_turned_11 rfl rfl rfl ?_
    refine r_iload 14 4 C dX12_turned_12 rfl rfl ?_
    obtain ⟨r1, u1, h1, hf⟩ := bd_of hf
    refine r_cSI 17 [.int v2, .int v3, .int v4] C hR (c_X12_isTurn ad v2 v3 v4    u0 r1 u1 h1) q_X12_isTurn tw_1151 tw_1152 (Nat.le_of_ble_eq_true rfl) (Nat.le_of_ble_eq_true rfl) rfl rfl (Nat.le_of_ble_eq_true rfl) dX12_turned_14 rfl ?_
    refine r_if_eq 20 38 C dX12_turned_17 (by decide) rfl (fun c1 => ?_) (fun c1 => ?_)
    · have hf := ifT c1 hf
      refine r_bipush (v := -3) 40 C dX12_turned_38 (by decide) rfl ?_
      exact r_iret C E (pr1 hf) (pr2 hf) dX12_turned_40
    · have hf := ifF c1 hf
      refine r_aload_n 21 0 C dX12_turned_20 rfl rfl rfl ?_
      refine r_iload_n 22 1 C dX12_turned_21 rfl rfl rfl ?_
      refine r_aload_n 23 0 C dX12_turned_22 rfl rfl rfl ?_
      refine r_get 26 38 7 C inX12 (wd_38 ad u1) rfl (by decide) tw_835 rfl rfl dX12_turned_23 rfl ?_
      refine r_iload_n 27 1 C dX12_turned_26 rfl rfl rfl ?_
      obtain ⟨hc0, hf⟩ := ck_of hf
      refine r_iaload 28 45 3 C (wd_45 ad u1) hc0 dX12_turned_27 rfl ?_
      obtain ⟨x0, ex0, hf⟩ := nm_of hf
      refine r_nm ex0 ?_
      refine r_iload_n 29 2 C dX12_turned_28 rfl rfl rfl ?_
      refine r_iload_n 30 3 C dX12_turned_29 rfl rfl rfl ?_
      refine r_iload 32 4 C dX12_turned_30 rfl rfl ?_
      obtain ⟨r2, u2, h2, hf⟩ := bd_of hf
      refine r_cVI 35 [.int v1, .int x0, .int v2, .int v3, .int v4] C hR (c_X12_turnedOf ad v1 x0 v2 v3 v4       u1 r2 u2 h2) q_X12_turnedOf tw_1155 (wd_38 ad u1) rfl rfl tw_1157 tp_53 (Nat.le_of_ble_eq_true rfl) (Nat.le_of_ble_eq_true rfl) rfl rfl (Nat.le_of_ble_eq_true rfl) dX12_turned_32 rfl ?_
      refine r_goto 40 C dX12_turned_35 (by decide) ?_
      exact r_iret C E (pr1 hf) (pr2 hf) dX12_turned_40
  · have hf := ifT c0 hf
    refine r_bipush (v := -2) 9 C dX12_turned_7 (by decide) rfl ?_
    exact r_iret C E (pr1 hf) (pr2 hf) dX12_turned_9
def f_X12_bestPull_68 (z29 : Int32 → Int32 → Int32 → Int32 → Int32 → Int32 → S2 → Option (Int32 × S2)) (v1 : Int32) (v2 : Int32) (v3 : Int32) (v4 : Int32) (v6 : Int32) (t0 : Int32) (u : S2) : Option (Int32 × S2) := nm (v6 + (1 : Int32)) (fun x0 => z29 v1 v2 v3 v4 t0 x0 u)
set_option maxRecDepth 20000 in
theorem w_X12_bestPull_68 {K : Ctx} {ad : Nat → Nat} (C : Cx K ad cX12_bestPull 7 yX12_bestPull.cls (some .int)) (hR : Rm K 4 92) {r : Int32} {w : S2} (E : EI K ad r w) (z29 : Int32 → Int32 → Int32 → Int32 → Int32 → Int32 → S2 → Option (Int32 × S2)) (hz29 : ∀ (v1 : Int32) (v2 : Int32) (v3 : Int32) (v4 : Int32) (v5 : Int32) (v6 : Int32)       (u : S2), z29 v1 v2 v3 v4 v5 v6 u = some (r, w) → RW K ad 7 29 [(0, .ref (ad 38)), (1, .int v1), (2, .int v2), (3, .int v3), (4, .int v4), (5, .int v5), (6, .int v6)] [] u) (v1 : Int32) (v2 : Int32) (v3 : Int32) (v4 : Int32) (v6 : Int32) (t0 : Int32)       (u : S2) (hf : f_X12_bestPull_68 z29 v1 v2 v3 v4 v6 t0 u = some (r, w)) : RW K ad 7 68 [(0, .ref (ad 38)), (1, .int v1), (2, .int v2), (3, .int v3), (4, .int v4), (6, .int v6)] [.int t0] u := by
  unfold f_X12_bestPull_68 at hf
  refine r_istore 70 [(0, .ref (ad 38)), (1, .int v1), (2, .int v2), (3, .int v3), (4, .int v4), (5, .int t0), (6, .int v6)] [1, 2, 3, 4, 5, 0, 6] C dX12_bestPull_68 (by decide) rfl rfl ?_
  obtain ⟨x0, ex0, hf⟩ := nm_of hf
  refine r_iinc (v := x0) 73 6 [(0, .ref (ad 38)), (1, .int v1), (2, .int v2), (3, .int v3), (4, .int v4), (5, .int t0), (6, .int x0)] [1, 2, 3, 4, 5, 6, 0] C dX12_bestPull_70 rfl (by rw [ex0]; rfl) (by decide) rfl rfl ?_
  refine r_goto 29 C dX12_bestPull_73 (by decide) ?_
  refine r_sub [(0, .ref (ad 38)), (1, .int v1), (2, .int v2), (3, .int v3), (4, .int v4), (5, .int t0), (6, .int x0)] [0, 1, 2, 3, 4, 5, 6] rfl ?_
  exact hz29 v1 v2 v3 v4 t0 x0       u hf
def f_X12_bestPull_29  : Nat → Int32 → Int32 → Int32 → Int32 → Int32 → Int32 → S2 → Option (Int32 × S2)
  | 0, _, _, _, _, _, _, _ => none
  | n + 1, v1, v2, v3, v4, v5, v6, u => (if (100 : Int32) ≤ v6 then some (v5, u) else bd (f_X12_turnedOf v1 v6 v2 v3 v4 u) (fun r0 u0 => bd (f_X12_turnedOf v1 v5 v2 v3 v4 u0) (fun r1 u1 => (if r1 ≤ r0 then f_X12_bestPull_68 (fun v1 v2 v3 v4 v5 v6 u => f_X12_bestPull_29  n v1 v2 v3 v4 v5 v6 u)  v1 v2 v3 v4 v6 v5 u1 else f_X12_bestPull_68 (fun v1 v2 v3 v4 v5 v6 u => f_X12_bestPull_29  n v1 v2 v3 v4 v5 v6 u)  v1 v2 v3 v4 v6 v6 u1))))
theorem f_X12_bestPull_29_e  (n : Nat) (v1 : Int32) (v2 : Int32) (v3 : Int32) (v4 : Int32) (v5 : Int32) (v6 : Int32) (u : S2) : f_X12_bestPull_29  (n + 1) v1 v2 v3 v4 v5 v6 u = (if (100 : Int32) ≤ v6 then some (v5, u) else bd (f_X12_turnedOf v1 v6 v2 v3 v4 u) (fun r0 u0 => bd (f_X12_turnedOf v1 v5 v2 v3 v4 u0) (fun r1 u1 => (if r1 ≤ r0 then f_X12_bestPull_68 (fun v1 v2 v3 v4 v5 v6 u => f_X12_bestPull_29  n v1 v2 v3 v4 v5 v6 u)  v1 v2 v3 v4 v6 v5 u1 else f_X12_bestPull_68 (fun v1 v2 v3 v4 v5 v6 u => f_X12_bestPull_29  n v1 v2 v3 v4 v5 v6 u)  v1 v2 v3 v4 v6 v6 u1)))) := rfl
set_option maxRecDepth 20000 in
theorem w_X12_bestPull_29 {K : Ctx} {ad : Nat → Nat} (C : Cx K ad cX12_bestPull 7 yX12_bestPull.cls (some .int)) (hR : Rm K 4 92) {r : Int32} {w : S2} (E : EI K ad r w)  : ∀ (n : Nat) (v1 : Int32) (v2 : Int32) (v3 : Int32) (v4 : Int32) (v5 : Int32) (v6 : Int32)       (u : S2) (hf : f_X12_bestPull_29  n v1 v2 v3 v4 v5 v6 u = some (r, w)), RW K ad 7 29 [(0, .ref (ad 38)), (1, .int v1), (2, .int v2), (3, .int v3), (4, .int v4), (5, .int v5), (6, .int v6)] [] u := by
  intro n
  induction n with
  | zero => intro v1 v2 v3 v4 v5 v6       u hf; cases hf
  | succ n ih =>
    intro v1 v2 v3 v4 v5 v6       u hf
    rw [f_X12_bestPull_29_e] at hf
    refine r_iload 31 6 C dX12_bestPull_29 rfl rfl ?_
    refine r_bipush (v := 100) 33 C dX12_bestPull_31 (by decide) rfl ?_
    refine r_icmp_ge 36 76 C dX12_bestPull_33 (by decide) rfl (fun c0 => ?_) (fun c0 => ?_)
    · have hf := ifT c0 hf
      refine r_iload 78 5 C dX12_bestPull_76 rfl rfl ?_
      exact r_iret C E (pr1 hf) (pr2 hf) dX12_bestPull_78
    · have hf := ifF c0 hf
      refine r_aload_n 37 0 C dX12_bestPull_36 rfl rfl rfl ?_
      refine r_iload_n 38 1 C dX12_bestPull_37 rfl rfl rfl ?_
      refine r_iload 40 6 C dX12_bestPull_38 rfl rfl ?_
      refine r_iload_n 41 2 C dX12_bestPull_40 rfl rfl rfl ?_
      refine r_iload_n 42 3 C dX12_bestPull_41 rfl rfl rfl ?_
      refine r_iload 44 4 C dX12_bestPull_42 rfl rfl ?_
      obtain ⟨r0, u0, h0, hf⟩ := bd_of hf
      refine r_cVI 47 [.int v1, .int v6, .int v2, .int v3, .int v4] C hR (c_X12_turnedOf ad v1 v6 v2 v3 v4       u r0 u0 h0) q_X12_turnedOf tw_1155 (wd_38 ad u) rfl rfl tw_1157 tp_53 (Nat.le_of_ble_eq_true rfl) (Nat.le_of_ble_eq_true rfl) rfl rfl (Nat.le_of_ble_eq_true rfl) dX12_bestPull_44 rfl ?_
      refine r_aload_n 48 0 C dX12_bestPull_47 rfl rfl rfl ?_
      refine r_iload_n 49 1 C dX12_bestPull_48 rfl rfl rfl ?_
      refine r_iload 51 5 C dX12_bestPull_49 rfl rfl ?_
      refine r_iload_n 52 2 C dX12_bestPull_51 rfl rfl rfl ?_
      refine r_iload_n 53 3 C dX12_bestPull_52 rfl rfl rfl ?_
      refine r_iload 55 4 C dX12_bestPull_53 rfl rfl ?_
      obtain ⟨r1, u1, h1, hf⟩ := bd_of hf
      refine r_cVI 58 [.int v1, .int v5, .int v2, .int v3, .int v4] C hR (c_X12_turnedOf ad v1 v5 v2 v3 v4       u0 r1 u1 h1) q_X12_turnedOf tw_1155 (wd_38 ad u0) rfl rfl tw_1157 tp_53 (Nat.le_of_ble_eq_true rfl) (Nat.le_of_ble_eq_true rfl) rfl rfl (Nat.le_of_ble_eq_true rfl) dX12_bestPull_55 rfl ?_
      refine r_icmp_ge 61 66 C dX12_bestPull_58 (by decide) rfl (fun c1 => ?_) (fun c1 => ?_)
      · have hf := ifT c1 hf
        refine r_iload 68 5 C dX12_bestPull_66 rfl rfl ?_
        refine r_sub [(0, .ref (ad 38)), (1, .int v1), (2, .int v2), (3, .int v3), (4, .int v4), (6, .int v6)] [0, 1, 2, 3, 4, 6] rfl ?_
        exact w_X12_bestPull_68 C hR E (fun v1 v2 v3 v4 v5 v6 u => f_X12_bestPull_29  n v1 v2 v3 v4 v5 v6 u) (fun v1 v2 v3 v4 v5 v6       u h => ih v1 v2 v3 v4 v5 v6       u h)  v1 v2 v3 v4 v6 v5       u1 hf
      · have hf := ifF c1 hf
        refine r_iload 63 6 C dX12_bestPull_61 rfl rfl ?_
        refine r_goto 68 C dX12_bestPull_63 (by decide) ?_
        refine r_sub [(0, .ref (ad 38)), (1, .int v1), (2, .int v2), (3, .int v3), (4, .int v4), (6, .int v6)] [0, 1, 2, 3, 4, 6] rfl ?_
        exact w_X12_bestPull_68 C hR E (fun v1 v2 v3 v4 v5 v6 u => f_X12_bestPull_29  n v1 v2 v3 v4 v5 v6 u) (fun v1 v2 v3 v4 v5 v6       u h => ih v1 v2 v3 v4 v5 v6       u h)  v1 v2 v3 v4 v6 v6       u1 hf
def f_X12_bestPull (v1 : Int32) (v2 : Int32) (v3 : Int32) (v4 : Int32) (u : S2) : Option (Int32 × S2) := bd (f_X12_isPointer v1 u) (fun r0 u0 => (if r0 = 0 then some ((-2 : Int32), u0) else bd (f_X12_isTurn v2 v3 v4 u0) (fun r1 u1 => (if r1 = 0 then some ((-3 : Int32), u1) else f_X12_bestPull_29  FUEL v1 v2 v3 v4 (1 : Int32) (2 : Int32) u1))))
set_option maxRecDepth 20000 in
theorem c_X12_bestPull (ad : Nat → Nat) (v1 : Int32) (v2 : Int32) (v3 : Int32) (v4 : Int32)     (u : S2) (r : Int32) (w : S2) (hf : f_X12_bestPull v1 v2 v3 v4 u = some (r, w)) : HI yX12_bestPull cX12_bestPull 7 (some .int) 4 92 ad [.ref (ad 38), .int v1, .int v2, .int v3, .int v4] u r w := by
  refine HI_of (by decide) (Nat.le_of_ble_eq_true rfl) (fun K C hR E => ?_)
  refine r_sub [(0, .ref (ad 38)), (1, .int v1), (2, .int v2), (3, .int v3), (4, .int v4)] [0, 1, 2, 3, 4] rfl ?_
  unfold f_X12_bestPull at hf
  refine r_iload_n 1 1 C dX12_bestPull_0 rfl rfl rfl ?_
  obtain ⟨r0, u0, h0, hf⟩ := bd_of hf
  refine r_cSI 4 [.int v1] C hR (c_X12_isPointer ad v1  u r0 u0 h0) q_X12_isPointer tw_976 tw_977 (Nat.le_of_ble_eq_true rfl) (Nat.le_of_ble_eq_true rfl) rfl rfl (Nat.le_of_ble_eq_true rfl) dX12_bestPull_1 rfl ?_
  refine r_if_ne 7 10 C dX12_bestPull_4 (by decide) rfl (fun c0 => ?_) (fun c0 => ?_)
  · have hf := ifF c0 hf
    refine r_iload_n 11 2 C dX12_bestPull_10 rfl rfl rfl ?_
    refine r_iload_n 12 3 C dX12_bestPull_11 rfl rfl rfl ?_
    refine r_iload 14 4 C dX12_bestPull_12 rfl rfl ?_
    obtain ⟨r1, u1, h1, hf⟩ := bd_of hf
    refine r_cSI 17 [.int v2, .int v3, .int v4] C hR (c_X12_isTurn ad v2 v3 v4    u0 r1 u1 h1) q_X12_isTurn tw_1151 tw_1152 (Nat.le_of_ble_eq_true rfl) (Nat.le_of_ble_eq_true rfl) rfl rfl (Nat.le_of_ble_eq_true rfl) dX12_bestPull_14 rfl ?_
    refine r_if_ne 20 23 C dX12_bestPull_17 (by decide) rfl (fun c1 => ?_) (fun c1 => ?_)
    · have hf := ifF c1 hf
      refine r_iconst (v := 1) 24 C dX12_bestPull_23 (by decide) rfl ?_
      refine r_istore 26 [(0, .ref (ad 38)), (1, .int v1), (2, .int v2), (3, .int v3), (4, .int v4), (5, .int (1 : Int32))] [1, 2, 3, 4, 5, 0] C dX12_bestPull_24 (by decide) rfl rfl ?_
      refine r_iconst (v := 2) 27 C dX12_bestPull_26 (by decide) rfl ?_
      refine r_istore 29 [(0, .ref (ad 38)), (1, .int v1), (2, .int v2), (3, .int v3), (4, .int v4), (5, .int (1 : Int32)), (6, .int (2 : Int32))] [1, 2, 3, 4, 5, 6, 0] C dX12_bestPull_27 (by decide) rfl rfl ?_
      refine r_sub [(0, .ref (ad 38)), (1, .int v1), (2, .int v2), (3, .int v3), (4, .int v4), (5, .int (1 : Int32)), (6, .int (2 : Int32))] [0, 1, 2, 3, 4, 5, 6] rfl ?_
      exact w_X12_bestPull_29 C hR E  FUEL v1 v2 v3 v4 (1 : Int32) (2 : Int32)       u1 hf
    · have hf := ifT c1 hf
      refine r_bipush (v := -3) 22 C dX12_bestPull_20 (by decide) rfl ?_
      exact r_iret C E (pr1 hf) (pr2 hf) dX12_bestPull_22
  · have hf := ifT c0 hf
    refine r_bipush (v := -2) 9 C dX12_bestPull_7 (by decide) rfl ?_
    exact r_iret C E (pr1 hf) (pr2 hf) dX12_bestPull_9
def f_X12_keep_196 (z116 : Int32 → Int32 → Int32 → S2 → Option (S2)) (v1 : Int32) (v2 : Int32) (v3 : Int32) (t1 : Int32) (u : S2) : Option (S2) := nm (wr u 38 33 t1) (fun u0 => nm (v3 + (1 : Int32)) (fun x0 => z116 v1 v2 x0 u0))
set_option maxRecDepth 20000 in
theorem w_X12_keep_196 {K : Ctx} {ad : Nat → Nat} (C : Cx K ad cX12_keep 5 yX12_keep.cls none) (hR : Rm K 5 112) {w : S2} (E : EV K ad w) (z116 : Int32 → Int32 → Int32 → S2 → Option (S2)) (hz116 : ∀ (v1 : Int32) (v2 : Int32) (v3 : Int32)    (u : S2), z116 v1 v2 v3 u = some w → RW K ad 5 116 [(0, .ref (ad 38)), (1, .int v1), (2, .int v2), (3, .int v3)] [] u) (v1 : Int32) (v2 : Int32) (v3 : Int32) (t1 : Int32)     (u : S2) (hf : f_X12_keep_196 z116 v1 v2 v3 t1 u = some w) : RW K ad 5 196 [(0, .ref (ad 38)), (1, .int v1), (2, .int v2), (3, .int v3)] [.int t1, .ref (ad 38)] u := by
  unfold f_X12_keep_196 at hf
  refine r_put 199 38 33 C inX12 tyX12_ok nmX12 (wd_38 ad u) (sF_38_33 ad u t1) rfl (by decide) tw_861 rfl rfl (tyX12_ok 33 (by decide)) rfl rfl (Nat.le_of_ble_eq_true rfl) dX12_keep_196 rfl ?_
  obtain ⟨u0, eu0, hf⟩ := nm_of hf
  refine r_st eu0 ?_
  obtain ⟨x0, ex0, hf⟩ := nm_of hf
  refine r_iinc (v := x0) 202 3 [(0, .ref (ad 38)), (1, .int v1), (2, .int v2), (3, .int x0)] [1, 2, 3, 0] C dX12_keep_199 rfl (by rw [ex0]; rfl) (by decide) rfl rfl ?_
  refine r_goto 116 C dX12_keep_202 (by decide) ?_
  refine r_sub [(0, .ref (ad 38)), (1, .int v1), (2, .int v2), (3, .int x0)] [0, 1, 2, 3] rfl ?_
  exact hz116 v1 v2 x0    u0 hf
def f_X12_keep_192 (z116 : Int32 → Int32 → Int32 → S2 → Option (S2)) (v1 : Int32) (v2 : Int32) (v3 : Int32) (u : S2) : Option (S2) := f_X12_keep_196 z116  v1 v2 v3 (u 38 33) u
set_option maxRecDepth 20000 in
theorem w_X12_keep_192 {K : Ctx} {ad : Nat → Nat} (C : Cx K ad cX12_keep 5 yX12_keep.cls none) (hR : Rm K 5 112) {w : S2} (E : EV K ad w) (z116 : Int32 → Int32 → Int32 → S2 → Option (S2)) (hz116 : ∀ (v1 : Int32) (v2 : Int32) (v3 : Int32)    (u : S2), z116 v1 v2 v3 u = some w → RW K ad 5 116 [(0, .ref (ad 38)), (1, .int v1), (2, .int v2), (3, .int v3)] [] u) (v1 : Int32) (v2 : Int32) (v3 : Int32)    (u : S2) (hf : f_X12_keep_192 z116 v1 v2 v3 u = some w) : RW K ad 5 192 [(0, .ref (ad 38)), (1, .int v1), (2, .int v2), (3, .int v3)] [.ref (ad 38)] u := by
  unfold f_X12_keep_192 at hf
  refine r_aload_n 193 0 C dX12_keep_192 rfl rfl rfl ?_
  refine r_get 196 38 33 C inX12 (wd_38 ad u) rfl (by decide) tw_861 rfl rfl dX12_keep_193 rfl ?_
  refine r_sub [(0, .ref (ad 38)), (1, .int v1), (2, .int v2), (3, .int v3)] [0, 1, 2, 3] rfl ?_
  exact w_X12_keep_196 C hR E z116 hz116  v1 v2 v3 (u 38 33)     u hf
def f_X12_keep_116  : Nat → Int32 → Int32 → Int32 → S2 → Option (S2)
  | 0, _, _, _, _ => none
  | n + 1, v1, v2, v3, u => (if v1 < v3 then some u else bv (f_X12_steer (1 : Int32) v2 u) (fun u0 => bv (f_X12_tick (1 : Int32) u0) (fun u1 => nm (u1 39 7) (fun x0 => bd (f_X12_size x0 u1) (fun r0 u2 => nm ((u1 38 34) + r0) (fun x1 => nm (wr u2 38 34 x1) (fun u3 => nm (u3 40 1) (fun x2 => bd (f_X12_wrapped ((u3 38 20) - x2) u3) (fun r1 u4 => bd (f_X12_size r1 u4) (fun r2 u5 => (if v3 ≤ (v1 / (2 : Int32)) then f_X12_keep_192 (fun v1 v2 v3 u => f_X12_keep_116  n v1 v2 v3 u)  v1 v2 v3 u5 else (if r2 ≤ (u5 38 33) then f_X12_keep_192 (fun v1 v2 v3 u => f_X12_keep_116  n v1 v2 v3 u)  v1 v2 v3 u5 else f_X12_keep_196 (fun v1 v2 v3 u => f_X12_keep_116  n v1 v2 v3 u)  v1 v2 v3 r2 u5))))))))))))
theorem f_X12_keep_116_e  (n : Nat) (v1 : Int32) (v2 : Int32) (v3 : Int32) (u : S2) : f_X12_keep_116  (n + 1) v1 v2 v3 u = (if v1 < v3 then some u else bv (f_X12_steer (1 : Int32) v2 u) (fun u0 => bv (f_X12_tick (1 : Int32) u0) (fun u1 => nm (u1 39 7) (fun x0 => bd (f_X12_size x0 u1) (fun r0 u2 => nm ((u1 38 34) + r0) (fun x1 => nm (wr u2 38 34 x1) (fun u3 => nm (u3 40 1) (fun x2 => bd (f_X12_wrapped ((u3 38 20) - x2) u3) (fun r1 u4 => bd (f_X12_size r1 u4) (fun r2 u5 => (if v3 ≤ (v1 / (2 : Int32)) then f_X12_keep_192 (fun v1 v2 v3 u => f_X12_keep_116  n v1 v2 v3 u)  v1 v2 v3 u5 else (if r2 ≤ (u5 38 33) then f_X12_keep_192 (fun v1 v2 v3 u => f_X12_keep_116  n v1 v2 v3 u)  v1 v2 v3 u5 else f_X12_keep_196 (fun v1 v2 v3 u => f_X12_keep_116  n v1 v2 v3 u)  v1 v2 v3 r2 u5)))))))))))) := rfl
set_option maxRecDepth 20000 in
theorem w_X12_keep_116 {K : Ctx} {ad : Nat → Nat} (C : Cx K ad cX12_keep 5 yX12_keep.cls none) (hR : Rm K 5 112) {w : S2} (E : EV K ad w)  : ∀ (n : Nat) (v1 : Int32) (v2 : Int32) (v3 : Int32)    (u : S2) (hf : f_X12_keep_116  n v1 v2 v3 u = some w), RW K ad 5 116 [(0, .ref (ad 38)), (1, .int v1), (2, .int v2), (3, .int v3)] [] u := by
  intro n
  induction n with
  | zero => intro v1 v2 v3    u hf; cases hf
  | succ n ih =>
    intro v1 v2 v3    u hf
    rw [f_X12_keep_116_e] at hf
    refine r_iload_n 117 3 C dX12_keep_116 rfl rfl rfl ?_
    refine r_iload_n 118 1 C dX12_keep_117 rfl rfl rfl ?_
    refine r_icmp_gt 121 205 C dX12_keep_118 (by decide) rfl (fun c0 => ?_) (fun c0 => ?_)
    · have hf := ifT c0 hf
      exact r_vret C E (so_of hf) dX12_keep_205
    · have hf := ifF c0 hf
      refine r_aload_n 122 0 C dX12_keep_121 rfl rfl rfl ?_
      refine r_iconst (v := 1) 123 C dX12_keep_122 (by decide) rfl ?_
      refine r_iload_n 124 2 C dX12_keep_123 rfl rfl rfl ?_
      obtain ⟨u0, h0, hf⟩ := bv_of hf
      refine r_cVV 127 [.int (1 : Int32), .int v2] C hR (c_X12_steer ad (1 : Int32) v2    u u0 h0) q_X12_steer tw_1055 (wd_38 ad u) rfl rfl tw_1057 tp_45 (Nat.le_of_ble_eq_true rfl) (Nat.le_of_ble_eq_true rfl) rfl rfl (Nat.le_of_ble_eq_true rfl) dX12_keep_124 rfl ?_
      refine r_aload_n 128 0 C dX12_keep_127 rfl rfl rfl ?_
      refine r_iconst (v := 1) 129 C dX12_keep_128 (by decide) rfl ?_
      obtain ⟨u1, h1, hf⟩ := bv_of hf
      refine r_cVV 132 [.int (1 : Int32)] C hR (c_X12_tick ad (1 : Int32)   u0 u1 h1) q_X12_tick tw_1065 (wd_38 ad u0) rfl rfl tw_1067 tp_46 (Nat.le_of_ble_eq_true rfl) (Nat.le_of_ble_eq_true rfl) rfl rfl (Nat.le_of_ble_eq_true rfl) dX12_keep_129 rfl ?_
      refine r_aload_n 133 0 C dX12_keep_132 rfl rfl rfl ?_
      refine r_dup 134 C dX12_keep_133 rfl rfl ?_
      refine r_get 137 38 34 C inX12 (wd_38 ad u1) rfl (by decide) tw_862 rfl rfl dX12_keep_134 rfl ?_
      refine r_aload_n 138 0 C dX12_keep_137 rfl rfl rfl ?_
      refine r_get 141 38 0 C inX12 (wd_38 ad u1) rfl (by decide) tw_828 rfl rfl dX12_keep_138 rfl ?_
      refine r_bipush (v := 7) 143 C dX12_keep_141 (by decide) rfl ?_
      refine r_iaload 144 39 8 C (wd_39 ad u1) (by decide) dX12_keep_143 rfl ?_
      obtain ⟨x0, ex0, hf⟩ := nm_of hf
      refine r_nm ex0 ?_
      obtain ⟨r0, u2, h2, hf⟩ := bd_of hf
      refine r_cSI 147 [.int x0] C hR (c_X12_size ad x0  u1 r0 u2 h2) q_X12_size tw_1033 tw_1034 (Nat.le_of_ble_eq_true rfl) (Nat.le_of_ble_eq_true rfl) rfl rfl (Nat.le_of_ble_eq_true rfl) dX12_keep_144 rfl ?_
      refine r_iadd 148 C dX12_keep_147 rfl ?_
      obtain ⟨x1, ex1, hf⟩ := nm_of hf
      refine r_nm ex1 ?_
      refine r_put 151 38 34 C inX12 tyX12_ok nmX12 (wd_38 ad u2) (sF_38_34 ad u2 x1) rfl (by decide) tw_862 rfl rfl (tyX12_ok 34 (by decide)) rfl rfl (Nat.le_of_ble_eq_true rfl) dX12_keep_148 rfl ?_
      obtain ⟨u3, eu3, hf⟩ := nm_of hf
      refine r_st eu3 ?_
      refine r_aload_n 152 0 C dX12_keep_151 rfl rfl rfl ?_
      refine r_get 155 38 20 C inX12 (wd_38 ad u3) rfl (by decide) tw_848 rfl rfl dX12_keep_152 rfl ?_
      refine r_aload_n 156 0 C dX12_keep_155 rfl rfl rfl ?_
      refine r_get 159 38 1 C inX12 (wd_38 ad u3) rfl (by decide) tw_829 rfl rfl dX12_keep_156 rfl ?_
      refine r_iconst (v := 1) 160 C dX12_keep_159 (by decide) rfl ?_
      refine r_iaload 161 40 2 C (wd_40 ad u3) (by decide) dX12_keep_160 rfl ?_
      obtain ⟨x2, ex2, hf⟩ := nm_of hf
      refine r_nm ex2 ?_
      refine r_isub 162 C dX12_keep_161 rfl ?_
      obtain ⟨r1, u4, h3, hf⟩ := bd_of hf
      refine r_cSI 165 [.int ((u3 38 20) - x2)] C hR (c_X12_wrapped ad ((u3 38 20) - x2)  u3 r1 u4 h3) q_X12_wrapped tw_1059 tw_1060 (Nat.le_of_ble_eq_true rfl) (Nat.le_of_ble_eq_true rfl) rfl rfl (Nat.le_of_ble_eq_true rfl) dX12_keep_162 rfl ?_
      obtain ⟨r2, u5, h4, hf⟩ := bd_of hf
      refine r_cSI 168 [.int r1] C hR (c_X12_size ad r1  u4 r2 u5 h4) q_X12_size tw_1033 tw_1034 (Nat.le_of_ble_eq_true rfl) (Nat.le_of_ble_eq_true rfl) rfl rfl (Nat.le_of_ble_eq_true rfl) dX12_keep_165 rfl ?_
      refine r_istore 170 [(0, .ref (ad 38)), (1, .int v1), (2, .int v2), (3, .int v3), (4, .int r2)] [1, 2, 3, 4, 0] C dX12_keep_168 (by decide) rfl rfl ?_
      refine r_aload_n 171 0 C dX12_keep_170 rfl rfl rfl ?_
      refine r_iload_n 172 3 C dX12_keep_171 rfl rfl rfl ?_
      refine r_iload_n 173 1 C dX12_keep_172 rfl rfl rfl ?_
      refine r_iconst (v := 2) 174 C dX12_keep_173 (by decide) rfl ?_
      refine r_idiv 175 C dX12_keep_174 (by decide) rfl ?_
      refine r_icmp_le 178 192 C dX12_keep_175 (by decide) rfl (fun c1 => ?_) (fun c1 => ?_)
      · have hf := ifT c1 hf
        refine r_sub [(0, .ref (ad 38)), (1, .int v1), (2, .int v2), (3, .int v3)] [0, 1, 2, 3] rfl ?_
        exact w_X12_keep_192 C hR E (fun v1 v2 v3 u => f_X12_keep_116  n v1 v2 v3 u) (fun v1 v2 v3    u h => ih v1 v2 v3    u h)  v1 v2 v3    u5 hf
      · have hf := ifF c1 hf
        refine r_iload 180 4 C dX12_keep_178 rfl rfl ?_
        refine r_aload_n 181 0 C dX12_keep_180 rfl rfl rfl ?_
        refine r_get 184 38 33 C inX12 (wd_38 ad u5) rfl (by decide) tw_861 rfl rfl dX12_keep_181 rfl ?_
        refine r_icmp_le 187 192 C dX12_keep_184 (by decide) rfl (fun c2 => ?_) (fun c2 => ?_)
        · have hf := ifT c2 hf
          refine r_sub [(0, .ref (ad 38)), (1, .int v1), (2, .int v2), (3, .int v3)] [0, 1, 2, 3] rfl ?_
          exact w_X12_keep_192 C hR E (fun v1 v2 v3 u => f_X12_keep_116  n v1 v2 v3 u) (fun v1 v2 v3    u h => ih v1 v2 v3    u h)  v1 v2 v3    u5 hf
        · have hf := ifF c2 hf
          refine r_iload 189 4 C dX12_keep_187 rfl rfl ?_
          refine r_goto 196 C dX12_keep_189 (by decide) ?_
          refine r_sub [(0, .ref (ad 38)), (1, .int v1), (2, .int v2), (3, .int v3)] [0, 1, 2, 3] rfl ?_
          exact w_X12_keep_196 C hR E (fun v1 v2 v3 u => f_X12_keep_116  n v1 v2 v3 u) (fun v1 v2 v3    u h => ih v1 v2 v3    u h)  v1 v2 v3 r2     u5 hf
def f_X12_keep_68  (v1 : Int32) (v2 : Int32) (u : S2) : Option (S2) := nm (u 40 0) (fun x0 => nm (wr u 40 1 x0) (fun u0 => nm (u0 41 0) (fun x1 => nm (wr u0 41 1 x1) (fun u1 => nm (u1 42 0) (fun x2 => nm (wr u1 42 1 x2) (fun u2 => nm (wr u2 38 33 (0 : Int32)) (fun u3 => nm (wr u3 38 34 (0 : Int32)) (fun u4 => f_X12_keep_116  FUEL v1 v2 (1 : Int32) u4))))))))
set_option maxRecDepth 20000 in
theorem w_X12_keep_68 {K : Ctx} {ad : Nat → Nat} (C : Cx K ad cX12_keep 5 yX12_keep.cls none) (hR : Rm K 5 112) {w : S2} (E : EV K ad w)  (v1 : Int32) (v2 : Int32)   (u : S2) (hf : f_X12_keep_68  v1 v2 u = some w) : RW K ad 5 68 [(0, .ref (ad 38)), (1, .int v1), (2, .int v2)] [] u := by
  unfold f_X12_keep_68 at hf
  refine r_aload_n 69 0 C dX12_keep_68 rfl rfl rfl ?_
  refine r_get 72 38 1 C inX12 (wd_38 ad u) rfl (by decide) tw_829 rfl rfl dX12_keep_69 rfl ?_
  refine r_iconst (v := 1) 73 C dX12_keep_72 (by decide) rfl ?_
  refine r_aload_n 74 0 C dX12_keep_73 rfl rfl rfl ?_
  refine r_get 77 38 1 C inX12 (wd_38 ad u) rfl (by decide) tw_829 rfl rfl dX12_keep_74 rfl ?_
  refine r_iconst (v := 0) 78 C dX12_keep_77 (by decide) rfl ?_
  refine r_iaload 79 40 2 C (wd_40 ad u) (by decide) dX12_keep_78 rfl ?_
  obtain ⟨x0, ex0, hf⟩ := nm_of hf
  refine r_nm ex0 ?_
  refine r_iastore 80 40 2 C (wd_40 ad u) (sA_40 ad u) (by decide) dX12_keep_79 rfl ?_
  obtain ⟨u0, eu0, hf⟩ := nm_of hf
  refine r_st eu0 ?_
  refine r_aload_n 81 0 C dX12_keep_80 rfl rfl rfl ?_
  refine r_get 84 38 2 C inX12 (wd_38 ad u0) rfl (by decide) tw_830 rfl rfl dX12_keep_81 rfl ?_
  refine r_iconst (v := 1) 85 C dX12_keep_84 (by decide) rfl ?_
  refine r_aload_n 86 0 C dX12_keep_85 rfl rfl rfl ?_
  refine r_get 89 38 2 C inX12 (wd_38 ad u0) rfl (by decide) tw_830 rfl rfl dX12_keep_86 rfl ?_
  refine r_iconst (v := 0) 90 C dX12_keep_89 (by decide) rfl ?_
  refine r_iaload 91 41 2 C (wd_41 ad u0) (by decide) dX12_keep_90 rfl ?_
  obtain ⟨x1, ex1, hf⟩ := nm_of hf
  refine r_nm ex1 ?_
  refine r_iastore 92 41 2 C (wd_41 ad u0) (sA_41 ad u0) (by decide) dX12_keep_91 rfl ?_
  obtain ⟨u1, eu1, hf⟩ := nm_of hf
  refine r_st eu1 ?_
  refine r_aload_n 93 0 C dX12_keep_92 rfl rfl rfl ?_
  refine r_get 96 38 3 C inX12 (wd_38 ad u1) rfl (by decide) tw_831 rfl rfl dX12_keep_93 rfl ?_
  refine r_iconst (v := 1) 97 C dX12_keep_96 (by decide) rfl ?_
  refine r_aload_n 98 0 C dX12_keep_97 rfl rfl rfl ?_
  refine r_get 101 38 3 C inX12 (wd_38 ad u1) rfl (by decide) tw_831 rfl rfl dX12_keep_98 rfl ?_
  refine r_iconst (v := 0) 102 C dX12_keep_101 (by decide) rfl ?_
  refine r_iaload 103 42 2 C (wd_42 ad u1) (by decide) dX12_keep_102 rfl ?_
  obtain ⟨x2, ex2, hf⟩ := nm_of hf
  refine r_nm ex2 ?_
  refine r_iastore 104 42 2 C (wd_42 ad u1) (sA_42 ad u1) (by decide) dX12_keep_103 rfl ?_
  obtain ⟨u2, eu2, hf⟩ := nm_of hf
  refine r_st eu2 ?_
  refine r_aload_n 105 0 C dX12_keep_104 rfl rfl rfl ?_
  refine r_iconst (v := 0) 106 C dX12_keep_105 (by decide) rfl ?_
  refine r_put 109 38 33 C inX12 tyX12_ok nmX12 (wd_38 ad u2) (sF_38_33 ad u2 (0 : Int32)) rfl (by decide) tw_861 rfl rfl (tyX12_ok 33 (by decide)) rfl rfl (Nat.le_of_ble_eq_true rfl) dX12_keep_106 rfl ?_
  obtain ⟨u3, eu3, hf⟩ := nm_of hf
  refine r_st eu3 ?_
  refine r_aload_n 110 0 C dX12_keep_109 rfl rfl rfl ?_
  refine r_iconst (v := 0) 111 C dX12_keep_110 (by decide) rfl ?_
  refine r_put 114 38 34 C inX12 tyX12_ok nmX12 (wd_38 ad u3) (sF_38_34 ad u3 (0 : Int32)) rfl (by decide) tw_862 rfl rfl (tyX12_ok 34 (by decide)) rfl rfl (Nat.le_of_ble_eq_true rfl) dX12_keep_111 rfl ?_
  obtain ⟨u4, eu4, hf⟩ := nm_of hf
  refine r_st eu4 ?_
  refine r_iconst (v := 1) 115 C dX12_keep_114 (by decide) rfl ?_
  refine r_istore_n 116 [(0, .ref (ad 38)), (1, .int v1), (2, .int v2), (3, .int (1 : Int32))] [1, 2, 3, 0] C dX12_keep_115 rfl (by decide) rfl rfl ?_
  refine r_sub [(0, .ref (ad 38)), (1, .int v1), (2, .int v2), (3, .int (1 : Int32))] [0, 1, 2, 3] rfl ?_
  exact w_X12_keep_116 C hR E  FUEL v1 v2 (1 : Int32)    u4 hf
def f_X12_keep_29  : Nat → Int32 → Int32 → Int32 → S2 → Option (S2)
  | 0, _, _, _, _ => none
  | n + 1, v1, v2, v3, u => (if (3 : Int32) ≤ v3 then f_X12_keep_68   v1 v2 u else ck (inb v3 6) (nm (u 48 (Int32.toNatClampNeg v3)) (fun x0 => ck (inb ((3 : Int32) + v3) 6) (nm (wr u 48 (Int32.toNatClampNeg ((3 : Int32) + v3)) x0) (fun u0 => ck (inb v3 6) (nm (u0 49 (Int32.toNatClampNeg v3)) (fun x1 => ck (inb ((3 : Int32) + v3) 6) (nm (wr u0 49 (Int32.toNatClampNeg ((3 : Int32) + v3)) x1) (fun u1 => nm (v3 + (1 : Int32)) (fun x2 => f_X12_keep_29  n v1 v2 x2 u1))))))))))
theorem f_X12_keep_29_e  (n : Nat) (v1 : Int32) (v2 : Int32) (v3 : Int32) (u : S2) : f_X12_keep_29  (n + 1) v1 v2 v3 u = (if (3 : Int32) ≤ v3 then f_X12_keep_68   v1 v2 u else ck (inb v3 6) (nm (u 48 (Int32.toNatClampNeg v3)) (fun x0 => ck (inb ((3 : Int32) + v3) 6) (nm (wr u 48 (Int32.toNatClampNeg ((3 : Int32) + v3)) x0) (fun u0 => ck (inb v3 6) (nm (u0 49 (Int32.toNatClampNeg v3)) (fun x1 => ck (inb ((3 : Int32) + v3) 6) (nm (wr u0 49 (Int32.toNatClampNeg ((3 : Int32) + v3)) x1) (fun u1 => nm (v3 + (1 : Int32)) (fun x2 => f_X12_keep_29  n v1 v2 x2 u1)))))))))) := rfl
set_option maxRecDepth 20000 in
theorem w_X12_keep_29 {K : Ctx} {ad : Nat → Nat} (C : Cx K ad cX12_keep 5 yX12_keep.cls none) (hR : Rm K 5 112) {w : S2} (E : EV K ad w)  : ∀ (n : Nat) (v1 : Int32) (v2 : Int32) (v3 : Int32)    (u : S2) (hf : f_X12_keep_29  n v1 v2 v3 u = some w), RW K ad 5 29 [(0, .ref (ad 38)), (1, .int v1), (2, .int v2), (3, .int v3)] [] u := by
  intro n
  induction n with
  | zero => intro v1 v2 v3    u hf; cases hf
  | succ n ih =>
    intro v1 v2 v3    u hf
    rw [f_X12_keep_29_e] at hf
    refine r_iload_n 30 3 C dX12_keep_29 rfl rfl rfl ?_
    refine r_iconst (v := 3) 31 C dX12_keep_30 (by decide) rfl ?_
    refine r_icmp_ge 34 68 C dX12_keep_31 (by decide) rfl (fun c0 => ?_) (fun c0 => ?_)
    · have hf := ifT c0 hf
      refine r_sub [(0, .ref (ad 38)), (1, .int v1), (2, .int v2)] [0, 1, 2] rfl ?_
      exact w_X12_keep_68 C hR E   v1 v2   u hf
    · have hf := ifF c0 hf
      refine r_aload_n 35 0 C dX12_keep_34 rfl rfl rfl ?_
      refine r_get 38 38 10 C inX12 (wd_38 ad u) rfl (by decide) tw_838 rfl rfl dX12_keep_35 rfl ?_
      refine r_iconst (v := 3) 39 C dX12_keep_38 (by decide) rfl ?_
      refine r_iload_n 40 3 C dX12_keep_39 rfl rfl rfl ?_
      refine r_iadd 41 C dX12_keep_40 rfl ?_
      refine r_aload_n 42 0 C dX12_keep_41 rfl rfl rfl ?_
      refine r_get 45 38 10 C inX12 (wd_38 ad u) rfl (by decide) tw_838 rfl rfl dX12_keep_42 rfl ?_
      refine r_iload_n 46 3 C dX12_keep_45 rfl rfl rfl ?_
      obtain ⟨hc0, hf⟩ := ck_of hf
      refine r_iaload 47 48 6 C (wd_48 ad u) hc0 dX12_keep_46 rfl ?_
      obtain ⟨x0, ex0, hf⟩ := nm_of hf
      refine r_nm ex0 ?_
      obtain ⟨hc1, hf⟩ := ck_of hf
      refine r_iastore 48 48 6 C (wd_48 ad u) (sA_48 ad u) hc1 dX12_keep_47 rfl ?_
      obtain ⟨u0, eu0, hf⟩ := nm_of hf
      refine r_st eu0 ?_
      refine r_aload_n 49 0 C dX12_keep_48 rfl rfl rfl ?_
      refine r_get 52 38 11 C inX12 (wd_38 ad u0) rfl (by decide) tw_839 rfl rfl dX12_keep_49 rfl ?_
      refine r_iconst (v := 3) 53 C dX12_keep_52 (by decide) rfl ?_
      refine r_iload_n 54 3 C dX12_keep_53 rfl rfl rfl ?_
      refine r_iadd 55 C dX12_keep_54 rfl ?_
      refine r_aload_n 56 0 C dX12_keep_55 rfl rfl rfl ?_
      refine r_get 59 38 11 C inX12 (wd_38 ad u0) rfl (by decide) tw_839 rfl rfl dX12_keep_56 rfl ?_
      refine r_iload_n 60 3 C dX12_keep_59 rfl rfl rfl ?_
      obtain ⟨hc2, hf⟩ := ck_of hf
      refine r_iaload 61 49 6 C (wd_49 ad u0) hc2 dX12_keep_60 rfl ?_
      obtain ⟨x1, ex1, hf⟩ := nm_of hf
      refine r_nm ex1 ?_
      obtain ⟨hc3, hf⟩ := ck_of hf
      refine r_iastore 62 49 6 C (wd_49 ad u0) (sA_49 ad u0) hc3 dX12_keep_61 rfl ?_
      obtain ⟨u1, eu1, hf⟩ := nm_of hf
      refine r_st eu1 ?_
      obtain ⟨x2, ex2, hf⟩ := nm_of hf
      refine r_iinc (v := x2) 65 3 [(0, .ref (ad 38)), (1, .int v1), (2, .int v2), (3, .int x2)] [1, 2, 3, 0] C dX12_keep_62 rfl (by rw [ex2]; rfl) (by decide) rfl rfl ?_
      refine r_goto 29 C dX12_keep_65 (by decide) ?_
      refine r_sub [(0, .ref (ad 38)), (1, .int v1), (2, .int v2), (3, .int x2)] [0, 1, 2, 3] rfl ?_
      exact ih v1 v2 x2    u1 hf
def f_X12_keep_27  (v1 : Int32) (v2 : Int32) (u : S2) : Option (S2) := f_X12_keep_29  FUEL v1 v2 (0 : Int32) u
set_option maxRecDepth 20000 in
theorem w_X12_keep_27 {K : Ctx} {ad : Nat → Nat} (C : Cx K ad cX12_keep 5 yX12_keep.cls none) (hR : Rm K 5 112) {w : S2} (E : EV K ad w)  (v1 : Int32) (v2 : Int32)   (u : S2) (hf : f_X12_keep_27  v1 v2 u = some w) : RW K ad 5 27 [(0, .ref (ad 38)), (1, .int v1), (2, .int v2)] [] u := by
  unfold f_X12_keep_27 at hf
  refine r_iconst (v := 0) 28 C dX12_keep_27 (by decide) rfl ?_
  refine r_istore_n 29 [(0, .ref (ad 38)), (1, .int v1), (2, .int v2), (3, .int (0 : Int32))] [1, 2, 3, 0] C dX12_keep_28 rfl (by decide) rfl rfl ?_
  refine r_sub [(0, .ref (ad 38)), (1, .int v1), (2, .int v2), (3, .int (0 : Int32))] [0, 1, 2, 3] rfl ?_
  exact w_X12_keep_29 C hR E  FUEL v1 v2 (0 : Int32)    u hf
def f_X12_keep_2  : Nat → Int32 → Int32 → Int32 → S2 → Option (S2)
  | 0, _, _, _, _ => none
  | n + 1, v1, v2, v3, u => (if (4 : Int32) ≤ v3 then f_X12_keep_27   v1 v2 u else ck (inb v3 8) (nm (u 39 (Int32.toNatClampNeg v3)) (fun x0 => ck (inb ((4 : Int32) + v3) 8) (nm (wr u 39 (Int32.toNatClampNeg ((4 : Int32) + v3)) x0) (fun u0 => nm (v3 + (1 : Int32)) (fun x1 => f_X12_keep_2  n v1 v2 x1 u0))))))
theorem f_X12_keep_2_e  (n : Nat) (v1 : Int32) (v2 : Int32) (v3 : Int32) (u : S2) : f_X12_keep_2  (n + 1) v1 v2 v3 u = (if (4 : Int32) ≤ v3 then f_X12_keep_27   v1 v2 u else ck (inb v3 8) (nm (u 39 (Int32.toNatClampNeg v3)) (fun x0 => ck (inb ((4 : Int32) + v3) 8) (nm (wr u 39 (Int32.toNatClampNeg ((4 : Int32) + v3)) x0) (fun u0 => nm (v3 + (1 : Int32)) (fun x1 => f_X12_keep_2  n v1 v2 x1 u0)))))) := rfl
set_option maxRecDepth 20000 in
theorem w_X12_keep_2 {K : Ctx} {ad : Nat → Nat} (C : Cx K ad cX12_keep 5 yX12_keep.cls none) (hR : Rm K 5 112) {w : S2} (E : EV K ad w)  : ∀ (n : Nat) (v1 : Int32) (v2 : Int32) (v3 : Int32)    (u : S2) (hf : f_X12_keep_2  n v1 v2 v3 u = some w), RW K ad 5 2 [(0, .ref (ad 38)), (1, .int v1), (2, .int v2), (3, .int v3)] [] u := by
  intro n
  induction n with
  | zero => intro v1 v2 v3    u hf; cases hf
  | succ n ih =>
    intro v1 v2 v3    u hf
    rw [f_X12_keep_2_e] at hf
    refine r_iload_n 3 3 C dX12_keep_2 rfl rfl rfl ?_
    refine r_iconst (v := 4) 4 C dX12_keep_3 (by decide) rfl ?_
    refine r_icmp_ge 7 27 C dX12_keep_4 (by decide) rfl (fun c0 => ?_) (fun c0 => ?_)
    · have hf := ifT c0 hf
      refine r_sub [(0, .ref (ad 38)), (1, .int v1), (2, .int v2)] [0, 1, 2] rfl ?_
      exact w_X12_keep_27 C hR E   v1 v2   u hf
    · have hf := ifF c0 hf
      refine r_aload_n 8 0 C dX12_keep_7 rfl rfl rfl ?_
      refine r_get 11 38 0 C inX12 (wd_38 ad u) rfl (by decide) tw_828 rfl rfl dX12_keep_8 rfl ?_
      refine r_iconst (v := 4) 12 C dX12_keep_11 (by decide) rfl ?_
      refine r_iload_n 13 3 C dX12_keep_12 rfl rfl rfl ?_
      refine r_iadd 14 C dX12_keep_13 rfl ?_
      refine r_aload_n 15 0 C dX12_keep_14 rfl rfl rfl ?_
      refine r_get 18 38 0 C inX12 (wd_38 ad u) rfl (by decide) tw_828 rfl rfl dX12_keep_15 rfl ?_
      refine r_iload_n 19 3 C dX12_keep_18 rfl rfl rfl ?_
      obtain ⟨hc0, hf⟩ := ck_of hf
      refine r_iaload 20 39 8 C (wd_39 ad u) hc0 dX12_keep_19 rfl ?_
      obtain ⟨x0, ex0, hf⟩ := nm_of hf
      refine r_nm ex0 ?_
      obtain ⟨hc1, hf⟩ := ck_of hf
      refine r_iastore 21 39 8 C (wd_39 ad u) (sA_39 ad u) hc1 dX12_keep_20 rfl ?_
      obtain ⟨u0, eu0, hf⟩ := nm_of hf
      refine r_st eu0 ?_
      obtain ⟨x1, ex1, hf⟩ := nm_of hf
      refine r_iinc (v := x1) 24 3 [(0, .ref (ad 38)), (1, .int v1), (2, .int v2), (3, .int x1)] [1, 2, 3, 0] C dX12_keep_21 rfl (by rw [ex1]; rfl) (by decide) rfl rfl ?_
      refine r_goto 2 C dX12_keep_24 (by decide) ?_
      refine r_sub [(0, .ref (ad 38)), (1, .int v1), (2, .int v2), (3, .int x1)] [0, 1, 2, 3] rfl ?_
      exact ih v1 v2 x1    u0 hf
def f_X12_keep (v1 : Int32) (v2 : Int32) (u : S2) : Option (S2) := f_X12_keep_2  FUEL v1 v2 (0 : Int32) u
set_option maxRecDepth 20000 in
theorem c_X12_keep (ad : Nat → Nat) (v1 : Int32) (v2 : Int32)   (u : S2) (w : S2) (hf : f_X12_keep v1 v2 u = some w) : HV yX12_keep cX12_keep 5 none 5 112 ad [.ref (ad 38), .int v1, .int v2] u w := by
  refine HV_of (by decide) (Nat.le_of_ble_eq_true rfl) (fun K C hR E => ?_)
  refine r_sub [(0, .ref (ad 38)), (1, .int v1), (2, .int v2)] [0, 1, 2] rfl ?_
  unfold f_X12_keep at hf
  refine r_iconst (v := 0) 1 C dX12_keep_0 (by decide) rfl ?_
  refine r_istore_n 2 [(0, .ref (ad 38)), (1, .int v1), (2, .int v2), (3, .int (0 : Int32))] [1, 2, 3, 0] C dX12_keep_1 rfl (by decide) rfl rfl ?_
  refine r_sub [(0, .ref (ad 38)), (1, .int v1), (2, .int v2), (3, .int (0 : Int32))] [0, 1, 2, 3] rfl ?_
  exact w_X12_keep_2 C hR E  FUEL v1 v2 (0 : Int32)    u hf
def f_X12_kept (v1 : Int32) (v2 : Int32) (v3 : Int32) (u : S2) : Option (Int32 × S2) := bd (f_X12_in ((Int32.toInt64 v1)) ((1 : Int64)) ((300 : Int64)) u) (fun r0 u0 => (if r0 = 0 then some ((-3 : Int32), u0) else bd (f_X12_in ((Int32.toInt64 v2)) ((0 : Int64)) ((999 : Int64)) u0) (fun r1 u1 => (if r1 = 0 then some ((-3 : Int32), u1) else bd (f_X12_in ((Int32.toInt64 v3)) ((0 : Int64)) ((1 : Int64)) u1) (fun r2 u2 => (if r2 = 0 then some ((-3 : Int32), u2) else bv (f_X12_keep v1 v2 u2) (fun u3 => (if v3 = 0 then some (u3 38 33, u3) else some (u3 38 34, u3)))))))))
set_option maxRecDepth 20000 in
theorem c_X12_kept (ad : Nat → Nat) (v1 : Int32) (v2 : Int32) (v3 : Int32)    (u : S2) (r : Int32) (w : S2) (hf : f_X12_kept v1 v2 v3 u = some (r, w)) : HI yX12_kept cX12_kept 4 (some .int) 6 136 ad [.ref (ad 38), .int v1, .int v2, .int v3] u r w := by
  refine HI_of (by decide) (Nat.le_of_ble_eq_true rfl) (fun K C hR E => ?_)
  refine r_sub [(0, .ref (ad 38)), (1, .int v1), (2, .int v2), (3, .int v3)] [0, 1, 2, 3] rfl ?_
  unfold f_X12_kept at hf
  refine r_iload_n 1 1 C dX12_kept_0 rfl rfl rfl ?_
  refine r_i2l 2 C dX12_kept_1 rfl ?_
  refine r_lconst (v := 1) 3 C dX12_kept_2 (by decide) rfl ?_
  refine r_ldc2 (v := 300) 6 C tw_1154 dX12_kept_3 rfl ?_
  obtain ⟨r0, u0, h0, hf⟩ := bd_of hf
  refine r_cSI 9 [.long (Int32.toInt64 v1), .long (1 : Int64), .long (300 : Int64)] C hR (c_X12_in ad ((Int32.toInt64 v1)) ((1 : Int64)) ((300 : Int64))    u r0 u0 h0) q_X12_in tw_945 tw_946 (Nat.le_of_ble_eq_true rfl) (Nat.le_of_ble_eq_true rfl) rfl rfl (Nat.le_of_ble_eq_true rfl) dX12_kept_6 rfl ?_
  refine r_if_eq 12 34 C dX12_kept_9 (by decide) rfl (fun c0 => ?_) (fun c0 => ?_)
  · have hf := ifT c0 hf
    refine r_bipush (v := -3) 36 C dX12_kept_34 (by decide) rfl ?_
    exact r_iret C E (pr1 hf) (pr2 hf) dX12_kept_36
  · have hf := ifF c0 hf
    refine r_iload_n 13 2 C dX12_kept_12 rfl rfl rfl ?_
    refine r_i2l 14 C dX12_kept_13 rfl ?_
    refine r_lconst (v := 0) 15 C dX12_kept_14 (by decide) rfl ?_
    refine r_ldc2 (v := 999) 18 C tw_967 dX12_kept_15 rfl ?_
    obtain ⟨r1, u1, h1, hf⟩ := bd_of hf
    refine r_cSI 21 [.long (Int32.toInt64 v2), .long (0 : Int64), .long (999 : Int64)] C hR (c_X12_in ad ((Int32.toInt64 v2)) ((0 : Int64)) ((999 : Int64))    u0 r1 u1 h1) q_X12_in tw_945 tw_946 (Nat.le_of_ble_eq_true rfl) (Nat.le_of_ble_eq_true rfl) rfl rfl (Nat.le_of_ble_eq_true rfl) dX12_kept_18 rfl ?_
    refine r_if_eq 24 34 C dX12_kept_21 (by decide) rfl (fun c1 => ?_) (fun c1 => ?_)
    · have hf := ifT c1 hf
      refine r_bipush (v := -3) 36 C dX12_kept_34 (by decide) rfl ?_
      exact r_iret C E (pr1 hf) (pr2 hf) dX12_kept_36
    · have hf := ifF c1 hf
      refine r_iload_n 25 3 C dX12_kept_24 rfl rfl rfl ?_
      refine r_i2l 26 C dX12_kept_25 rfl ?_
      refine r_lconst (v := 0) 27 C dX12_kept_26 (by decide) rfl ?_
      refine r_lconst (v := 1) 28 C dX12_kept_27 (by decide) rfl ?_
      obtain ⟨r2, u2, h2, hf⟩ := bd_of hf
      refine r_cSI 31 [.long (Int32.toInt64 v3), .long (0 : Int64), .long (1 : Int64)] C hR (c_X12_in ad ((Int32.toInt64 v3)) ((0 : Int64)) ((1 : Int64))    u1 r2 u2 h2) q_X12_in tw_945 tw_946 (Nat.le_of_ble_eq_true rfl) (Nat.le_of_ble_eq_true rfl) rfl rfl (Nat.le_of_ble_eq_true rfl) dX12_kept_28 rfl ?_
      refine r_if_ne 34 37 C dX12_kept_31 (by decide) rfl (fun c2 => ?_) (fun c2 => ?_)
      · have hf := ifF c2 hf
        refine r_aload_n 38 0 C dX12_kept_37 rfl rfl rfl ?_
        refine r_iload_n 39 1 C dX12_kept_38 rfl rfl rfl ?_
        refine r_iload_n 40 2 C dX12_kept_39 rfl rfl rfl ?_
        obtain ⟨u3, h3, hf⟩ := bv_of hf
        refine r_cVV 43 [.int v1, .int v2] C hR (c_X12_keep ad v1 v2    u2 u3 h3) q_X12_keep tw_1167 (wd_38 ad u2) rfl rfl tw_1169 tp_54 (Nat.le_of_ble_eq_true rfl) (Nat.le_of_ble_eq_true rfl) rfl rfl (Nat.le_of_ble_eq_true rfl) dX12_kept_40 rfl ?_
        refine r_iload_n 44 3 C dX12_kept_43 rfl rfl rfl ?_
        refine r_if_ne 47 54 C dX12_kept_44 (by decide) rfl (fun c3 => ?_) (fun c3 => ?_)
        · have hf := ifF c3 hf
          refine r_aload_n 55 0 C dX12_kept_54 rfl rfl rfl ?_
          refine r_get 58 38 34 C inX12 (wd_38 ad u3) rfl (by decide) tw_862 rfl rfl dX12_kept_55 rfl ?_
          exact r_iret C E (pr1 hf) (pr2 hf) dX12_kept_58
        · have hf := ifT c3 hf
          refine r_aload_n 48 0 C dX12_kept_47 rfl rfl rfl ?_
          refine r_get 51 38 33 C inX12 (wd_38 ad u3) rfl (by decide) tw_861 rfl rfl dX12_kept_48 rfl ?_
          refine r_goto 58 C dX12_kept_51 (by decide) ?_
          exact r_iret C E (pr1 hf) (pr2 hf) dX12_kept_58
      · have hf := ifT c2 hf
        refine r_bipush (v := -3) 36 C dX12_kept_34 (by decide) rfl ?_
        exact r_iret C E (pr1 hf) (pr2 hf) dX12_kept_36
def f_X12_bestDead_102 (z37 : Int32 → Int32 → Int32 → Int32 → Int32 → S2 → Option (Int32 × S2)) (v1 : Int32) (v2 : Int32) (v3 : Int32) (v5 : Int32) (t0 : Int32) (u : S2) : Option (Int32 × S2) := nm (v5 + (10 : Int32)) (fun x0 => z37 v1 v2 v3 t0 x0 u)
set_option maxRecDepth 20000 in
theorem w_X12_bestDead_102 {K : Ctx} {ad : Nat → Nat} (C : Cx K ad cX12_bestDead 7 yX12_bestDead.cls (some .int)) (hR : Rm K 6 136) {r : Int32} {w : S2} (E : EI K ad r w) (z37 : Int32 → Int32 → Int32 → Int32 → Int32 → S2 → Option (Int32 × S2)) (hz37 : ∀ (v1 : Int32) (v2 : Int32) (v3 : Int32) (v4 : Int32) (v5 : Int32)      (u : S2), z37 v1 v2 v3 v4 v5 u = some (r, w) → RW K ad 7 37 [(0, .ref (ad 38)), (1, .int v1), (2, .int v2), (3, .int v3), (4, .int v4), (5, .int v5)] [] u) (v1 : Int32) (v2 : Int32) (v3 : Int32) (v5 : Int32) (t0 : Int32)      (u : S2) (hf : f_X12_bestDead_102 z37 v1 v2 v3 v5 t0 u = some (r, w)) : RW K ad 7 102 [(0, .ref (ad 38)), (1, .int v1), (2, .int v2), (3, .int v3), (5, .int v5)] [.int t0] u := by
  unfold f_X12_bestDead_102 at hf
  refine r_istore 104 [(0, .ref (ad 38)), (1, .int v1), (2, .int v2), (3, .int v3), (4, .int t0), (5, .int v5)] [1, 2, 3, 4, 0, 5] C dX12_bestDead_102 (by decide) rfl rfl ?_
  obtain ⟨x0, ex0, hf⟩ := nm_of hf
  refine r_iinc (v := x0) 107 5 [(0, .ref (ad 38)), (1, .int v1), (2, .int v2), (3, .int v3), (4, .int t0), (5, .int x0)] [1, 2, 3, 4, 5, 0] C dX12_bestDead_104 rfl (by rw [ex0]; rfl) (by decide) rfl rfl ?_
  refine r_goto 37 C dX12_bestDead_107 (by decide) ?_
  refine r_sub [(0, .ref (ad 38)), (1, .int v1), (2, .int v2), (3, .int v3), (4, .int t0), (5, .int x0)] [0, 1, 2, 3, 4, 5] rfl ?_
  exact hz37 v1 v2 v3 t0 x0      u hf
def f_X12_bestDead_87 (z37 : Int32 → Int32 → Int32 → Int32 → Int32 → S2 → Option (Int32 × S2)) (v1 : Int32) (v2 : Int32) (v4 : Int32) (v5 : Int32) (v6 : Int32) (t0 : Int32) (u : S2) : Option (Int32 × S2) := (if v6 = 0 then f_X12_bestDead_102 z37  v1 v2 t0 v5 v4 u else f_X12_bestDead_102 z37  v1 v2 t0 v5 (u 38 34) u)
set_option maxRecDepth 20000 in
theorem w_X12_bestDead_87 {K : Ctx} {ad : Nat → Nat} (C : Cx K ad cX12_bestDead 7 yX12_bestDead.cls (some .int)) (hR : Rm K 6 136) {r : Int32} {w : S2} (E : EI K ad r w) (z37 : Int32 → Int32 → Int32 → Int32 → Int32 → S2 → Option (Int32 × S2)) (hz37 : ∀ (v1 : Int32) (v2 : Int32) (v3 : Int32) (v4 : Int32) (v5 : Int32)      (u : S2), z37 v1 v2 v3 v4 v5 u = some (r, w) → RW K ad 7 37 [(0, .ref (ad 38)), (1, .int v1), (2, .int v2), (3, .int v3), (4, .int v4), (5, .int v5)] [] u) (v1 : Int32) (v2 : Int32) (v4 : Int32) (v5 : Int32) (v6 : Int32) (t0 : Int32)       (u : S2) (hf : f_X12_bestDead_87 z37 v1 v2 v4 v5 v6 t0 u = some (r, w)) : RW K ad 7 87 [(0, .ref (ad 38)), (1, .int v1), (2, .int v2), (4, .int v4), (5, .int v5), (6, .int v6)] [.int t0] u := by
  unfold f_X12_bestDead_87 at hf
  refine r_istore_n 88 [(0, .ref (ad 38)), (1, .int v1), (2, .int v2), (3, .int t0), (4, .int v4), (5, .int v5), (6, .int v6)] [1, 2, 3, 0, 4, 5, 6] C dX12_bestDead_87 rfl (by decide) rfl rfl ?_
  refine r_iload 90 6 C dX12_bestDead_88 rfl rfl ?_
  refine r_if_eq 93 100 C dX12_bestDead_90 (by decide) rfl (fun c0 => ?_) (fun c0 => ?_)
  · have hf := ifT c0 hf
    refine r_iload 102 4 C dX12_bestDead_100 rfl rfl ?_
    refine r_sub [(0, .ref (ad 38)), (1, .int v1), (2, .int v2), (3, .int t0), (5, .int v5)] [0, 1, 2, 3, 5] rfl ?_
    exact w_X12_bestDead_102 C hR E z37 hz37  v1 v2 t0 v5 v4      u hf
  · have hf := ifF c0 hf
    refine r_aload_n 94 0 C dX12_bestDead_93 rfl rfl rfl ?_
    refine r_get 97 38 34 C inX12 (wd_38 ad u) rfl (by decide) tw_862 rfl rfl dX12_bestDead_94 rfl ?_
    refine r_goto 102 C dX12_bestDead_97 (by decide) ?_
    refine r_sub [(0, .ref (ad 38)), (1, .int v1), (2, .int v2), (3, .int t0), (5, .int v5)] [0, 1, 2, 3, 5] rfl ?_
    exact w_X12_bestDead_102 C hR E z37 hz37  v1 v2 t0 v5 (u 38 34)      u hf
def f_X12_bestDead_74 (z37 : Int32 → Int32 → Int32 → Int32 → Int32 → S2 → Option (Int32 × S2)) (v1 : Int32) (v2 : Int32) (v3 : Int32) (v4 : Int32) (v5 : Int32) (t0 : Int32) (u : S2) : Option (Int32 × S2) := (if t0 = 0 then f_X12_bestDead_87 z37  v1 v2 v4 v5 t0 v3 u else f_X12_bestDead_87 z37  v1 v2 v4 v5 t0 v5 u)
set_option maxRecDepth 20000 in
theorem w_X12_bestDead_74 {K : Ctx} {ad : Nat → Nat} (C : Cx K ad cX12_bestDead 7 yX12_bestDead.cls (some .int)) (hR : Rm K 6 136) {r : Int32} {w : S2} (E : EI K ad r w) (z37 : Int32 → Int32 → Int32 → Int32 → Int32 → S2 → Option (Int32 × S2)) (hz37 : ∀ (v1 : Int32) (v2 : Int32) (v3 : Int32) (v4 : Int32) (v5 : Int32)      (u : S2), z37 v1 v2 v3 v4 v5 u = some (r, w) → RW K ad 7 37 [(0, .ref (ad 38)), (1, .int v1), (2, .int v2), (3, .int v3), (4, .int v4), (5, .int v5)] [] u) (v1 : Int32) (v2 : Int32) (v3 : Int32) (v4 : Int32) (v5 : Int32) (t0 : Int32)       (u : S2) (hf : f_X12_bestDead_74 z37 v1 v2 v3 v4 v5 t0 u = some (r, w)) : RW K ad 7 74 [(0, .ref (ad 38)), (1, .int v1), (2, .int v2), (3, .int v3), (4, .int v4), (5, .int v5)] [.int t0] u := by
  unfold f_X12_bestDead_74 at hf
  refine r_istore 76 [(0, .ref (ad 38)), (1, .int v1), (2, .int v2), (3, .int v3), (4, .int v4), (5, .int v5), (6, .int t0)] [1, 2, 3, 4, 5, 6, 0] C dX12_bestDead_74 (by decide) rfl rfl ?_
  refine r_iload 78 6 C dX12_bestDead_76 rfl rfl ?_
  refine r_if_eq 81 86 C dX12_bestDead_78 (by decide) rfl (fun c0 => ?_) (fun c0 => ?_)
  · have hf := ifT c0 hf
    refine r_iload_n 87 3 C dX12_bestDead_86 rfl rfl rfl ?_
    refine r_sub [(0, .ref (ad 38)), (1, .int v1), (2, .int v2), (4, .int v4), (5, .int v5), (6, .int t0)] [0, 1, 2, 4, 5, 6] rfl ?_
    exact w_X12_bestDead_87 C hR E z37 hz37  v1 v2 v4 v5 t0 v3       u hf
  · have hf := ifF c0 hf
    refine r_iload 83 5 C dX12_bestDead_81 rfl rfl ?_
    refine r_goto 87 C dX12_bestDead_83 (by decide) ?_
    refine r_sub [(0, .ref (ad 38)), (1, .int v1), (2, .int v2), (4, .int v4), (5, .int v5), (6, .int t0)] [0, 1, 2, 4, 5, 6] rfl ?_
    exact w_X12_bestDead_87 C hR E z37 hz37  v1 v2 v4 v5 t0 v5       u hf
def f_X12_bestDead_73 (z37 : Int32 → Int32 → Int32 → Int32 → Int32 → S2 → Option (Int32 × S2)) (v1 : Int32) (v2 : Int32) (v3 : Int32) (v4 : Int32) (v5 : Int32) (u : S2) : Option (Int32 × S2) := f_X12_bestDead_74 z37  v1 v2 v3 v4 v5 (0 : Int32) u
set_option maxRecDepth 20000 in
theorem w_X12_bestDead_73 {K : Ctx} {ad : Nat → Nat} (C : Cx K ad cX12_bestDead 7 yX12_bestDead.cls (some .int)) (hR : Rm K 6 136) {r : Int32} {w : S2} (E : EI K ad r w) (z37 : Int32 → Int32 → Int32 → Int32 → Int32 → S2 → Option (Int32 × S2)) (hz37 : ∀ (v1 : Int32) (v2 : Int32) (v3 : Int32) (v4 : Int32) (v5 : Int32)      (u : S2), z37 v1 v2 v3 v4 v5 u = some (r, w) → RW K ad 7 37 [(0, .ref (ad 38)), (1, .int v1), (2, .int v2), (3, .int v3), (4, .int v4), (5, .int v5)] [] u) (v1 : Int32) (v2 : Int32) (v3 : Int32) (v4 : Int32) (v5 : Int32)      (u : S2) (hf : f_X12_bestDead_73 z37 v1 v2 v3 v4 v5 u = some (r, w)) : RW K ad 7 73 [(0, .ref (ad 38)), (1, .int v1), (2, .int v2), (3, .int v3), (4, .int v4), (5, .int v5)] [] u := by
  unfold f_X12_bestDead_73 at hf
  refine r_iconst (v := 0) 74 C dX12_bestDead_73 (by decide) rfl ?_
  refine r_sub [(0, .ref (ad 38)), (1, .int v1), (2, .int v2), (3, .int v3), (4, .int v4), (5, .int v5)] [0, 1, 2, 3, 4, 5] rfl ?_
  exact w_X12_bestDead_74 C hR E z37 hz37  v1 v2 v3 v4 v5 (0 : Int32)       u hf
def f_X12_bestDead_37  : Nat → Int32 → Int32 → Int32 → Int32 → Int32 → S2 → Option (Int32 × S2)
  | 0, _, _, _, _, _, _ => none
  | n + 1, v1, v2, v3, v4, v5, u => (if (1000 : Int32) ≤ v5 then some (v3, u) else bv (f_X12_keep v1 v5 u) (fun u0 => (if v2 < (u0 38 33) then f_X12_bestDead_73 (fun v1 v2 v3 v4 v5 u => f_X12_bestDead_37  n v1 v2 v3 v4 v5 u)  v1 v2 v3 v4 v5 u0 else (if v4 ≤ (u0 38 34) then f_X12_bestDead_73 (fun v1 v2 v3 v4 v5 u => f_X12_bestDead_37  n v1 v2 v3 v4 v5 u)  v1 v2 v3 v4 v5 u0 else f_X12_bestDead_74 (fun v1 v2 v3 v4 v5 u => f_X12_bestDead_37  n v1 v2 v3 v4 v5 u)  v1 v2 v3 v4 v5 (1 : Int32) u0))))
theorem f_X12_bestDead_37_e  (n : Nat) (v1 : Int32) (v2 : Int32) (v3 : Int32) (v4 : Int32) (v5 : Int32) (u : S2) : f_X12_bestDead_37  (n + 1) v1 v2 v3 v4 v5 u = (if (1000 : Int32) ≤ v5 then some (v3, u) else bv (f_X12_keep v1 v5 u) (fun u0 => (if v2 < (u0 38 33) then f_X12_bestDead_73 (fun v1 v2 v3 v4 v5 u => f_X12_bestDead_37  n v1 v2 v3 v4 v5 u)  v1 v2 v3 v4 v5 u0 else (if v4 ≤ (u0 38 34) then f_X12_bestDead_73 (fun v1 v2 v3 v4 v5 u => f_X12_bestDead_37  n v1 v2 v3 v4 v5 u)  v1 v2 v3 v4 v5 u0 else f_X12_bestDead_74 (fun v1 v2 v3 v4 v5 u => f_X12_bestDead_37  n v1 v2 v3 v4 v5 u)  v1 v2 v3 v4 v5 (1 : Int32) u0)))) := rfl
set_option maxRecDepth 20000 in
theorem w_X12_bestDead_37 {K : Ctx} {ad : Nat → Nat} (C : Cx K ad cX12_bestDead 7 yX12_bestDead.cls (some .int)) (hR : Rm K 6 136) {r : Int32} {w : S2} (E : EI K ad r w)  : ∀ (n : Nat) (v1 : Int32) (v2 : Int32) (v3 : Int32) (v4 : Int32) (v5 : Int32)      (u : S2) (hf : f_X12_bestDead_37  n v1 v2 v3 v4 v5 u = some (r, w)), RW K ad 7 37 [(0, .ref (ad 38)), (1, .int v1), (2, .int v2), (3, .int v3), (4, .int v4), (5, .int v5)] [] u := by
  intro n
  induction n with
  | zero => intro v1 v2 v3 v4 v5      u hf; cases hf
  | succ n ih =>
    intro v1 v2 v3 v4 v5      u hf
    rw [f_X12_bestDead_37_e] at hf
    refine r_iload 39 5 C dX12_bestDead_37 rfl rfl ?_
    refine r_sipush (v := 1000) 42 C dX12_bestDead_39 (by decide) rfl ?_
    refine r_icmp_ge 45 110 C dX12_bestDead_42 (by decide) rfl (fun c0 => ?_) (fun c0 => ?_)
    · have hf := ifT c0 hf
      refine r_iload_n 111 3 C dX12_bestDead_110 rfl rfl rfl ?_
      exact r_iret C E (pr1 hf) (pr2 hf) dX12_bestDead_111
    · have hf := ifF c0 hf
      refine r_aload_n 46 0 C dX12_bestDead_45 rfl rfl rfl ?_
      refine r_iload_n 47 1 C dX12_bestDead_46 rfl rfl rfl ?_
      refine r_iload 49 5 C dX12_bestDead_47 rfl rfl ?_
      obtain ⟨u0, h0, hf⟩ := bv_of hf
      refine r_cVV 52 [.int v1, .int v5] C hR (c_X12_keep ad v1 v5    u u0 h0) q_X12_keep tw_1167 (wd_38 ad u) rfl rfl tw_1169 tp_54 (Nat.le_of_ble_eq_true rfl) (Nat.le_of_ble_eq_true rfl) rfl rfl (Nat.le_of_ble_eq_true rfl) dX12_bestDead_49 rfl ?_
      refine r_aload_n 53 0 C dX12_bestDead_52 rfl rfl rfl ?_
      refine r_get 56 38 33 C inX12 (wd_38 ad u0) rfl (by decide) tw_861 rfl rfl dX12_bestDead_53 rfl ?_
      refine r_iload_n 57 2 C dX12_bestDead_56 rfl rfl rfl ?_
      refine r_icmp_gt 60 73 C dX12_bestDead_57 (by decide) rfl (fun c1 => ?_) (fun c1 => ?_)
      · have hf := ifT c1 hf
        refine r_sub [(0, .ref (ad 38)), (1, .int v1), (2, .int v2), (3, .int v3), (4, .int v4), (5, .int v5)] [0, 1, 2, 3, 4, 5] rfl ?_
        exact w_X12_bestDead_73 C hR E (fun v1 v2 v3 v4 v5 u => f_X12_bestDead_37  n v1 v2 v3 v4 v5 u) (fun v1 v2 v3 v4 v5      u h => ih v1 v2 v3 v4 v5      u h)  v1 v2 v3 v4 v5      u0 hf
      · have hf := ifF c1 hf
        refine r_aload_n 61 0 C dX12_bestDead_60 rfl rfl rfl ?_
        refine r_get 64 38 34 C inX12 (wd_38 ad u0) rfl (by decide) tw_862 rfl rfl dX12_bestDead_61 rfl ?_
        refine r_iload 66 4 C dX12_bestDead_64 rfl rfl ?_
        refine r_icmp_ge 69 73 C dX12_bestDead_66 (by decide) rfl (fun c2 => ?_) (fun c2 => ?_)
        · have hf := ifT c2 hf
          refine r_sub [(0, .ref (ad 38)), (1, .int v1), (2, .int v2), (3, .int v3), (4, .int v4), (5, .int v5)] [0, 1, 2, 3, 4, 5] rfl ?_
          exact w_X12_bestDead_73 C hR E (fun v1 v2 v3 v4 v5 u => f_X12_bestDead_37  n v1 v2 v3 v4 v5 u) (fun v1 v2 v3 v4 v5      u h => ih v1 v2 v3 v4 v5      u h)  v1 v2 v3 v4 v5      u0 hf
        · have hf := ifF c2 hf
          refine r_iconst (v := 1) 70 C dX12_bestDead_69 (by decide) rfl ?_
          refine r_goto 74 C dX12_bestDead_70 (by decide) ?_
          refine r_sub [(0, .ref (ad 38)), (1, .int v1), (2, .int v2), (3, .int v3), (4, .int v4), (5, .int v5)] [0, 1, 2, 3, 4, 5] rfl ?_
          exact w_X12_bestDead_74 C hR E (fun v1 v2 v3 v4 v5 u => f_X12_bestDead_37  n v1 v2 v3 v4 v5 u) (fun v1 v2 v3 v4 v5      u h => ih v1 v2 v3 v4 v5      u h)  v1 v2 v3 v4 v5 (1 : Int32)       u0 hf
def f_X12_bestDead (v1 : Int32) (v2 : Int32) (u : S2) : Option (Int32 × S2) := bd (f_X12_in ((Int32.toInt64 v1)) ((1 : Int64)) ((300 : Int64)) u) (fun r0 u0 => (if r0 = 0 then some ((-3 : Int32), u0) else bd (f_X12_in ((Int32.toInt64 v2)) ((0 : Int64)) ((18000 : Int64)) u0) (fun r1 u1 => (if r1 = 0 then some ((-3 : Int32), u1) else f_X12_bestDead_37  FUEL v1 v2 (-1 : Int32) (268435456 : Int32) (0 : Int32) u1))))
set_option maxRecDepth 20000 in
theorem c_X12_bestDead (ad : Nat → Nat) (v1 : Int32) (v2 : Int32)   (u : S2) (r : Int32) (w : S2) (hf : f_X12_bestDead v1 v2 u = some (r, w)) : HI yX12_bestDead cX12_bestDead 7 (some .int) 6 136 ad [.ref (ad 38), .int v1, .int v2] u r w := by
  refine HI_of (by decide) (Nat.le_of_ble_eq_true rfl) (fun K C hR E => ?_)
  refine r_sub [(0, .ref (ad 38)), (1, .int v1), (2, .int v2)] [0, 1, 2] rfl ?_
  unfold f_X12_bestDead at hf
  refine r_iload_n 1 1 C dX12_bestDead_0 rfl rfl rfl ?_
  refine r_i2l 2 C dX12_bestDead_1 rfl ?_
  refine r_lconst (v := 1) 3 C dX12_bestDead_2 (by decide) rfl ?_
  refine r_ldc2 (v := 300) 6 C tw_1154 dX12_bestDead_3 rfl ?_
  obtain ⟨r0, u0, h0, hf⟩ := bd_of hf
  refine r_cSI 9 [.long (Int32.toInt64 v1), .long (1 : Int64), .long (300 : Int64)] C hR (c_X12_in ad ((Int32.toInt64 v1)) ((1 : Int64)) ((300 : Int64))    u r0 u0 h0) q_X12_in tw_945 tw_946 (Nat.le_of_ble_eq_true rfl) (Nat.le_of_ble_eq_true rfl) rfl rfl (Nat.le_of_ble_eq_true rfl) dX12_bestDead_6 rfl ?_
  refine r_if_eq 12 24 C dX12_bestDead_9 (by decide) rfl (fun c0 => ?_) (fun c0 => ?_)
  · have hf := ifT c0 hf
    refine r_bipush (v := -3) 26 C dX12_bestDead_24 (by decide) rfl ?_
    exact r_iret C E (pr1 hf) (pr2 hf) dX12_bestDead_26
  · have hf := ifF c0 hf
    refine r_iload_n 13 2 C dX12_bestDead_12 rfl rfl rfl ?_
    refine r_i2l 14 C dX12_bestDead_13 rfl ?_
    refine r_lconst (v := 0) 15 C dX12_bestDead_14 (by decide) rfl ?_
    refine r_ldc2 (v := 18000) 18 C tw_1175 dX12_bestDead_15 rfl ?_
    obtain ⟨r1, u1, h1, hf⟩ := bd_of hf
    refine r_cSI 21 [.long (Int32.toInt64 v2), .long (0 : Int64), .long (18000 : Int64)] C hR (c_X12_in ad ((Int32.toInt64 v2)) ((0 : Int64)) ((18000 : Int64))    u0 r1 u1 h1) q_X12_in tw_945 tw_946 (Nat.le_of_ble_eq_true rfl) (Nat.le_of_ble_eq_true rfl) rfl rfl (Nat.le_of_ble_eq_true rfl) dX12_bestDead_18 rfl ?_
    refine r_if_ne 24 27 C dX12_bestDead_21 (by decide) rfl (fun c1 => ?_) (fun c1 => ?_)
    · have hf := ifF c1 hf
      refine r_iconst (v := -1) 28 C dX12_bestDead_27 (by decide) rfl ?_
      refine r_istore_n 29 [(0, .ref (ad 38)), (1, .int v1), (2, .int v2), (3, .int (-1 : Int32))] [1, 2, 3, 0] C dX12_bestDead_28 rfl (by decide) rfl rfl ?_
      refine r_ldcw (v := 268435456) 32 C tw_1176 dX12_bestDead_29 rfl ?_
      refine r_istore 34 [(0, .ref (ad 38)), (1, .int v1), (2, .int v2), (3, .int (-1 : Int32)), (4, .int (268435456 : Int32))] [1, 2, 3, 4, 0] C dX12_bestDead_32 (by decide) rfl rfl ?_
      refine r_iconst (v := 0) 35 C dX12_bestDead_34 (by decide) rfl ?_
      refine r_istore 37 [(0, .ref (ad 38)), (1, .int v1), (2, .int v2), (3, .int (-1 : Int32)), (4, .int (268435456 : Int32)), (5, .int (0 : Int32))] [1, 2, 3, 4, 5, 0] C dX12_bestDead_35 (by decide) rfl rfl ?_
      refine r_sub [(0, .ref (ad 38)), (1, .int v1), (2, .int v2), (3, .int (-1 : Int32)), (4, .int (268435456 : Int32)), (5, .int (0 : Int32))] [0, 1, 2, 3, 4, 5] rfl ?_
      exact w_X12_bestDead_37 C hR E  FUEL v1 v2 (-1 : Int32) (268435456 : Int32) (0 : Int32)      u1 hf
    · have hf := ifT c1 hf
      refine r_bipush (v := -3) 26 C dX12_bestDead_24 (by decide) rfl ?_
      exact r_iret C E (pr1 hf) (pr2 hf) dX12_bestDead_26
def f_X12_look (v1 : Int32) (v2 : Int32) (v3 : Int32) (u : S2) : Option (Int32 × S2) := bd (f_X12_isHeading v1 u) (fun r0 u0 => (if r0 = 0 then some ((-3 : Int32), u0) else bd (f_X12_isHeading v2 u0) (fun r1 u1 => (if r1 = 0 then some ((-3 : Int32), u1) else bd (f_X12_isHeading v3 u1) (fun r2 u2 => (if r2 = 0 then some ((-3 : Int32), u2) else (if (u2 38 22) = (16 : Int32) then some ((-5 : Int32), u2) else ck (inb ((3 : Int32) * (u2 38 22)) 48) (nm (wr u2 56 (Int32.toNatClampNeg ((3 : Int32) * (u2 38 22))) v1) (fun u3 => ck (inb (((3 : Int32) * (u3 38 22)) + (1 : Int32)) 48) (nm (wr u3 56 (Int32.toNatClampNeg (((3 : Int32) * (u3 38 22)) + (1 : Int32))) v2) (fun u4 => ck (inb (((3 : Int32) * (u4 38 22)) + (2 : Int32)) 48) (nm (wr u4 56 (Int32.toNatClampNeg (((3 : Int32) * (u4 38 22)) + (2 : Int32))) v3) (fun u5 => nm ((u5 38 22) + (1 : Int32)) (fun x0 => nm (wr u5 38 22 x0) (fun u6 => some (u6 38 22, u6))))))))))))))))
set_option maxRecDepth 20000 in
theorem c_X12_look (ad : Nat → Nat) (v1 : Int32) (v2 : Int32) (v3 : Int32)    (u : S2) (r : Int32) (w : S2) (hf : f_X12_look v1 v2 v3 u = some (r, w)) : HI yX12_look cX12_look 4 (some .int) 2 45 ad [.ref (ad 38), .int v1, .int v2, .int v3] u r w := by
  refine HI_of (by decide) (Nat.le_of_ble_eq_true rfl) (fun K C hR E => ?_)
  refine r_sub [(0, .ref (ad 38)), (1, .int v1), (2, .int v2), (3, .int v3)] [0, 1, 2, 3] rfl ?_
  unfold f_X12_look at hf
  refine r_iload_n 1 1 C dX12_look_0 rfl rfl rfl ?_
  obtain ⟨r0, u0, h0, hf⟩ := bd_of hf
  refine r_cSI 4 [.int v1] C hR (c_X12_isHeading ad v1  u r0 u0 h0) q_X12_isHeading tw_958 tw_959 (Nat.le_of_ble_eq_true rfl) (Nat.le_of_ble_eq_true rfl) rfl rfl (Nat.le_of_ble_eq_true rfl) dX12_look_1 rfl ?_
  refine r_if_eq 7 21 C dX12_look_4 (by decide) rfl (fun c0 => ?_) (fun c0 => ?_)
  · have hf := ifT c0 hf
    refine r_bipush (v := -3) 23 C dX12_look_21 (by decide) rfl ?_
    exact r_iret C E (pr1 hf) (pr2 hf) dX12_look_23
  · have hf := ifF c0 hf
    refine r_iload_n 8 2 C dX12_look_7 rfl rfl rfl ?_
    obtain ⟨r1, u1, h1, hf⟩ := bd_of hf
    refine r_cSI 11 [.int v2] C hR (c_X12_isHeading ad v2  u0 r1 u1 h1) q_X12_isHeading tw_958 tw_959 (Nat.le_of_ble_eq_true rfl) (Nat.le_of_ble_eq_true rfl) rfl rfl (Nat.le_of_ble_eq_true rfl) dX12_look_8 rfl ?_
    refine r_if_eq 14 21 C dX12_look_11 (by decide) rfl (fun c1 => ?_) (fun c1 => ?_)
    · have hf := ifT c1 hf
      refine r_bipush (v := -3) 23 C dX12_look_21 (by decide) rfl ?_
      exact r_iret C E (pr1 hf) (pr2 hf) dX12_look_23
    · have hf := ifF c1 hf
      refine r_iload_n 15 3 C dX12_look_14 rfl rfl rfl ?_
      obtain ⟨r2, u2, h2, hf⟩ := bd_of hf
      refine r_cSI 18 [.int v3] C hR (c_X12_isHeading ad v3  u1 r2 u2 h2) q_X12_isHeading tw_958 tw_959 (Nat.le_of_ble_eq_true rfl) (Nat.le_of_ble_eq_true rfl) rfl rfl (Nat.le_of_ble_eq_true rfl) dX12_look_15 rfl ?_
      refine r_if_ne 21 24 C dX12_look_18 (by decide) rfl (fun c2 => ?_) (fun c2 => ?_)
      · have hf := ifF c2 hf
        refine r_aload_n 25 0 C dX12_look_24 rfl rfl rfl ?_
        refine r_get 28 38 22 C inX12 (wd_38 ad u2) rfl (by decide) tw_850 rfl rfl dX12_look_25 rfl ?_
        refine r_bipush (v := 16) 30 C dX12_look_28 (by decide) rfl ?_
        refine r_icmp_ne 33 36 C dX12_look_30 (by decide) rfl (fun c3 => ?_) (fun c3 => ?_)
        · have hf := ifF c3 hf
          refine r_aload_n 37 0 C dX12_look_36 rfl rfl rfl ?_
          refine r_get 40 38 21 C inX12 (wd_38 ad u2) rfl (by decide) tw_849 rfl rfl dX12_look_37 rfl ?_
          refine r_iconst (v := 3) 41 C dX12_look_40 (by decide) rfl ?_
          refine r_aload_n 42 0 C dX12_look_41 rfl rfl rfl ?_
          refine r_get 45 38 22 C inX12 (wd_38 ad u2) rfl (by decide) tw_850 rfl rfl dX12_look_42 rfl ?_
          refine r_imul 46 C dX12_look_45 rfl ?_
          refine r_iload_n 47 1 C dX12_look_46 rfl rfl rfl ?_
          obtain ⟨hc0, hf⟩ := ck_of hf
          refine r_iastore 48 56 48 C (wd_56 ad u2) (sA_56 ad u2) hc0 dX12_look_47 rfl ?_
          obtain ⟨u3, eu3, hf⟩ := nm_of hf
          refine r_st eu3 ?_
          refine r_aload_n 49 0 C dX12_look_48 rfl rfl rfl ?_
          refine r_get 52 38 21 C inX12 (wd_38 ad u3) rfl (by decide) tw_849 rfl rfl dX12_look_49 rfl ?_
          refine r_iconst (v := 3) 53 C dX12_look_52 (by decide) rfl ?_
          refine r_aload_n 54 0 C dX12_look_53 rfl rfl rfl ?_
          refine r_get 57 38 22 C inX12 (wd_38 ad u3) rfl (by decide) tw_850 rfl rfl dX12_look_54 rfl ?_
          refine r_imul 58 C dX12_look_57 rfl ?_
          refine r_iconst (v := 1) 59 C dX12_look_58 (by decide) rfl ?_
          refine r_iadd 60 C dX12_look_59 rfl ?_
          refine r_iload_n 61 2 C dX12_look_60 rfl rfl rfl ?_
          obtain ⟨hc1, hf⟩ := ck_of hf
          refine r_iastore 62 56 48 C (wd_56 ad u3) (sA_56 ad u3) hc1 dX12_look_61 rfl ?_
          obtain ⟨u4, eu4, hf⟩ := nm_of hf
          refine r_st eu4 ?_
          refine r_aload_n 63 0 C dX12_look_62 rfl rfl rfl ?_
          refine r_get 66 38 21 C inX12 (wd_38 ad u4) rfl (by decide) tw_849 rfl rfl dX12_look_63 rfl ?_
          refine r_iconst (v := 3) 67 C dX12_look_66 (by decide) rfl ?_
          refine r_aload_n 68 0 C dX12_look_67 rfl rfl rfl ?_
          refine r_get 71 38 22 C inX12 (wd_38 ad u4) rfl (by decide) tw_850 rfl rfl dX12_look_68 rfl ?_
          refine r_imul 72 C dX12_look_71 rfl ?_
          refine r_iconst (v := 2) 73 C dX12_look_72 (by decide) rfl ?_
          refine r_iadd 74 C dX12_look_73 rfl ?_
          refine r_iload_n 75 3 C dX12_look_74 rfl rfl rfl ?_
          obtain ⟨hc2, hf⟩ := ck_of hf
          refine r_iastore 76 56 48 C (wd_56 ad u4) (sA_56 ad u4) hc2 dX12_look_75 rfl ?_
          obtain ⟨u5, eu5, hf⟩ := nm_of hf
          refine r_st eu5 ?_
          refine r_aload_n 77 0 C dX12_look_76 rfl rfl rfl ?_
          refine r_dup 78 C dX12_look_77 rfl rfl ?_
          refine r_get 81 38 22 C inX12 (wd_38 ad u5) rfl (by decide) tw_850 rfl rfl dX12_look_78 rfl ?_
          refine r_iconst (v := 1) 82 C dX12_look_81 (by decide) rfl ?_
          refine r_iadd 83 C dX12_look_82 rfl ?_
          obtain ⟨x0, ex0, hf⟩ := nm_of hf
          refine r_nm ex0 ?_
          refine r_put 86 38 22 C inX12 tyX12_ok nmX12 (wd_38 ad u5) (sF_38_22 ad u5 x0) rfl (by decide) tw_850 rfl rfl (tyX12_ok 22 (by decide)) rfl rfl (Nat.le_of_ble_eq_true rfl) dX12_look_83 rfl ?_
          obtain ⟨u6, eu6, hf⟩ := nm_of hf
          refine r_st eu6 ?_
          refine r_aload_n 87 0 C dX12_look_86 rfl rfl rfl ?_
          refine r_get 90 38 22 C inX12 (wd_38 ad u6) rfl (by decide) tw_850 rfl rfl dX12_look_87 rfl ?_
          exact r_iret C E (pr1 hf) (pr2 hf) dX12_look_90
        · have hf := ifT c3 hf
          refine r_bipush (v := -5) 35 C dX12_look_33 (by decide) rfl ?_
          exact r_iret C E (pr1 hf) (pr2 hf) dX12_look_35
      · have hf := ifT c2 hf
        refine r_bipush (v := -3) 23 C dX12_look_21 (by decide) rfl ?_
        exact r_iret C E (pr1 hf) (pr2 hf) dX12_look_23
def f_X12_isWrong (v1 : Int32) (v2 : Int32) (v3 : Int32) (u : S2) : Option (Int32 × S2) := ck (inb (((3 : Int32) * v1) + v2) 48) (nm (u 56 (Int32.toNatClampNeg (((3 : Int32) * v1) + v2))) (fun x0 => nm ((v2 + (1 : Int32)) - (v2 + (1 : Int32)) / (3 : Int32) * (3 : Int32)) (fun x1 => ck (inb (((3 : Int32) * v1) + x1) 48) (nm (u 56 (Int32.toNatClampNeg (((3 : Int32) * v1) + x1))) (fun x2 => nm ((v2 + (2 : Int32)) - (v2 + (2 : Int32)) / (3 : Int32) * (3 : Int32)) (fun x3 => ck (inb (((3 : Int32) * v1) + x3) 48) (nm (u 56 (Int32.toNatClampNeg (((3 : Int32) * v1) + x3))) (fun x4 => bd (f_X12_wrapped (x0 - x2) u) (fun r0 u0 => bd (f_X12_size r0 u0) (fun r1 u1 => (if r1 ≤ v3 then some ((0 : Int32), u1) else bd (f_X12_wrapped (x0 - x4) u1) (fun r2 u2 => bd (f_X12_size r2 u2) (fun r3 u3 => (if r3 ≤ v3 then some ((0 : Int32), u3) else bd (f_X12_wrapped (x2 - x4) u3) (fun r4 u4 => bd (f_X12_size r4 u4) (fun r5 u5 => (if v3 < r5 then some ((0 : Int32), u5) else some ((1 : Int32), u5))))))))))))))))))
set_option maxRecDepth 20000 in
theorem c_X12_isWrong (ad : Nat → Nat) (v1 : Int32) (v2 : Int32) (v3 : Int32)    (u : S2) (r : Int32) (w : S2) (hf : f_X12_isWrong v1 v2 v3 u = some (r, w)) : HI yX12_isWrong cX12_isWrong 7 (some .boolean) 2 42 ad [.ref (ad 38), .int v1, .int v2, .int v3] u r w := by
  refine HI_of (by decide) (Nat.le_of_ble_eq_true rfl) (fun K C hR E => ?_)
  refine r_sub [(0, .ref (ad 38)), (1, .int v1), (2, .int v2), (3, .int v3)] [0, 1, 2, 3] rfl ?_
  unfold f_X12_isWrong at hf
  refine r_aload_n 1 0 C dX12_isWrong_0 rfl rfl rfl ?_
  refine r_get 4 38 21 C inX12 (wd_38 ad u) rfl (by decide) tw_849 rfl rfl dX12_isWrong_1 rfl ?_
  refine r_iconst (v := 3) 5 C dX12_isWrong_4 (by decide) rfl ?_
  refine r_iload_n 6 1 C dX12_isWrong_5 rfl rfl rfl ?_
  refine r_imul 7 C dX12_isWrong_6 rfl ?_
  refine r_iload_n 8 2 C dX12_isWrong_7 rfl rfl rfl ?_
  refine r_iadd 9 C dX12_isWrong_8 rfl ?_
  obtain ⟨hc0, hf⟩ := ck_of hf
  refine r_iaload 10 56 48 C (wd_56 ad u) hc0 dX12_isWrong_9 rfl ?_
  obtain ⟨x0, ex0, hf⟩ := nm_of hf
  refine r_nm ex0 ?_
  refine r_istore 12 [(0, .ref (ad 38)), (1, .int v1), (2, .int v2), (3, .int v3), (4, .int x0)] [1, 2, 3, 4, 0] C dX12_isWrong_10 (by decide) rfl rfl ?_
  refine r_aload_n 13 0 C dX12_isWrong_12 rfl rfl rfl ?_
  refine r_get 16 38 21 C inX12 (wd_38 ad u) rfl (by decide) tw_849 rfl rfl dX12_isWrong_13 rfl ?_
  refine r_iconst (v := 3) 17 C dX12_isWrong_16 (by decide) rfl ?_
  refine r_iload_n 18 1 C dX12_isWrong_17 rfl rfl rfl ?_
  refine r_imul 19 C dX12_isWrong_18 rfl ?_
  refine r_iload_n 20 2 C dX12_isWrong_19 rfl rfl rfl ?_
  refine r_iconst (v := 1) 21 C dX12_isWrong_20 (by decide) rfl ?_
  refine r_iadd 22 C dX12_isWrong_21 rfl ?_
  refine r_iconst (v := 3) 23 C dX12_isWrong_22 (by decide) rfl ?_
  refine r_irem 24 C dX12_isWrong_23 (by decide) rfl ?_
  obtain ⟨x1, ex1, hf⟩ := nm_of hf
  refine r_nm ex1 ?_
  refine r_iadd 25 C dX12_isWrong_24 rfl ?_
  obtain ⟨hc1, hf⟩ := ck_of hf
  refine r_iaload 26 56 48 C (wd_56 ad u) hc1 dX12_isWrong_25 rfl ?_
  obtain ⟨x2, ex2, hf⟩ := nm_of hf
  refine r_nm ex2 ?_
  refine r_istore 28 [(0, .ref (ad 38)), (1, .int v1), (2, .int v2), (3, .int v3), (4, .int x0), (5, .int x2)] [1, 2, 3, 4, 5, 0] C dX12_isWrong_26 (by decide) rfl rfl ?_
  refine r_aload_n 29 0 C dX12_isWrong_28 rfl rfl rfl ?_
  refine r_get 32 38 21 C inX12 (wd_38 ad u) rfl (by decide) tw_849 rfl rfl dX12_isWrong_29 rfl ?_
  refine r_iconst (v := 3) 33 C dX12_isWrong_32 (by decide) rfl ?_
  refine r_iload_n 34 1 C dX12_isWrong_33 rfl rfl rfl ?_
  refine r_imul 35 C dX12_isWrong_34 rfl ?_
  refine r_iload_n 36 2 C dX12_isWrong_35 rfl rfl rfl ?_
  refine r_iconst (v := 2) 37 C dX12_isWrong_36 (by decide) rfl ?_
  refine r_iadd 38 C dX12_isWrong_37 rfl ?_
  refine r_iconst (v := 3) 39 C dX12_isWrong_38 (by decide) rfl ?_
  refine r_irem 40 C dX12_isWrong_39 (by decide) rfl ?_
  obtain ⟨x3, ex3, hf⟩ := nm_of hf
  refine r_nm ex3 ?_
  refine r_iadd 41 C dX12_isWrong_40 rfl ?_
  obtain ⟨hc2, hf⟩ := ck_of hf
  refine r_iaload 42 56 48 C (wd_56 ad u) hc2 dX12_isWrong_41 rfl ?_
  obtain ⟨x4, ex4, hf⟩ := nm_of hf
  refine r_nm ex4 ?_
  refine r_istore 44 [(0, .ref (ad 38)), (1, .int v1), (2, .int v2), (3, .int v3), (4, .int x0), (5, .int x2), (6, .int x4)] [1, 2, 3, 4, 5, 6, 0] C dX12_isWrong_42 (by decide) rfl rfl ?_
  refine r_iload 46 4 C dX12_isWrong_44 rfl rfl ?_
  refine r_iload 48 5 C dX12_isWrong_46 rfl rfl ?_
  refine r_isub 49 C dX12_isWrong_48 rfl ?_
  obtain ⟨r0, u0, h0, hf⟩ := bd_of hf
  refine r_cSI 52 [.int (x0 - x2)] C hR (c_X12_wrapped ad (x0 - x2)  u r0 u0 h0) q_X12_wrapped tw_1059 tw_1060 (Nat.le_of_ble_eq_true rfl) (Nat.le_of_ble_eq_true rfl) rfl rfl (Nat.le_of_ble_eq_true rfl) dX12_isWrong_49 rfl ?_
  obtain ⟨r1, u1, h1, hf⟩ := bd_of hf
  refine r_cSI 55 [.int r0] C hR (c_X12_size ad r0  u0 r1 u1 h1) q_X12_size tw_1033 tw_1034 (Nat.le_of_ble_eq_true rfl) (Nat.le_of_ble_eq_true rfl) rfl rfl (Nat.le_of_ble_eq_true rfl) dX12_isWrong_52 rfl ?_
  refine r_iload_n 56 3 C dX12_isWrong_55 rfl rfl rfl ?_
  refine r_icmp_le 59 93 C dX12_isWrong_56 (by decide) rfl (fun c0 => ?_) (fun c0 => ?_)
  · have hf := ifT c0 hf
    refine r_iconst (v := 0) 94 C dX12_isWrong_93 (by decide) rfl ?_
    exact r_zret C E rfl (pr1 hf) (pr2 hf) dX12_isWrong_94
  · have hf := ifF c0 hf
    refine r_iload 61 4 C dX12_isWrong_59 rfl rfl ?_
    refine r_iload 63 6 C dX12_isWrong_61 rfl rfl ?_
    refine r_isub 64 C dX12_isWrong_63 rfl ?_
    obtain ⟨r2, u2, h2, hf⟩ := bd_of hf
    refine r_cSI 67 [.int (x0 - x4)] C hR (c_X12_wrapped ad (x0 - x4)  u1 r2 u2 h2) q_X12_wrapped tw_1059 tw_1060 (Nat.le_of_ble_eq_true rfl) (Nat.le_of_ble_eq_true rfl) rfl rfl (Nat.le_of_ble_eq_true rfl) dX12_isWrong_64 rfl ?_
    obtain ⟨r3, u3, h3, hf⟩ := bd_of hf
    refine r_cSI 70 [.int r2] C hR (c_X12_size ad r2  u2 r3 u3 h3) q_X12_size tw_1033 tw_1034 (Nat.le_of_ble_eq_true rfl) (Nat.le_of_ble_eq_true rfl) rfl rfl (Nat.le_of_ble_eq_true rfl) dX12_isWrong_67 rfl ?_
    refine r_iload_n 71 3 C dX12_isWrong_70 rfl rfl rfl ?_
    refine r_icmp_le 74 93 C dX12_isWrong_71 (by decide) rfl (fun c1 => ?_) (fun c1 => ?_)
    · have hf := ifT c1 hf
      refine r_iconst (v := 0) 94 C dX12_isWrong_93 (by decide) rfl ?_
      exact r_zret C E rfl (pr1 hf) (pr2 hf) dX12_isWrong_94
    · have hf := ifF c1 hf
      refine r_iload 76 5 C dX12_isWrong_74 rfl rfl ?_
      refine r_iload 78 6 C dX12_isWrong_76 rfl rfl ?_
      refine r_isub 79 C dX12_isWrong_78 rfl ?_
      obtain ⟨r4, u4, h4, hf⟩ := bd_of hf
      refine r_cSI 82 [.int (x2 - x4)] C hR (c_X12_wrapped ad (x2 - x4)  u3 r4 u4 h4) q_X12_wrapped tw_1059 tw_1060 (Nat.le_of_ble_eq_true rfl) (Nat.le_of_ble_eq_true rfl) rfl rfl (Nat.le_of_ble_eq_true rfl) dX12_isWrong_79 rfl ?_
      obtain ⟨r5, u5, h5, hf⟩ := bd_of hf
      refine r_cSI 85 [.int r4] C hR (c_X12_size ad r4  u4 r5 u5 h5) q_X12_size tw_1033 tw_1034 (Nat.le_of_ble_eq_true rfl) (Nat.le_of_ble_eq_true rfl) rfl rfl (Nat.le_of_ble_eq_true rfl) dX12_isWrong_82 rfl ?_
      refine r_iload_n 86 3 C dX12_isWrong_85 rfl rfl rfl ?_
      refine r_icmp_gt 89 93 C dX12_isWrong_86 (by decide) rfl (fun c2 => ?_) (fun c2 => ?_)
      · have hf := ifT c2 hf
        refine r_iconst (v := 0) 94 C dX12_isWrong_93 (by decide) rfl ?_
        exact r_zret C E rfl (pr1 hf) (pr2 hf) dX12_isWrong_94
      · have hf := ifF c2 hf
        refine r_iconst (v := 1) 90 C dX12_isWrong_89 (by decide) rfl ?_
        refine r_goto 94 C dX12_isWrong_90 (by decide) ?_
        exact r_zret C E rfl (pr1 hf) (pr2 hf) dX12_isWrong_94
def f_X12_wrong_107 (z30 : Int32 → Int32 → Int32 → Int32 → S2 → Option (Int32 × S2)) (v1 : Int32) (v2 : Int32) (v4 : Int32) (t0 : Int32) (t1 : Int32) (u : S2) : Option (Int32 × S2) := nm (t0 ||| t1) (fun x0 => nm (v4 + (1 : Int32)) (fun x1 => z30 v1 v2 x0 x1 u))
set_option maxRecDepth 20000 in
theorem w_X12_wrong_107 {K : Ctx} {ad : Nat → Nat} (C : Cx K ad cX12_wrong 7 yX12_wrong.cls (some .int)) (hR : Rm K 3 68) {r : Int32} {w : S2} (E : EI K ad r w) (z30 : Int32 → Int32 → Int32 → Int32 → S2 → Option (Int32 × S2)) (hz30 : ∀ (v1 : Int32) (v2 : Int32) (v3 : Int32) (v4 : Int32)     (u : S2), z30 v1 v2 v3 v4 u = some (r, w) → RW K ad 7 30 [(0, .ref (ad 38)), (1, .int v1), (2, .int v2), (3, .int v3), (4, .int v4)] [] u) (v1 : Int32) (v2 : Int32) (v4 : Int32) (t0 : Int32) (t1 : Int32)      (u : S2) (hf : f_X12_wrong_107 z30 v1 v2 v4 t0 t1 u = some (r, w)) : RW K ad 7 107 [(0, .ref (ad 38)), (1, .int v1), (2, .int v2), (4, .int v4)] [.int t1, .int t0] u := by
  unfold f_X12_wrong_107 at hf
  refine r_ior 108 C dX12_wrong_107 rfl ?_
  obtain ⟨x0, ex0, hf⟩ := nm_of hf
  refine r_nm ex0 ?_
  refine r_istore_n 109 [(0, .ref (ad 38)), (1, .int v1), (2, .int v2), (3, .int x0), (4, .int v4)] [1, 2, 3, 0, 4] C dX12_wrong_108 rfl (by decide) rfl rfl ?_
  obtain ⟨x1, ex1, hf⟩ := nm_of hf
  refine r_iinc (v := x1) 112 4 [(0, .ref (ad 38)), (1, .int v1), (2, .int v2), (3, .int x0), (4, .int x1)] [1, 2, 3, 4, 0] C dX12_wrong_109 rfl (by rw [ex1]; rfl) (by decide) rfl rfl ?_
  refine r_goto 30 C dX12_wrong_112 (by decide) ?_
  refine r_sub [(0, .ref (ad 38)), (1, .int v1), (2, .int v2), (3, .int x0), (4, .int x1)] [0, 1, 2, 3, 4] rfl ?_
  exact hz30 v1 v2 x0 x1     u hf
def f_X12_wrong_106 (z30 : Int32 → Int32 → Int32 → Int32 → S2 → Option (Int32 × S2)) (v1 : Int32) (v2 : Int32) (v4 : Int32) (t0 : Int32) (u : S2) : Option (Int32 × S2) := f_X12_wrong_107 z30  v1 v2 v4 t0 (0 : Int32) u
set_option maxRecDepth 20000 in
theorem w_X12_wrong_106 {K : Ctx} {ad : Nat → Nat} (C : Cx K ad cX12_wrong 7 yX12_wrong.cls (some .int)) (hR : Rm K 3 68) {r : Int32} {w : S2} (E : EI K ad r w) (z30 : Int32 → Int32 → Int32 → Int32 → S2 → Option (Int32 × S2)) (hz30 : ∀ (v1 : Int32) (v2 : Int32) (v3 : Int32) (v4 : Int32)     (u : S2), z30 v1 v2 v3 v4 u = some (r, w) → RW K ad 7 30 [(0, .ref (ad 38)), (1, .int v1), (2, .int v2), (3, .int v3), (4, .int v4)] [] u) (v1 : Int32) (v2 : Int32) (v4 : Int32) (t0 : Int32)     (u : S2) (hf : f_X12_wrong_106 z30 v1 v2 v4 t0 u = some (r, w)) : RW K ad 7 106 [(0, .ref (ad 38)), (1, .int v1), (2, .int v2), (4, .int v4)] [.int t0] u := by
  unfold f_X12_wrong_106 at hf
  refine r_iconst (v := 0) 107 C dX12_wrong_106 (by decide) rfl ?_
  refine r_sub [(0, .ref (ad 38)), (1, .int v1), (2, .int v2), (4, .int v4)] [0, 1, 2, 3] rfl ?_
  exact w_X12_wrong_107 C hR E z30 hz30  v1 v2 v4 t0 (0 : Int32)      u hf
def f_X12_wrong_99 (z30 : Int32 → Int32 → Int32 → Int32 → S2 → Option (Int32 × S2)) (v1 : Int32) (v2 : Int32) (v4 : Int32) (t0 : Int32) (u : S2) : Option (Int32 × S2) := f_X12_wrong_107 z30  v1 v2 v4 t0 ((1 : Int32) <<< (v4 &&& 31)) u
set_option maxRecDepth 20000 in
theorem w_X12_wrong_99 {K : Ctx} {ad : Nat → Nat} (C : Cx K ad cX12_wrong 7 yX12_wrong.cls (some .int)) (hR : Rm K 3 68) {r : Int32} {w : S2} (E : EI K ad r w) (z30 : Int32 → Int32 → Int32 → Int32 → S2 → Option (Int32 × S2)) (hz30 : ∀ (v1 : Int32) (v2 : Int32) (v3 : Int32) (v4 : Int32)     (u : S2), z30 v1 v2 v3 v4 u = some (r, w) → RW K ad 7 30 [(0, .ref (ad 38)), (1, .int v1), (2, .int v2), (3, .int v3), (4, .int v4)] [] u) (v1 : Int32) (v2 : Int32) (v4 : Int32) (t0 : Int32)     (u : S2) (hf : f_X12_wrong_99 z30 v1 v2 v4 t0 u = some (r, w)) : RW K ad 7 99 [(0, .ref (ad 38)), (1, .int v1), (2, .int v2), (4, .int v4)] [.int t0] u := by
  unfold f_X12_wrong_99 at hf
  refine r_iconst (v := 1) 100 C dX12_wrong_99 (by decide) rfl ?_
  refine r_iload 102 3 C dX12_wrong_100 rfl rfl ?_
  refine r_ishl 103 C dX12_wrong_102 rfl ?_
  refine r_goto 107 C dX12_wrong_103 (by decide) ?_
  refine r_sub [(0, .ref (ad 38)), (1, .int v1), (2, .int v2), (4, .int v4)] [0, 1, 2, 3] rfl ?_
  exact w_X12_wrong_107 C hR E z30 hz30  v1 v2 v4 t0 ((1 : Int32) <<< (v4 &&& 31))      u hf
def f_X12_wrong_79 (z30 : Int32 → Int32 → Int32 → Int32 → S2 → Option (Int32 × S2)) (v1 : Int32) (v2 : Int32) (v3 : Int32) (v4 : Int32) (v5 : Int32) (u : S2) : Option (Int32 × S2) := (if v5 ≤ 0 then f_X12_wrong_106 z30  v1 v2 v4 v3 u else (if v2 = (1 : Int32) then f_X12_wrong_99 z30  v1 v2 v4 v3 u else (if v5 = (u 38 22) then f_X12_wrong_99 z30  v1 v2 v4 v3 u else f_X12_wrong_106 z30  v1 v2 v4 v3 u)))
set_option maxRecDepth 20000 in
theorem w_X12_wrong_79 {K : Ctx} {ad : Nat → Nat} (C : Cx K ad cX12_wrong 7 yX12_wrong.cls (some .int)) (hR : Rm K 3 68) {r : Int32} {w : S2} (E : EI K ad r w) (z30 : Int32 → Int32 → Int32 → Int32 → S2 → Option (Int32 × S2)) (hz30 : ∀ (v1 : Int32) (v2 : Int32) (v3 : Int32) (v4 : Int32)     (u : S2), z30 v1 v2 v3 v4 u = some (r, w) → RW K ad 7 30 [(0, .ref (ad 38)), (1, .int v1), (2, .int v2), (3, .int v3), (4, .int v4)] [] u) (v1 : Int32) (v2 : Int32) (v3 : Int32) (v4 : Int32) (v5 : Int32)      (u : S2) (hf : f_X12_wrong_79 z30 v1 v2 v3 v4 v5 u = some (r, w)) : RW K ad 7 79 [(0, .ref (ad 38)), (1, .int v1), (2, .int v2), (3, .int v3), (4, .int v4), (5, .int v5)] [] u := by
  unfold f_X12_wrong_79 at hf
  refine r_iload_n 80 3 C dX12_wrong_79 rfl rfl rfl ?_
  refine r_iload 82 5 C dX12_wrong_80 rfl rfl ?_
  refine r_if_le 85 106 C dX12_wrong_82 (by decide) rfl (fun c0 => ?_) (fun c0 => ?_)
  · have hf := ifT c0 hf
    refine r_sub [(0, .ref (ad 38)), (1, .int v1), (2, .int v2), (4, .int v4)] [0, 1, 2, 4] rfl ?_
    exact w_X12_wrong_106 C hR E z30 hz30  v1 v2 v4 v3     u hf
  · have hf := ifF c0 hf
    refine r_iload_n 86 2 C dX12_wrong_85 rfl rfl rfl ?_
    refine r_iconst (v := 1) 87 C dX12_wrong_86 (by decide) rfl ?_
    refine r_icmp_eq 90 99 C dX12_wrong_87 (by decide) rfl (fun c1 => ?_) (fun c1 => ?_)
    · have hf := ifT c1 hf
      refine r_sub [(0, .ref (ad 38)), (1, .int v1), (2, .int v2), (4, .int v4)] [0, 1, 2, 4] rfl ?_
      exact w_X12_wrong_99 C hR E z30 hz30  v1 v2 v4 v3     u hf
    · have hf := ifF c1 hf
      refine r_iload 92 5 C dX12_wrong_90 rfl rfl ?_
      refine r_aload_n 93 0 C dX12_wrong_92 rfl rfl rfl ?_
      refine r_get 96 38 22 C inX12 (wd_38 ad u) rfl (by decide) tw_850 rfl rfl dX12_wrong_93 rfl ?_
      refine r_icmp_ne 99 106 C dX12_wrong_96 (by decide) rfl (fun c2 => ?_) (fun c2 => ?_)
      · have hf := ifF c2 hf
        refine r_sub [(0, .ref (ad 38)), (1, .int v1), (2, .int v2), (4, .int v4)] [0, 1, 2, 4] rfl ?_
        exact w_X12_wrong_106 C hR E z30 hz30  v1 v2 v4 v3     u hf
      · have hf := ifT c2 hf
        refine r_sub [(0, .ref (ad 38)), (1, .int v1), (2, .int v2), (4, .int v4)] [0, 1, 2, 4] rfl ?_
        exact w_X12_wrong_99 C hR E z30 hz30  v1 v2 v4 v3     u hf
def f_X12_wrong_70 (z30 : Int32 → Int32 → Int32 → Int32 → S2 → Option (Int32 × S2)) (z42 : Int32 → Int32 → Int32 → Int32 → Int32 → Int32 → S2 → Option (Int32 × S2)) (v1 : Int32) (v2 : Int32) (v3 : Int32) (v4 : Int32) (v6 : Int32) (t0 : Int32) (t1 : Int32) (u : S2) : Option (Int32 × S2) := nm (t0 + t1) (fun x0 => nm (v6 + (1 : Int32)) (fun x1 => z42 v1 v2 v3 v4 x0 x1 u))
set_option maxRecDepth 20000 in
theorem w_X12_wrong_70 {K : Ctx} {ad : Nat → Nat} (C : Cx K ad cX12_wrong 7 yX12_wrong.cls (some .int)) (hR : Rm K 3 68) {r : Int32} {w : S2} (E : EI K ad r w) (z30 : Int32 → Int32 → Int32 → Int32 → S2 → Option (Int32 × S2)) (hz30 : ∀ (v1 : Int32) (v2 : Int32) (v3 : Int32) (v4 : Int32)     (u : S2), z30 v1 v2 v3 v4 u = some (r, w) → RW K ad 7 30 [(0, .ref (ad 38)), (1, .int v1), (2, .int v2), (3, .int v3), (4, .int v4)] [] u) (z42 : Int32 → Int32 → Int32 → Int32 → Int32 → Int32 → S2 → Option (Int32 × S2)) (hz42 : ∀ (v1 : Int32) (v2 : Int32) (v3 : Int32) (v4 : Int32) (v5 : Int32) (v6 : Int32)       (u : S2), z42 v1 v2 v3 v4 v5 v6 u = some (r, w) → RW K ad 7 42 [(0, .ref (ad 38)), (1, .int v1), (2, .int v2), (3, .int v3), (4, .int v4), (5, .int v5), (6, .int v6)] [] u) (v1 : Int32) (v2 : Int32) (v3 : Int32) (v4 : Int32) (v6 : Int32) (t0 : Int32) (t1 : Int32)        (u : S2) (hf : f_X12_wrong_70 z30 z42 v1 v2 v3 v4 v6 t0 t1 u = some (r, w)) : RW K ad 7 70 [(0, .ref (ad 38)), (1, .int v1), (2, .int v2), (3, .int v3), (4, .int v4), (6, .int v6)] [.int t1, .int t0] u := by
  unfold f_X12_wrong_70 at hf
  refine r_iadd 71 C dX12_wrong_70 rfl ?_
  obtain ⟨x0, ex0, hf⟩ := nm_of hf
  refine r_nm ex0 ?_
  refine r_istore 73 [(0, .ref (ad 38)), (1, .int v1), (2, .int v2), (3, .int v3), (4, .int v4), (5, .int x0), (6, .int v6)] [1, 2, 3, 4, 5, 0, 6] C dX12_wrong_71 (by decide) rfl rfl ?_
  obtain ⟨x1, ex1, hf⟩ := nm_of hf
  refine r_iinc (v := x1) 76 6 [(0, .ref (ad 38)), (1, .int v1), (2, .int v2), (3, .int v3), (4, .int v4), (5, .int x0), (6, .int x1)] [1, 2, 3, 4, 5, 6, 0] C dX12_wrong_73 rfl (by rw [ex1]; rfl) (by decide) rfl rfl ?_
  refine r_goto 42 C dX12_wrong_76 (by decide) ?_
  refine r_sub [(0, .ref (ad 38)), (1, .int v1), (2, .int v2), (3, .int v3), (4, .int v4), (5, .int x0), (6, .int x1)] [0, 1, 2, 3, 4, 5, 6] rfl ?_
  exact hz42 v1 v2 v3 v4 x0 x1       u hf
def f_X12_wrong_42 (z30 : Int32 → Int32 → Int32 → Int32 → S2 → Option (Int32 × S2)) : Nat → Int32 → Int32 → Int32 → Int32 → Int32 → Int32 → S2 → Option (Int32 × S2)
  | 0, _, _, _, _, _, _, _ => none
  | n + 1, v1, v2, v3, v4, v5, v6, u => (if (u 38 22) ≤ v6 then f_X12_wrong_79 z30  v1 v2 v3 v4 v5 u else bd (f_X12_isWrong v6 v4 v1 u) (fun r0 u0 => (if r0 = 0 then f_X12_wrong_70 z30 (fun v1 v2 v3 v4 v5 v6 u => f_X12_wrong_42 z30 n v1 v2 v3 v4 v5 v6 u)  v1 v2 v3 v4 v6 v5 (0 : Int32) u0 else f_X12_wrong_70 z30 (fun v1 v2 v3 v4 v5 v6 u => f_X12_wrong_42 z30 n v1 v2 v3 v4 v5 v6 u)  v1 v2 v3 v4 v6 v5 (1 : Int32) u0)))
theorem f_X12_wrong_42_e (z30 : Int32 → Int32 → Int32 → Int32 → S2 → Option (Int32 × S2)) (n : Nat) (v1 : Int32) (v2 : Int32) (v3 : Int32) (v4 : Int32) (v5 : Int32) (v6 : Int32) (u : S2) : f_X12_wrong_42 z30 (n + 1) v1 v2 v3 v4 v5 v6 u = (if (u 38 22) ≤ v6 then f_X12_wrong_79 z30  v1 v2 v3 v4 v5 u else bd (f_X12_isWrong v6 v4 v1 u) (fun r0 u0 => (if r0 = 0 then f_X12_wrong_70 z30 (fun v1 v2 v3 v4 v5 v6 u => f_X12_wrong_42 z30 n v1 v2 v3 v4 v5 v6 u)  v1 v2 v3 v4 v6 v5 (0 : Int32) u0 else f_X12_wrong_70 z30 (fun v1 v2 v3 v4 v5 v6 u => f_X12_wrong_42 z30 n v1 v2 v3 v4 v5 v6 u)  v1 v2 v3 v4 v6 v5 (1 : Int32) u0))) := rfl
set_option maxRecDepth 20000 in
theorem w_X12_wrong_42 {K : Ctx} {ad : Nat → Nat} (C : Cx K ad cX12_wrong 7 yX12_wrong.cls (some .int)) (hR : Rm K 3 68) {r : Int32} {w : S2} (E : EI K ad r w) (z30 : Int32 → Int32 → Int32 → Int32 → S2 → Option (Int32 × S2)) (hz30 : ∀ (v1 : Int32) (v2 : Int32) (v3 : Int32) (v4 : Int32)     (u : S2), z30 v1 v2 v3 v4 u = some (r, w) → RW K ad 7 30 [(0, .ref (ad 38)), (1, .int v1), (2, .int v2), (3, .int v3), (4, .int v4)] [] u) : ∀ (n : Nat) (v1 : Int32) (v2 : Int32) (v3 : Int32) (v4 : Int32) (v5 : Int32) (v6 : Int32)       (u : S2) (hf : f_X12_wrong_42 z30 n v1 v2 v3 v4 v5 v6 u = some (r, w)), RW K ad 7 42 [(0, .ref (ad 38)), (1, .int v1), (2, .int v2), (3, .int v3), (4, .int v4), (5, .int v5), (6, .int v6)] [] u := by
  intro n
  induction n with
  | zero => intro v1 v2 v3 v4 v5 v6       u hf; cases hf
  | succ n ih =>
    intro v1 v2 v3 v4 v5 v6       u hf
    rw [f_X12_wrong_42_e] at hf
    refine r_iload 44 6 C dX12_wrong_42 rfl rfl ?_
    refine r_aload_n 45 0 C dX12_wrong_44 rfl rfl rfl ?_
    refine r_get 48 38 22 C inX12 (wd_38 ad u) rfl (by decide) tw_850 rfl rfl dX12_wrong_45 rfl ?_
    refine r_icmp_ge 51 79 C dX12_wrong_48 (by decide) rfl (fun c0 => ?_) (fun c0 => ?_)
    · have hf := ifT c0 hf
      refine r_sub [(0, .ref (ad 38)), (1, .int v1), (2, .int v2), (3, .int v3), (4, .int v4), (5, .int v5)] [0, 1, 2, 3, 4, 5] rfl ?_
      exact w_X12_wrong_79 C hR E z30 hz30  v1 v2 v3 v4 v5      u hf
    · have hf := ifF c0 hf
      refine r_iload 53 5 C dX12_wrong_51 rfl rfl ?_
      refine r_aload_n 54 0 C dX12_wrong_53 rfl rfl rfl ?_
      refine r_iload 56 6 C dX12_wrong_54 rfl rfl ?_
      refine r_iload 58 4 C dX12_wrong_56 rfl rfl ?_
      refine r_iload_n 59 1 C dX12_wrong_58 rfl rfl rfl ?_
      obtain ⟨r0, u0, h0, hf⟩ := bd_of hf
      refine r_cVI 62 [.int v6, .int v4, .int v1] C hR (c_X12_isWrong ad v6 v4 v1     u r0 u0 h0) q_X12_isWrong tw_1185 (wd_38 ad u) rfl rfl tw_1187 tp_55 (Nat.le_of_ble_eq_true rfl) (Nat.le_of_ble_eq_true rfl) rfl rfl (Nat.le_of_ble_eq_true rfl) dX12_wrong_59 rfl ?_
      refine r_if_eq 65 69 C dX12_wrong_62 (by decide) rfl (fun c1 => ?_) (fun c1 => ?_)
      · have hf := ifT c1 hf
        refine r_iconst (v := 0) 70 C dX12_wrong_69 (by decide) rfl ?_
        refine r_sub [(0, .ref (ad 38)), (1, .int v1), (2, .int v2), (3, .int v3), (4, .int v4), (6, .int v6)] [0, 1, 2, 3, 4, 6] rfl ?_
        exact w_X12_wrong_70 C hR E z30 hz30 (fun v1 v2 v3 v4 v5 v6 u => f_X12_wrong_42 z30 n v1 v2 v3 v4 v5 v6 u) (fun v1 v2 v3 v4 v5 v6       u h => ih v1 v2 v3 v4 v5 v6       u h)  v1 v2 v3 v4 v6 v5 (0 : Int32)        u0 hf
      · have hf := ifF c1 hf
        refine r_iconst (v := 1) 66 C dX12_wrong_65 (by decide) rfl ?_
        refine r_goto 70 C dX12_wrong_66 (by decide) ?_
        refine r_sub [(0, .ref (ad 38)), (1, .int v1), (2, .int v2), (3, .int v3), (4, .int v4), (6, .int v6)] [0, 1, 2, 3, 4, 6] rfl ?_
        exact w_X12_wrong_70 C hR E z30 hz30 (fun v1 v2 v3 v4 v5 v6 u => f_X12_wrong_42 z30 n v1 v2 v3 v4 v5 v6 u) (fun v1 v2 v3 v4 v5 v6       u h => ih v1 v2 v3 v4 v5 v6       u h)  v1 v2 v3 v4 v6 v5 (1 : Int32)        u0 hf
def f_X12_wrong_30  : Nat → Int32 → Int32 → Int32 → Int32 → S2 → Option (Int32 × S2)
  | 0, _, _, _, _, _ => none
  | n + 1, v1, v2, v3, v4, u => (if (3 : Int32) ≤ v4 then some (v3, u) else f_X12_wrong_42 (fun v1 v2 v3 v4 u => f_X12_wrong_30  n v1 v2 v3 v4 u) FUEL v1 v2 v3 v4 (0 : Int32) (0 : Int32) u)
theorem f_X12_wrong_30_e  (n : Nat) (v1 : Int32) (v2 : Int32) (v3 : Int32) (v4 : Int32) (u : S2) : f_X12_wrong_30  (n + 1) v1 v2 v3 v4 u = (if (3 : Int32) ≤ v4 then some (v3, u) else f_X12_wrong_42 (fun v1 v2 v3 v4 u => f_X12_wrong_30  n v1 v2 v3 v4 u) FUEL v1 v2 v3 v4 (0 : Int32) (0 : Int32) u) := rfl
set_option maxRecDepth 20000 in
theorem w_X12_wrong_30 {K : Ctx} {ad : Nat → Nat} (C : Cx K ad cX12_wrong 7 yX12_wrong.cls (some .int)) (hR : Rm K 3 68) {r : Int32} {w : S2} (E : EI K ad r w)  : ∀ (n : Nat) (v1 : Int32) (v2 : Int32) (v3 : Int32) (v4 : Int32)     (u : S2) (hf : f_X12_wrong_30  n v1 v2 v3 v4 u = some (r, w)), RW K ad 7 30 [(0, .ref (ad 38)), (1, .int v1), (2, .int v2), (3, .int v3), (4, .int v4)] [] u := by
  intro n
  induction n with
  | zero => intro v1 v2 v3 v4     u hf; cases hf
  | succ n ih =>
    intro v1 v2 v3 v4     u hf
    rw [f_X12_wrong_30_e] at hf
    refine r_iload 32 4 C dX12_wrong_30 rfl rfl ?_
    refine r_iconst (v := 3) 33 C dX12_wrong_32 (by decide) rfl ?_
    refine r_icmp_ge 36 115 C dX12_wrong_33 (by decide) rfl (fun c0 => ?_) (fun c0 => ?_)
    · have hf := ifT c0 hf
      refine r_iload_n 116 3 C dX12_wrong_115 rfl rfl rfl ?_
      exact r_iret C E (pr1 hf) (pr2 hf) dX12_wrong_116
    · have hf := ifF c0 hf
      refine r_iconst (v := 0) 37 C dX12_wrong_36 (by decide) rfl ?_
      refine r_istore 39 [(0, .ref (ad 38)), (1, .int v1), (2, .int v2), (3, .int v3), (4, .int v4), (5, .int (0 : Int32))] [1, 2, 3, 4, 5, 0] C dX12_wrong_37 (by decide) rfl rfl ?_
      refine r_iconst (v := 0) 40 C dX12_wrong_39 (by decide) rfl ?_
      refine r_istore 42 [(0, .ref (ad 38)), (1, .int v1), (2, .int v2), (3, .int v3), (4, .int v4), (5, .int (0 : Int32)), (6, .int (0 : Int32))] [1, 2, 3, 4, 5, 6, 0] C dX12_wrong_40 (by decide) rfl rfl ?_
      refine r_sub [(0, .ref (ad 38)), (1, .int v1), (2, .int v2), (3, .int v3), (4, .int v4), (5, .int (0 : Int32)), (6, .int (0 : Int32))] [0, 1, 2, 3, 4, 5, 6] rfl ?_
      exact w_X12_wrong_42 C hR E (fun v1 v2 v3 v4 u => f_X12_wrong_30  n v1 v2 v3 v4 u) (fun v1 v2 v3 v4     u h => ih v1 v2 v3 v4     u h) FUEL v1 v2 v3 v4 (0 : Int32) (0 : Int32)       u hf
def f_X12_wrong (v1 : Int32) (v2 : Int32) (u : S2) : Option (Int32 × S2) := bd (f_X12_in ((Int32.toInt64 v1)) ((0 : Int64)) ((9000 : Int64)) u) (fun r0 u0 => (if r0 = 0 then some ((-3 : Int32), u0) else bd (f_X12_in ((Int32.toInt64 v2)) ((0 : Int64)) ((1 : Int64)) u0) (fun r1 u1 => (if r1 = 0 then some ((-3 : Int32), u1) else f_X12_wrong_30  FUEL v1 v2 (0 : Int32) (0 : Int32) u1))))
set_option maxRecDepth 20000 in
theorem c_X12_wrong (ad : Nat → Nat) (v1 : Int32) (v2 : Int32)   (u : S2) (r : Int32) (w : S2) (hf : f_X12_wrong v1 v2 u = some (r, w)) : HI yX12_wrong cX12_wrong 7 (some .int) 3 68 ad [.ref (ad 38), .int v1, .int v2] u r w := by
  refine HI_of (by decide) (Nat.le_of_ble_eq_true rfl) (fun K C hR E => ?_)
  refine r_sub [(0, .ref (ad 38)), (1, .int v1), (2, .int v2)] [0, 1, 2] rfl ?_
  unfold f_X12_wrong at hf
  refine r_iload_n 1 1 C dX12_wrong_0 rfl rfl rfl ?_
  refine r_i2l 2 C dX12_wrong_1 rfl ?_
  refine r_lconst (v := 0) 3 C dX12_wrong_2 (by decide) rfl ?_
  refine r_ldc2 (v := 9000) 6 C tw_1130 dX12_wrong_3 rfl ?_
  obtain ⟨r0, u0, h0, hf⟩ := bd_of hf
  refine r_cSI 9 [.long (Int32.toInt64 v1), .long (0 : Int64), .long (9000 : Int64)] C hR (c_X12_in ad ((Int32.toInt64 v1)) ((0 : Int64)) ((9000 : Int64))    u r0 u0 h0) q_X12_in tw_945 tw_946 (Nat.le_of_ble_eq_true rfl) (Nat.le_of_ble_eq_true rfl) rfl rfl (Nat.le_of_ble_eq_true rfl) dX12_wrong_6 rfl ?_
  refine r_if_eq 12 22 C dX12_wrong_9 (by decide) rfl (fun c0 => ?_) (fun c0 => ?_)
  · have hf := ifT c0 hf
    refine r_bipush (v := -3) 24 C dX12_wrong_22 (by decide) rfl ?_
    exact r_iret C E (pr1 hf) (pr2 hf) dX12_wrong_24
  · have hf := ifF c0 hf
    refine r_iload_n 13 2 C dX12_wrong_12 rfl rfl rfl ?_
    refine r_i2l 14 C dX12_wrong_13 rfl ?_
    refine r_lconst (v := 0) 15 C dX12_wrong_14 (by decide) rfl ?_
    refine r_lconst (v := 1) 16 C dX12_wrong_15 (by decide) rfl ?_
    obtain ⟨r1, u1, h1, hf⟩ := bd_of hf
    refine r_cSI 19 [.long (Int32.toInt64 v2), .long (0 : Int64), .long (1 : Int64)] C hR (c_X12_in ad ((Int32.toInt64 v2)) ((0 : Int64)) ((1 : Int64))    u0 r1 u1 h1) q_X12_in tw_945 tw_946 (Nat.le_of_ble_eq_true rfl) (Nat.le_of_ble_eq_true rfl) rfl rfl (Nat.le_of_ble_eq_true rfl) dX12_wrong_16 rfl ?_
    refine r_if_ne 22 25 C dX12_wrong_19 (by decide) rfl (fun c1 => ?_) (fun c1 => ?_)
    · have hf := ifF c1 hf
      refine r_iconst (v := 0) 26 C dX12_wrong_25 (by decide) rfl ?_
      refine r_istore_n 27 [(0, .ref (ad 38)), (1, .int v1), (2, .int v2), (3, .int (0 : Int32))] [1, 2, 3, 0] C dX12_wrong_26 rfl (by decide) rfl rfl ?_
      refine r_iconst (v := 0) 28 C dX12_wrong_27 (by decide) rfl ?_
      refine r_istore 30 [(0, .ref (ad 38)), (1, .int v1), (2, .int v2), (3, .int (0 : Int32)), (4, .int (0 : Int32))] [1, 2, 3, 4, 0] C dX12_wrong_28 (by decide) rfl rfl ?_
      refine r_sub [(0, .ref (ad 38)), (1, .int v1), (2, .int v2), (3, .int (0 : Int32)), (4, .int (0 : Int32))] [0, 1, 2, 3, 4] rfl ?_
      exact w_X12_wrong_30 C hR E  FUEL v1 v2 (0 : Int32) (0 : Int32)     u1 hf
    · have hf := ifT c1 hf
      refine r_bipush (v := -3) 24 C dX12_wrong_22 (by decide) rfl ?_
      exact r_iret C E (pr1 hf) (pr2 hf) dX12_wrong_24
def f_X12_about (v1 : Int32) (v2 : Int32) (u : S2) : Option (Int32 × S2) := bd (f_X12_isHeading v1 u) (fun r0 u0 => (if r0 = 0 then some ((-3 : Int32), u0) else bd (f_X12_isHeading v2 u0) (fun r1 u1 => (if r1 = 0 then some ((-3 : Int32), u1) else (if (u1 38 25) = (24 : Int32) then some ((-5 : Int32), u1) else ck (inb (u1 38 25) 24) (nm (wr u1 57 (Int32.toNatClampNeg (u1 38 25)) v1) (fun u2 => bd (f_X12_wrapped (v1 - v2) u2) (fun r2 u3 => ck (inb (u2 38 25) 24) (nm (wr u3 58 (Int32.toNatClampNeg (u2 38 25)) r2) (fun u4 => nm ((u4 38 25) + (1 : Int32)) (fun x0 => nm (wr u4 38 25 x0) (fun u5 => some (u5 38 25, u5)))))))))))))
set_option maxRecDepth 20000 in
theorem c_X12_about (ad : Nat → Nat) (v1 : Int32) (v2 : Int32)   (u : S2) (r : Int32) (w : S2) (hf : f_X12_about v1 v2 u = some (r, w)) : HI yX12_about cX12_about 3 (some .int) 2 45 ad [.ref (ad 38), .int v1, .int v2] u r w := by
  refine HI_of (by decide) (Nat.le_of_ble_eq_true rfl) (fun K C hR E => ?_)
  refine r_sub [(0, .ref (ad 38)), (1, .int v1), (2, .int v2)] [0, 1, 2] rfl ?_
  unfold f_X12_about at hf
  refine r_iload_n 1 1 C dX12_about_0 rfl rfl rfl ?_
  obtain ⟨r0, u0, h0, hf⟩ := bd_of hf
  refine r_cSI 4 [.int v1] C hR (c_X12_isHeading ad v1  u r0 u0 h0) q_X12_isHeading tw_958 tw_959 (Nat.le_of_ble_eq_true rfl) (Nat.le_of_ble_eq_true rfl) rfl rfl (Nat.le_of_ble_eq_true rfl) dX12_about_1 rfl ?_
  refine r_if_eq 7 14 C dX12_about_4 (by decide) rfl (fun c0 => ?_) (fun c0 => ?_)
  · have hf := ifT c0 hf
    refine r_bipush (v := -3) 16 C dX12_about_14 (by decide) rfl ?_
    exact r_iret C E (pr1 hf) (pr2 hf) dX12_about_16
  · have hf := ifF c0 hf
    refine r_iload_n 8 2 C dX12_about_7 rfl rfl rfl ?_
    obtain ⟨r1, u1, h1, hf⟩ := bd_of hf
    refine r_cSI 11 [.int v2] C hR (c_X12_isHeading ad v2  u0 r1 u1 h1) q_X12_isHeading tw_958 tw_959 (Nat.le_of_ble_eq_true rfl) (Nat.le_of_ble_eq_true rfl) rfl rfl (Nat.le_of_ble_eq_true rfl) dX12_about_8 rfl ?_
    refine r_if_ne 14 17 C dX12_about_11 (by decide) rfl (fun c1 => ?_) (fun c1 => ?_)
    · have hf := ifF c1 hf
      refine r_aload_n 18 0 C dX12_about_17 rfl rfl rfl ?_
      refine r_get 21 38 25 C inX12 (wd_38 ad u1) rfl (by decide) tw_853 rfl rfl dX12_about_18 rfl ?_
      refine r_bipush (v := 24) 23 C dX12_about_21 (by decide) rfl ?_
      refine r_icmp_ne 26 29 C dX12_about_23 (by decide) rfl (fun c2 => ?_) (fun c2 => ?_)
      · have hf := ifF c2 hf
        refine r_aload_n 30 0 C dX12_about_29 rfl rfl rfl ?_
        refine r_get 33 38 23 C inX12 (wd_38 ad u1) rfl (by decide) tw_851 rfl rfl dX12_about_30 rfl ?_
        refine r_aload_n 34 0 C dX12_about_33 rfl rfl rfl ?_
        refine r_get 37 38 25 C inX12 (wd_38 ad u1) rfl (by decide) tw_853 rfl rfl dX12_about_34 rfl ?_
        refine r_iload_n 38 1 C dX12_about_37 rfl rfl rfl ?_
        obtain ⟨hc0, hf⟩ := ck_of hf
        refine r_iastore 39 57 24 C (wd_57 ad u1) (sA_57 ad u1) hc0 dX12_about_38 rfl ?_
        obtain ⟨u2, eu2, hf⟩ := nm_of hf
        refine r_st eu2 ?_
        refine r_aload_n 40 0 C dX12_about_39 rfl rfl rfl ?_
        refine r_get 43 38 24 C inX12 (wd_38 ad u2) rfl (by decide) tw_852 rfl rfl dX12_about_40 rfl ?_
        refine r_aload_n 44 0 C dX12_about_43 rfl rfl rfl ?_
        refine r_get 47 38 25 C inX12 (wd_38 ad u2) rfl (by decide) tw_853 rfl rfl dX12_about_44 rfl ?_
        refine r_iload_n 48 1 C dX12_about_47 rfl rfl rfl ?_
        refine r_iload_n 49 2 C dX12_about_48 rfl rfl rfl ?_
        refine r_isub 50 C dX12_about_49 rfl ?_
        obtain ⟨r2, u3, h2, hf⟩ := bd_of hf
        refine r_cSI 53 [.int (v1 - v2)] C hR (c_X12_wrapped ad (v1 - v2)  u2 r2 u3 h2) q_X12_wrapped tw_1059 tw_1060 (Nat.le_of_ble_eq_true rfl) (Nat.le_of_ble_eq_true rfl) rfl rfl (Nat.le_of_ble_eq_true rfl) dX12_about_50 rfl ?_
        obtain ⟨hc1, hf⟩ := ck_of hf
        refine r_iastore 54 58 24 C (wd_58 ad u3) (sA_58 ad u3) hc1 dX12_about_53 rfl ?_
        obtain ⟨u4, eu4, hf⟩ := nm_of hf
        refine r_st eu4 ?_
        refine r_aload_n 55 0 C dX12_about_54 rfl rfl rfl ?_
        refine r_dup 56 C dX12_about_55 rfl rfl ?_
        refine r_get 59 38 25 C inX12 (wd_38 ad u4) rfl (by decide) tw_853 rfl rfl dX12_about_56 rfl ?_
        refine r_iconst (v := 1) 60 C dX12_about_59 (by decide) rfl ?_
        refine r_iadd 61 C dX12_about_60 rfl ?_
        obtain ⟨x0, ex0, hf⟩ := nm_of hf
        refine r_nm ex0 ?_
        refine r_put 64 38 25 C inX12 tyX12_ok nmX12 (wd_38 ad u4) (sF_38_25 ad u4 x0) rfl (by decide) tw_853 rfl rfl (tyX12_ok 25 (by decide)) rfl rfl (Nat.le_of_ble_eq_true rfl) dX12_about_61 rfl ?_
        obtain ⟨u5, eu5, hf⟩ := nm_of hf
        refine r_st eu5 ?_
        refine r_aload_n 65 0 C dX12_about_64 rfl rfl rfl ?_
        refine r_get 68 38 25 C inX12 (wd_38 ad u5) rfl (by decide) tw_853 rfl rfl dX12_about_65 rfl ?_
        exact r_iret C E (pr1 hf) (pr2 hf) dX12_about_68
      · have hf := ifT c2 hf
        refine r_bipush (v := -5) 28 C dX12_about_26 (by decide) rfl ?_
        exact r_iret C E (pr1 hf) (pr2 hf) dX12_about_28
    · have hf := ifT c1 hf
      refine r_bipush (v := -3) 16 C dX12_about_14 (by decide) rfl ?_
      exact r_iret C E (pr1 hf) (pr2 hf) dX12_about_16
def f_X12_needle_142  (v3 : Int32) (u : S2) : Option (Int32 × S2) := (if v3 = (-1 : Int32) then some ((-1 : Int32), u) else ck (inb v3 24) (nm (u 58 (Int32.toNatClampNeg v3)) (fun x0 => some ((50000 : Int32) + x0, u))))
set_option maxRecDepth 20000 in
theorem w_X12_needle_142 {K : Ctx} {ad : Nat → Nat} (C : Cx K ad cX12_needle 7 yX12_needle.cls (some .int)) (hR : Rm K 1 25) {r : Int32} {w : S2} (E : EI K ad r w)  (v3 : Int32)  (u : S2) (hf : f_X12_needle_142  v3 u = some (r, w)) : RW K ad 7 142 [(0, .ref (ad 38)), (3, .int v3)] [] u := by
  unfold f_X12_needle_142 at hf
  refine r_iload_n 143 1 C dX12_needle_142 rfl rfl rfl ?_
  refine r_iconst (v := -1) 144 C dX12_needle_143 (by decide) rfl ?_
  refine r_icmp_ne 147 151 C dX12_needle_144 (by decide) rfl (fun c0 => ?_) (fun c0 => ?_)
  · have hf := ifF c0 hf
    refine r_ldc (v := 50000) 153 C tw_1040 dX12_needle_151 rfl ?_
    refine r_aload_n 154 0 C dX12_needle_153 rfl rfl rfl ?_
    refine r_get 157 38 24 C inX12 (wd_38 ad u) rfl (by decide) tw_852 rfl rfl dX12_needle_154 rfl ?_
    refine r_iload_n 158 1 C dX12_needle_157 rfl rfl rfl ?_
    obtain ⟨hc0, hf⟩ := ck_of hf
    refine r_iaload 159 58 24 C (wd_58 ad u) hc0 dX12_needle_158 rfl ?_
    obtain ⟨x0, ex0, hf⟩ := nm_of hf
    refine r_nm ex0 ?_
    refine r_iadd 160 C dX12_needle_159 rfl ?_
    exact r_iret C E (pr1 hf) (pr2 hf) dX12_needle_160
  · have hf := ifT c0 hf
    refine r_iconst (v := -1) 148 C dX12_needle_147 (by decide) rfl ?_
    refine r_goto 160 C dX12_needle_148 (by decide) ?_
    exact r_iret C E (pr1 hf) (pr2 hf) dX12_needle_160
def f_X12_needle_135 (z30 : Int32 → Int32 → Int32 → Int32 → S2 → Option (Int32 × S2)) (v1 : Int32) (v2 : Int32) (v4 : Int32) (t0 : Int32) (u : S2) : Option (Int32 × S2) := nm (v4 + (1 : Int32)) (fun x0 => z30 v1 v2 t0 x0 u)
set_option maxRecDepth 20000 in
theorem w_X12_needle_135 {K : Ctx} {ad : Nat → Nat} (C : Cx K ad cX12_needle 7 yX12_needle.cls (some .int)) (hR : Rm K 1 25) {r : Int32} {w : S2} (E : EI K ad r w) (z30 : Int32 → Int32 → Int32 → Int32 → S2 → Option (Int32 × S2)) (hz30 : ∀ (v1 : Int32) (v2 : Int32) (v3 : Int32) (v4 : Int32)     (u : S2), z30 v1 v2 v3 v4 u = some (r, w) → RW K ad 7 30 [(0, .ref (ad 38)), (1, .int v1), (2, .int v2), (3, .int v3), (4, .int v4)] [] u) (v1 : Int32) (v2 : Int32) (v4 : Int32) (t0 : Int32)     (u : S2) (hf : f_X12_needle_135 z30 v1 v2 v4 t0 u = some (r, w)) : RW K ad 7 135 [(0, .ref (ad 38)), (1, .int v1), (2, .int v2), (4, .int v4)] [.int t0] u := by
  unfold f_X12_needle_135 at hf
  refine r_istore_n 136 [(0, .ref (ad 38)), (1, .int v1), (2, .int v2), (3, .int t0), (4, .int v4)] [1, 2, 3, 0, 4] C dX12_needle_135 rfl (by decide) rfl rfl ?_
  obtain ⟨x0, ex0, hf⟩ := nm_of hf
  refine r_iinc (v := x0) 139 4 [(0, .ref (ad 38)), (1, .int v1), (2, .int v2), (3, .int t0), (4, .int x0)] [1, 2, 3, 4, 0] C dX12_needle_136 rfl (by rw [ex0]; rfl) (by decide) rfl rfl ?_
  refine r_goto 30 C dX12_needle_139 (by decide) ?_
  refine r_sub [(0, .ref (ad 38)), (1, .int v1), (2, .int v2), (3, .int t0), (4, .int x0)] [0, 1, 2, 3, 4] rfl ?_
  exact hz30 v1 v2 t0 x0     u hf
def f_X12_needle_134 (z30 : Int32 → Int32 → Int32 → Int32 → S2 → Option (Int32 × S2)) (v1 : Int32) (v2 : Int32) (v3 : Int32) (v4 : Int32) (u : S2) : Option (Int32 × S2) := f_X12_needle_135 z30  v1 v2 v4 v3 u
set_option maxRecDepth 20000 in
theorem w_X12_needle_134 {K : Ctx} {ad : Nat → Nat} (C : Cx K ad cX12_needle 7 yX12_needle.cls (some .int)) (hR : Rm K 1 25) {r : Int32} {w : S2} (E : EI K ad r w) (z30 : Int32 → Int32 → Int32 → Int32 → S2 → Option (Int32 × S2)) (hz30 : ∀ (v1 : Int32) (v2 : Int32) (v3 : Int32) (v4 : Int32)     (u : S2), z30 v1 v2 v3 v4 u = some (r, w) → RW K ad 7 30 [(0, .ref (ad 38)), (1, .int v1), (2, .int v2), (3, .int v3), (4, .int v4)] [] u) (v1 : Int32) (v2 : Int32) (v3 : Int32) (v4 : Int32)     (u : S2) (hf : f_X12_needle_134 z30 v1 v2 v3 v4 u = some (r, w)) : RW K ad 7 134 [(0, .ref (ad 38)), (1, .int v1), (2, .int v2), (3, .int v3), (4, .int v4)] [] u := by
  unfold f_X12_needle_134 at hf
  refine r_iload_n 135 3 C dX12_needle_134 rfl rfl rfl ?_
  refine r_sub [(0, .ref (ad 38)), (1, .int v1), (2, .int v2), (4, .int v4)] [0, 1, 2, 4] rfl ?_
  exact w_X12_needle_135 C hR E z30 hz30  v1 v2 v4 v3     u hf
def f_X12_needle_117 (z30 : Int32 → Int32 → Int32 → Int32 → S2 → Option (Int32 × S2)) (v1 : Int32) (v2 : Int32) (v3 : Int32) (v4 : Int32) (v5 : Int32) (t0 : Int32) (u : S2) : Option (Int32 × S2) := (if v5 = 0 then f_X12_needle_134 z30  v1 v2 v3 v4 u else (if t0 = 0 then f_X12_needle_134 z30  v1 v2 v3 v4 u else f_X12_needle_135 z30  v1 v2 v4 v4 u))
set_option maxRecDepth 20000 in
theorem w_X12_needle_117 {K : Ctx} {ad : Nat → Nat} (C : Cx K ad cX12_needle 7 yX12_needle.cls (some .int)) (hR : Rm K 1 25) {r : Int32} {w : S2} (E : EI K ad r w) (z30 : Int32 → Int32 → Int32 → Int32 → S2 → Option (Int32 × S2)) (hz30 : ∀ (v1 : Int32) (v2 : Int32) (v3 : Int32) (v4 : Int32)     (u : S2), z30 v1 v2 v3 v4 u = some (r, w) → RW K ad 7 30 [(0, .ref (ad 38)), (1, .int v1), (2, .int v2), (3, .int v3), (4, .int v4)] [] u) (v1 : Int32) (v2 : Int32) (v3 : Int32) (v4 : Int32) (v5 : Int32) (t0 : Int32)       (u : S2) (hf : f_X12_needle_117 z30 v1 v2 v3 v4 v5 t0 u = some (r, w)) : RW K ad 7 117 [(0, .ref (ad 38)), (1, .int v1), (2, .int v2), (3, .int v3), (4, .int v4), (5, .int v5)] [.int t0] u := by
  unfold f_X12_needle_117 at hf
  refine r_istore 119 [(0, .ref (ad 38)), (1, .int v1), (2, .int v2), (3, .int v3), (4, .int v4), (5, .int v5), (6, .int t0)] [1, 2, 3, 4, 5, 6, 0] C dX12_needle_117 (by decide) rfl rfl ?_
  refine r_iload 121 5 C dX12_needle_119 rfl rfl ?_
  refine r_if_eq 124 134 C dX12_needle_121 (by decide) rfl (fun c0 => ?_) (fun c0 => ?_)
  · have hf := ifT c0 hf
    refine r_sub [(0, .ref (ad 38)), (1, .int v1), (2, .int v2), (3, .int v3), (4, .int v4)] [0, 1, 2, 3, 4] rfl ?_
    exact w_X12_needle_134 C hR E z30 hz30  v1 v2 v3 v4     u hf
  · have hf := ifF c0 hf
    refine r_iload 126 6 C dX12_needle_124 rfl rfl ?_
    refine r_if_eq 129 134 C dX12_needle_126 (by decide) rfl (fun c1 => ?_) (fun c1 => ?_)
    · have hf := ifT c1 hf
      refine r_sub [(0, .ref (ad 38)), (1, .int v1), (2, .int v2), (3, .int v3), (4, .int v4)] [0, 1, 2, 3, 4] rfl ?_
      exact w_X12_needle_134 C hR E z30 hz30  v1 v2 v3 v4     u hf
    · have hf := ifF c1 hf
      refine r_iload 131 4 C dX12_needle_129 rfl rfl ?_
      refine r_goto 135 C dX12_needle_131 (by decide) ?_
      refine r_sub [(0, .ref (ad 38)), (1, .int v1), (2, .int v2), (4, .int v4)] [0, 1, 2, 4] rfl ?_
      exact w_X12_needle_135 C hR E z30 hz30  v1 v2 v4 v4     u hf
def f_X12_needle_112 (z30 : Int32 → Int32 → Int32 → Int32 → S2 → Option (Int32 × S2)) (v1 : Int32) (v2 : Int32) (v3 : Int32) (v4 : Int32) (v5 : Int32) (u : S2) : Option (Int32 × S2) := f_X12_needle_117 z30  v1 v2 v3 v4 v5 (1 : Int32) u
set_option maxRecDepth 20000 in
theorem w_X12_needle_112 {K : Ctx} {ad : Nat → Nat} (C : Cx K ad cX12_needle 7 yX12_needle.cls (some .int)) (hR : Rm K 1 25) {r : Int32} {w : S2} (E : EI K ad r w) (z30 : Int32 → Int32 → Int32 → Int32 → S2 → Option (Int32 × S2)) (hz30 : ∀ (v1 : Int32) (v2 : Int32) (v3 : Int32) (v4 : Int32)     (u : S2), z30 v1 v2 v3 v4 u = some (r, w) → RW K ad 7 30 [(0, .ref (ad 38)), (1, .int v1), (2, .int v2), (3, .int v3), (4, .int v4)] [] u) (v1 : Int32) (v2 : Int32) (v3 : Int32) (v4 : Int32) (v5 : Int32)      (u : S2) (hf : f_X12_needle_112 z30 v1 v2 v3 v4 v5 u = some (r, w)) : RW K ad 7 112 [(0, .ref (ad 38)), (1, .int v1), (2, .int v2), (3, .int v3), (4, .int v4), (5, .int v5)] [] u := by
  unfold f_X12_needle_112 at hf
  refine r_iconst (v := 1) 113 C dX12_needle_112 (by decide) rfl ?_
  refine r_goto 117 C dX12_needle_113 (by decide) ?_
  refine r_sub [(0, .ref (ad 38)), (1, .int v1), (2, .int v2), (3, .int v3), (4, .int v4), (5, .int v5)] [0, 1, 2, 3, 4, 5] rfl ?_
  exact w_X12_needle_117 C hR E z30 hz30  v1 v2 v3 v4 v5 (1 : Int32)       u hf
def f_X12_needle_116 (z30 : Int32 → Int32 → Int32 → Int32 → S2 → Option (Int32 × S2)) (v1 : Int32) (v2 : Int32) (v3 : Int32) (v4 : Int32) (v5 : Int32) (u : S2) : Option (Int32 × S2) := f_X12_needle_117 z30  v1 v2 v3 v4 v5 (0 : Int32) u
set_option maxRecDepth 20000 in
theorem w_X12_needle_116 {K : Ctx} {ad : Nat → Nat} (C : Cx K ad cX12_needle 7 yX12_needle.cls (some .int)) (hR : Rm K 1 25) {r : Int32} {w : S2} (E : EI K ad r w) (z30 : Int32 → Int32 → Int32 → Int32 → S2 → Option (Int32 × S2)) (hz30 : ∀ (v1 : Int32) (v2 : Int32) (v3 : Int32) (v4 : Int32)     (u : S2), z30 v1 v2 v3 v4 u = some (r, w) → RW K ad 7 30 [(0, .ref (ad 38)), (1, .int v1), (2, .int v2), (3, .int v3), (4, .int v4)] [] u) (v1 : Int32) (v2 : Int32) (v3 : Int32) (v4 : Int32) (v5 : Int32)      (u : S2) (hf : f_X12_needle_116 z30 v1 v2 v3 v4 v5 u = some (r, w)) : RW K ad 7 116 [(0, .ref (ad 38)), (1, .int v1), (2, .int v2), (3, .int v3), (4, .int v4), (5, .int v5)] [] u := by
  unfold f_X12_needle_116 at hf
  refine r_iconst (v := 0) 117 C dX12_needle_116 (by decide) rfl ?_
  refine r_sub [(0, .ref (ad 38)), (1, .int v1), (2, .int v2), (3, .int v3), (4, .int v4), (5, .int v5)] [0, 1, 2, 3, 4, 5] rfl ?_
  exact w_X12_needle_117 C hR E z30 hz30  v1 v2 v3 v4 v5 (0 : Int32)       u hf
def f_X12_needle_66 (z30 : Int32 → Int32 → Int32 → Int32 → S2 → Option (Int32 × S2)) (v1 : Int32) (v2 : Int32) (v3 : Int32) (v4 : Int32) (t0 : Int32) (u : S2) : Option (Int32 × S2) := (if v3 = (-1 : Int32) then f_X12_needle_112 z30  v1 v2 v3 v4 t0 u else (if v2 = 0 then ck (inb v4 24) (nm (u 58 (Int32.toNatClampNeg v4)) (fun x2 => ck (inb v3 24) (nm (u 58 (Int32.toNatClampNeg v3)) (fun x3 => (if x3 ≤ x2 then f_X12_needle_116 z30  v1 v2 v3 v4 t0 u else f_X12_needle_112 z30  v1 v2 v3 v4 t0 u))))) else ck (inb v4 24) (nm (u 58 (Int32.toNatClampNeg v4)) (fun x0 => ck (inb v3 24) (nm (u 58 (Int32.toNatClampNeg v3)) (fun x1 => (if x0 ≤ x1 then f_X12_needle_116 z30  v1 v2 v3 v4 t0 u else f_X12_needle_112 z30  v1 v2 v3 v4 t0 u)))))))
set_option maxRecDepth 20000 in
theorem w_X12_needle_66 {K : Ctx} {ad : Nat → Nat} (C : Cx K ad cX12_needle 7 yX12_needle.cls (some .int)) (hR : Rm K 1 25) {r : Int32} {w : S2} (E : EI K ad r w) (z30 : Int32 → Int32 → Int32 → Int32 → S2 → Option (Int32 × S2)) (hz30 : ∀ (v1 : Int32) (v2 : Int32) (v3 : Int32) (v4 : Int32)     (u : S2), z30 v1 v2 v3 v4 u = some (r, w) → RW K ad 7 30 [(0, .ref (ad 38)), (1, .int v1), (2, .int v2), (3, .int v3), (4, .int v4)] [] u) (v1 : Int32) (v2 : Int32) (v3 : Int32) (v4 : Int32) (t0 : Int32)      (u : S2) (hf : f_X12_needle_66 z30 v1 v2 v3 v4 t0 u = some (r, w)) : RW K ad 7 66 [(0, .ref (ad 38)), (1, .int v1), (2, .int v2), (3, .int v3), (4, .int v4)] [.int t0] u := by
  unfold f_X12_needle_66 at hf
  refine r_istore 68 [(0, .ref (ad 38)), (1, .int v1), (2, .int v2), (3, .int v3), (4, .int v4), (5, .int t0)] [1, 2, 3, 4, 5, 0] C dX12_needle_66 (by decide) rfl rfl ?_
  refine r_iload_n 69 3 C dX12_needle_68 rfl rfl rfl ?_
  refine r_iconst (v := -1) 70 C dX12_needle_69 (by decide) rfl ?_
  refine r_icmp_eq 73 112 C dX12_needle_70 (by decide) rfl (fun c0 => ?_) (fun c0 => ?_)
  · have hf := ifT c0 hf
    refine r_sub [(0, .ref (ad 38)), (1, .int v1), (2, .int v2), (3, .int v3), (4, .int v4), (5, .int t0)] [0, 1, 2, 3, 4, 5] rfl ?_
    exact w_X12_needle_112 C hR E z30 hz30  v1 v2 v3 v4 t0      u hf
  · have hf := ifF c0 hf
    refine r_iload_n 74 2 C dX12_needle_73 rfl rfl rfl ?_
    refine r_if_ne 77 96 C dX12_needle_74 (by decide) rfl (fun c1 => ?_) (fun c1 => ?_)
    · have hf := ifF c1 hf
      refine r_aload_n 97 0 C dX12_needle_96 rfl rfl rfl ?_
      refine r_get 100 38 24 C inX12 (wd_38 ad u) rfl (by decide) tw_852 rfl rfl dX12_needle_97 rfl ?_
      refine r_iload 102 4 C dX12_needle_100 rfl rfl ?_
      obtain ⟨hc0, hf⟩ := ck_of hf
      refine r_iaload 103 58 24 C (wd_58 ad u) hc0 dX12_needle_102 rfl ?_
      obtain ⟨x0, ex0, hf⟩ := nm_of hf
      refine r_nm ex0 ?_
      refine r_aload_n 104 0 C dX12_needle_103 rfl rfl rfl ?_
      refine r_get 107 38 24 C inX12 (wd_38 ad u) rfl (by decide) tw_852 rfl rfl dX12_needle_104 rfl ?_
      refine r_iload_n 108 3 C dX12_needle_107 rfl rfl rfl ?_
      obtain ⟨hc1, hf⟩ := ck_of hf
      refine r_iaload 109 58 24 C (wd_58 ad u) hc1 dX12_needle_108 rfl ?_
      obtain ⟨x1, ex1, hf⟩ := nm_of hf
      refine r_nm ex1 ?_
      refine r_icmp_le 112 116 C dX12_needle_109 (by decide) rfl (fun c2 => ?_) (fun c2 => ?_)
      · have hf := ifT c2 hf
        refine r_sub [(0, .ref (ad 38)), (1, .int v1), (2, .int v2), (3, .int v3), (4, .int v4), (5, .int t0)] [0, 1, 2, 3, 4, 5] rfl ?_
        exact w_X12_needle_116 C hR E z30 hz30  v1 v2 v3 v4 t0      u hf
      · have hf := ifF c2 hf
        refine r_sub [(0, .ref (ad 38)), (1, .int v1), (2, .int v2), (3, .int v3), (4, .int v4), (5, .int t0)] [0, 1, 2, 3, 4, 5] rfl ?_
        exact w_X12_needle_112 C hR E z30 hz30  v1 v2 v3 v4 t0      u hf
    · have hf := ifT c1 hf
      refine r_aload_n 78 0 C dX12_needle_77 rfl rfl rfl ?_
      refine r_get 81 38 24 C inX12 (wd_38 ad u) rfl (by decide) tw_852 rfl rfl dX12_needle_78 rfl ?_
      refine r_iload 83 4 C dX12_needle_81 rfl rfl ?_
      obtain ⟨hc2, hf⟩ := ck_of hf
      refine r_iaload 84 58 24 C (wd_58 ad u) hc2 dX12_needle_83 rfl ?_
      obtain ⟨x2, ex2, hf⟩ := nm_of hf
      refine r_nm ex2 ?_
      refine r_aload_n 85 0 C dX12_needle_84 rfl rfl rfl ?_
      refine r_get 88 38 24 C inX12 (wd_38 ad u) rfl (by decide) tw_852 rfl rfl dX12_needle_85 rfl ?_
      refine r_iload_n 89 3 C dX12_needle_88 rfl rfl rfl ?_
      obtain ⟨hc3, hf⟩ := ck_of hf
      refine r_iaload 90 58 24 C (wd_58 ad u) hc3 dX12_needle_89 rfl ?_
      obtain ⟨x3, ex3, hf⟩ := nm_of hf
      refine r_nm ex3 ?_
      refine r_icmp_ge 93 116 C dX12_needle_90 (by decide) rfl (fun c3 => ?_) (fun c3 => ?_)
      · have hf := ifT c3 hf
        refine r_sub [(0, .ref (ad 38)), (1, .int v1), (2, .int v2), (3, .int v3), (4, .int v4), (5, .int t0)] [0, 1, 2, 3, 4, 5] rfl ?_
        exact w_X12_needle_116 C hR E z30 hz30  v1 v2 v3 v4 t0      u hf
      · have hf := ifF c3 hf
        refine r_goto 112 C dX12_needle_93 (by decide) ?_
        refine r_sub [(0, .ref (ad 38)), (1, .int v1), (2, .int v2), (3, .int v3), (4, .int v4), (5, .int t0)] [0, 1, 2, 3, 4, 5] rfl ?_
        exact w_X12_needle_112 C hR E z30 hz30  v1 v2 v3 v4 t0      u hf
def f_X12_needle_30  : Nat → Int32 → Int32 → Int32 → Int32 → S2 → Option (Int32 × S2)
  | 0, _, _, _, _, _ => none
  | n + 1, v1, v2, v3, v4, u => (if (u 38 25) ≤ v4 then f_X12_needle_142   v3 u else ck (inb v4 24) (nm (u 57 (Int32.toNatClampNeg v4)) (fun x0 => nm (((x0 + (2250 : Int32)) / (4500 : Int32)) - ((x0 + (2250 : Int32)) / (4500 : Int32)) / (8 : Int32) * (8 : Int32)) (fun x1 => (if x1 = v1 then f_X12_needle_66 (fun v1 v2 v3 v4 u => f_X12_needle_30  n v1 v2 v3 v4 u)  v1 v2 v3 v4 (1 : Int32) u else f_X12_needle_66 (fun v1 v2 v3 v4 u => f_X12_needle_30  n v1 v2 v3 v4 u)  v1 v2 v3 v4 (0 : Int32) u)))))
theorem f_X12_needle_30_e  (n : Nat) (v1 : Int32) (v2 : Int32) (v3 : Int32) (v4 : Int32) (u : S2) : f_X12_needle_30  (n + 1) v1 v2 v3 v4 u = (if (u 38 25) ≤ v4 then f_X12_needle_142   v3 u else ck (inb v4 24) (nm (u 57 (Int32.toNatClampNeg v4)) (fun x0 => nm (((x0 + (2250 : Int32)) / (4500 : Int32)) - ((x0 + (2250 : Int32)) / (4500 : Int32)) / (8 : Int32) * (8 : Int32)) (fun x1 => (if x1 = v1 then f_X12_needle_66 (fun v1 v2 v3 v4 u => f_X12_needle_30  n v1 v2 v3 v4 u)  v1 v2 v3 v4 (1 : Int32) u else f_X12_needle_66 (fun v1 v2 v3 v4 u => f_X12_needle_30  n v1 v2 v3 v4 u)  v1 v2 v3 v4 (0 : Int32) u))))) := rfl
set_option maxRecDepth 20000 in
theorem w_X12_needle_30 {K : Ctx} {ad : Nat → Nat} (C : Cx K ad cX12_needle 7 yX12_needle.cls (some .int)) (hR : Rm K 1 25) {r : Int32} {w : S2} (E : EI K ad r w)  : ∀ (n : Nat) (v1 : Int32) (v2 : Int32) (v3 : Int32) (v4 : Int32)     (u : S2) (hf : f_X12_needle_30  n v1 v2 v3 v4 u = some (r, w)), RW K ad 7 30 [(0, .ref (ad 38)), (1, .int v1), (2, .int v2), (3, .int v3), (4, .int v4)] [] u := by
  intro n
  induction n with
  | zero => intro v1 v2 v3 v4     u hf; cases hf
  | succ n ih =>
    intro v1 v2 v3 v4     u hf
    rw [f_X12_needle_30_e] at hf
    refine r_iload 32 4 C dX12_needle_30 rfl rfl ?_
    refine r_aload_n 33 0 C dX12_needle_32 rfl rfl rfl ?_
    refine r_get 36 38 25 C inX12 (wd_38 ad u) rfl (by decide) tw_853 rfl rfl dX12_needle_33 rfl ?_
    refine r_icmp_ge 39 142 C dX12_needle_36 (by decide) rfl (fun c0 => ?_) (fun c0 => ?_)
    · have hf := ifT c0 hf
      refine r_sub [(0, .ref (ad 38)), (3, .int v3)] [0, 3] rfl ?_
      exact w_X12_needle_142 C hR E   v3  u hf
    · have hf := ifF c0 hf
      refine r_aload_n 40 0 C dX12_needle_39 rfl rfl rfl ?_
      refine r_get 43 38 23 C inX12 (wd_38 ad u) rfl (by decide) tw_851 rfl rfl dX12_needle_40 rfl ?_
      refine r_iload 45 4 C dX12_needle_43 rfl rfl ?_
      obtain ⟨hc0, hf⟩ := ck_of hf
      refine r_iaload 46 57 24 C (wd_57 ad u) hc0 dX12_needle_45 rfl ?_
      obtain ⟨x0, ex0, hf⟩ := nm_of hf
      refine r_nm ex0 ?_
      refine r_sipush (v := 2250) 49 C dX12_needle_46 (by decide) rfl ?_
      refine r_iadd 50 C dX12_needle_49 rfl ?_
      refine r_sipush (v := 4500) 53 C dX12_needle_50 (by decide) rfl ?_
      refine r_idiv 54 C dX12_needle_53 (by decide) rfl ?_
      refine r_bipush (v := 8) 56 C dX12_needle_54 (by decide) rfl ?_
      refine r_irem 57 C dX12_needle_56 (by decide) rfl ?_
      obtain ⟨x1, ex1, hf⟩ := nm_of hf
      refine r_nm ex1 ?_
      refine r_iload_n 58 1 C dX12_needle_57 rfl rfl rfl ?_
      refine r_icmp_ne 61 65 C dX12_needle_58 (by decide) rfl (fun c1 => ?_) (fun c1 => ?_)
      · have hf := ifF c1 hf
        refine r_iconst (v := 0) 66 C dX12_needle_65 (by decide) rfl ?_
        refine r_sub [(0, .ref (ad 38)), (1, .int v1), (2, .int v2), (3, .int v3), (4, .int v4)] [0, 1, 2, 3, 4] rfl ?_
        exact w_X12_needle_66 C hR E (fun v1 v2 v3 v4 u => f_X12_needle_30  n v1 v2 v3 v4 u) (fun v1 v2 v3 v4     u h => ih v1 v2 v3 v4     u h)  v1 v2 v3 v4 (0 : Int32)      u hf
      · have hf := ifT c1 hf
        refine r_iconst (v := 1) 62 C dX12_needle_61 (by decide) rfl ?_
        refine r_goto 66 C dX12_needle_62 (by decide) ?_
        refine r_sub [(0, .ref (ad 38)), (1, .int v1), (2, .int v2), (3, .int v3), (4, .int v4)] [0, 1, 2, 3, 4] rfl ?_
        exact w_X12_needle_66 C hR E (fun v1 v2 v3 v4 u => f_X12_needle_30  n v1 v2 v3 v4 u) (fun v1 v2 v3 v4     u h => ih v1 v2 v3 v4     u h)  v1 v2 v3 v4 (1 : Int32)      u hf
def f_X12_needle (v1 : Int32) (v2 : Int32) (u : S2) : Option (Int32 × S2) := bd (f_X12_in ((Int32.toInt64 v1)) ((0 : Int64)) ((7 : Int64)) u) (fun r0 u0 => (if r0 = 0 then some ((-3 : Int32), u0) else bd (f_X12_in ((Int32.toInt64 v2)) ((0 : Int64)) ((1 : Int64)) u0) (fun r1 u1 => (if r1 = 0 then some ((-3 : Int32), u1) else f_X12_needle_30  FUEL v1 v2 (-1 : Int32) (0 : Int32) u1))))
set_option maxRecDepth 20000 in
theorem c_X12_needle (ad : Nat → Nat) (v1 : Int32) (v2 : Int32)   (u : S2) (r : Int32) (w : S2) (hf : f_X12_needle v1 v2 u = some (r, w)) : HI yX12_needle cX12_needle 7 (some .int) 1 25 ad [.ref (ad 38), .int v1, .int v2] u r w := by
  refine HI_of (by decide) (Nat.le_of_ble_eq_true rfl) (fun K C hR E => ?_)
  refine r_sub [(0, .ref (ad 38)), (1, .int v1), (2, .int v2)] [0, 1, 2] rfl ?_
  unfold f_X12_needle at hf
  refine r_iload_n 1 1 C dX12_needle_0 rfl rfl rfl ?_
  refine r_i2l 2 C dX12_needle_1 rfl ?_
  refine r_lconst (v := 0) 3 C dX12_needle_2 (by decide) rfl ?_
  refine r_ldc2 (v := 7) 6 C tw_1008 dX12_needle_3 rfl ?_
  obtain ⟨r0, u0, h0, hf⟩ := bd_of hf
  refine r_cSI 9 [.long (Int32.toInt64 v1), .long (0 : Int64), .long (7 : Int64)] C hR (c_X12_in ad ((Int32.toInt64 v1)) ((0 : Int64)) ((7 : Int64))    u r0 u0 h0) q_X12_in tw_945 tw_946 (Nat.le_of_ble_eq_true rfl) (Nat.le_of_ble_eq_true rfl) rfl rfl (Nat.le_of_ble_eq_true rfl) dX12_needle_6 rfl ?_
  refine r_if_eq 12 22 C dX12_needle_9 (by decide) rfl (fun c0 => ?_) (fun c0 => ?_)
  · have hf := ifT c0 hf
    refine r_bipush (v := -3) 24 C dX12_needle_22 (by decide) rfl ?_
    exact r_iret C E (pr1 hf) (pr2 hf) dX12_needle_24
  · have hf := ifF c0 hf
    refine r_iload_n 13 2 C dX12_needle_12 rfl rfl rfl ?_
    refine r_i2l 14 C dX12_needle_13 rfl ?_
    refine r_lconst (v := 0) 15 C dX12_needle_14 (by decide) rfl ?_
    refine r_lconst (v := 1) 16 C dX12_needle_15 (by decide) rfl ?_
    obtain ⟨r1, u1, h1, hf⟩ := bd_of hf
    refine r_cSI 19 [.long (Int32.toInt64 v2), .long (0 : Int64), .long (1 : Int64)] C hR (c_X12_in ad ((Int32.toInt64 v2)) ((0 : Int64)) ((1 : Int64))    u0 r1 u1 h1) q_X12_in tw_945 tw_946 (Nat.le_of_ble_eq_true rfl) (Nat.le_of_ble_eq_true rfl) rfl rfl (Nat.le_of_ble_eq_true rfl) dX12_needle_16 rfl ?_
    refine r_if_ne 22 25 C dX12_needle_19 (by decide) rfl (fun c1 => ?_) (fun c1 => ?_)
    · have hf := ifF c1 hf
      refine r_iconst (v := -1) 26 C dX12_needle_25 (by decide) rfl ?_
      refine r_istore_n 27 [(0, .ref (ad 38)), (1, .int v1), (2, .int v2), (3, .int (-1 : Int32))] [1, 2, 3, 0] C dX12_needle_26 rfl (by decide) rfl rfl ?_
      refine r_iconst (v := 0) 28 C dX12_needle_27 (by decide) rfl ?_
      refine r_istore 30 [(0, .ref (ad 38)), (1, .int v1), (2, .int v2), (3, .int (-1 : Int32)), (4, .int (0 : Int32))] [1, 2, 3, 4, 0] C dX12_needle_28 (by decide) rfl rfl ?_
      refine r_sub [(0, .ref (ad 38)), (1, .int v1), (2, .int v2), (3, .int (-1 : Int32)), (4, .int (0 : Int32))] [0, 1, 2, 3, 4] rfl ?_
      exact w_X12_needle_30 C hR E  FUEL v1 v2 (-1 : Int32) (0 : Int32)     u1 hf
    · have hf := ifT c1 hf
      refine r_bipush (v := -3) 24 C dX12_needle_22 (by decide) rfl ?_
      exact r_iret C E (pr1 hf) (pr2 hf) dX12_needle_24
def f_X12_watch (v1 : Int32) (v2 : Int32) (u : S2) : Option (Int32 × S2) := bd (f_X12_in ((Int32.toInt64 v1)) ((0 : Int64)) ((60 : Int64)) u) (fun r0 u0 => (if r0 = 0 then some ((-3 : Int32), u0) else bd (f_X12_isOff v2 u0) (fun r1 u1 => (if r1 = 0 then some ((-3 : Int32), u1) else (if (u1 38 28) = (10 : Int32) then some ((-5 : Int32), u1) else ck (inb (u1 38 28) 10) (nm (wr u1 59 (Int32.toNatClampNeg (u1 38 28)) v1) (fun u2 => ck (inb (u2 38 28) 10) (nm (wr u2 60 (Int32.toNatClampNeg (u2 38 28)) v2) (fun u3 => nm ((u3 38 28) + (1 : Int32)) (fun x0 => nm (wr u3 38 28 x0) (fun u4 => some (u4 38 28, u4))))))))))))
set_option maxRecDepth 20000 in
theorem c_X12_watch (ad : Nat → Nat) (v1 : Int32) (v2 : Int32)   (u : S2) (r : Int32) (w : S2) (hf : f_X12_watch v1 v2 u = some (r, w)) : HI yX12_watch cX12_watch 3 (some .int) 2 45 ad [.ref (ad 38), .int v1, .int v2] u r w := by
  refine HI_of (by decide) (Nat.le_of_ble_eq_true rfl) (fun K C hR E => ?_)
  refine r_sub [(0, .ref (ad 38)), (1, .int v1), (2, .int v2)] [0, 1, 2] rfl ?_
  unfold f_X12_watch at hf
  refine r_iload_n 1 1 C dX12_watch_0 rfl rfl rfl ?_
  refine r_i2l 2 C dX12_watch_1 rfl ?_
  refine r_lconst (v := 0) 3 C dX12_watch_2 (by decide) rfl ?_
  refine r_ldc2 (v := 60) 6 C tw_1201 dX12_watch_3 rfl ?_
  obtain ⟨r0, u0, h0, hf⟩ := bd_of hf
  refine r_cSI 9 [.long (Int32.toInt64 v1), .long (0 : Int64), .long (60 : Int64)] C hR (c_X12_in ad ((Int32.toInt64 v1)) ((0 : Int64)) ((60 : Int64))    u r0 u0 h0) q_X12_in tw_945 tw_946 (Nat.le_of_ble_eq_true rfl) (Nat.le_of_ble_eq_true rfl) rfl rfl (Nat.le_of_ble_eq_true rfl) dX12_watch_6 rfl ?_
  refine r_if_eq 12 19 C dX12_watch_9 (by decide) rfl (fun c0 => ?_) (fun c0 => ?_)
  · have hf := ifT c0 hf
    refine r_bipush (v := -3) 21 C dX12_watch_19 (by decide) rfl ?_
    exact r_iret C E (pr1 hf) (pr2 hf) dX12_watch_21
  · have hf := ifF c0 hf
    refine r_iload_n 13 2 C dX12_watch_12 rfl rfl rfl ?_
    obtain ⟨r1, u1, h1, hf⟩ := bd_of hf
    refine r_cSI 16 [.int v2] C hR (c_X12_isOff ad v2  u0 r1 u1 h1) q_X12_isOff tw_989 tw_990 (Nat.le_of_ble_eq_true rfl) (Nat.le_of_ble_eq_true rfl) rfl rfl (Nat.le_of_ble_eq_true rfl) dX12_watch_13 rfl ?_
    refine r_if_ne 19 22 C dX12_watch_16 (by decide) rfl (fun c1 => ?_) (fun c1 => ?_)
    · have hf := ifF c1 hf
      refine r_aload_n 23 0 C dX12_watch_22 rfl rfl rfl ?_
      refine r_get 26 38 28 C inX12 (wd_38 ad u1) rfl (by decide) tw_856 rfl rfl dX12_watch_23 rfl ?_
      refine r_bipush (v := 10) 28 C dX12_watch_26 (by decide) rfl ?_
      refine r_icmp_ne 31 34 C dX12_watch_28 (by decide) rfl (fun c2 => ?_) (fun c2 => ?_)
      · have hf := ifF c2 hf
        refine r_aload_n 35 0 C dX12_watch_34 rfl rfl rfl ?_
        refine r_get 38 38 26 C inX12 (wd_38 ad u1) rfl (by decide) tw_854 rfl rfl dX12_watch_35 rfl ?_
        refine r_aload_n 39 0 C dX12_watch_38 rfl rfl rfl ?_
        refine r_get 42 38 28 C inX12 (wd_38 ad u1) rfl (by decide) tw_856 rfl rfl dX12_watch_39 rfl ?_
        refine r_iload_n 43 1 C dX12_watch_42 rfl rfl rfl ?_
        obtain ⟨hc0, hf⟩ := ck_of hf
        refine r_iastore 44 59 10 C (wd_59 ad u1) (sA_59 ad u1) hc0 dX12_watch_43 rfl ?_
        obtain ⟨u2, eu2, hf⟩ := nm_of hf
        refine r_st eu2 ?_
        refine r_aload_n 45 0 C dX12_watch_44 rfl rfl rfl ?_
        refine r_get 48 38 27 C inX12 (wd_38 ad u2) rfl (by decide) tw_855 rfl rfl dX12_watch_45 rfl ?_
        refine r_aload_n 49 0 C dX12_watch_48 rfl rfl rfl ?_
        refine r_get 52 38 28 C inX12 (wd_38 ad u2) rfl (by decide) tw_856 rfl rfl dX12_watch_49 rfl ?_
        refine r_iload_n 53 2 C dX12_watch_52 rfl rfl rfl ?_
        obtain ⟨hc1, hf⟩ := ck_of hf
        refine r_iastore 54 60 10 C (wd_60 ad u2) (sA_60 ad u2) hc1 dX12_watch_53 rfl ?_
        obtain ⟨u3, eu3, hf⟩ := nm_of hf
        refine r_st eu3 ?_
        refine r_aload_n 55 0 C dX12_watch_54 rfl rfl rfl ?_
        refine r_dup 56 C dX12_watch_55 rfl rfl ?_
        refine r_get 59 38 28 C inX12 (wd_38 ad u3) rfl (by decide) tw_856 rfl rfl dX12_watch_56 rfl ?_
        refine r_iconst (v := 1) 60 C dX12_watch_59 (by decide) rfl ?_
        refine r_iadd 61 C dX12_watch_60 rfl ?_
        obtain ⟨x0, ex0, hf⟩ := nm_of hf
        refine r_nm ex0 ?_
        refine r_put 64 38 28 C inX12 tyX12_ok nmX12 (wd_38 ad u3) (sF_38_28 ad u3 x0) rfl (by decide) tw_856 rfl rfl (tyX12_ok 28 (by decide)) rfl rfl (Nat.le_of_ble_eq_true rfl) dX12_watch_61 rfl ?_
        obtain ⟨u4, eu4, hf⟩ := nm_of hf
        refine r_st eu4 ?_
        refine r_aload_n 65 0 C dX12_watch_64 rfl rfl rfl ?_
        refine r_get 68 38 28 C inX12 (wd_38 ad u4) rfl (by decide) tw_856 rfl rfl dX12_watch_65 rfl ?_
        exact r_iret C E (pr1 hf) (pr2 hf) dX12_watch_68
      · have hf := ifT c2 hf
        refine r_bipush (v := -5) 33 C dX12_watch_31 (by decide) rfl ?_
        exact r_iret C E (pr1 hf) (pr2 hf) dX12_watch_33
    · have hf := ifT c1 hf
      refine r_bipush (v := -3) 21 C dX12_watch_19 (by decide) rfl ?_
      exact r_iret C E (pr1 hf) (pr2 hf) dX12_watch_21
def f_X12_mayBe_68 (z19 : Int32 → Int32 → Int32 → S2 → Option (Int32 × S2)) (v3 : Int32) (v5 : Int32) (t0 : Int32) (u : S2) : Option (Int32 × S2) := nm (v5 + (1 : Int32)) (fun x0 => z19 v3 t0 x0 u)
set_option maxRecDepth 20000 in
theorem w_X12_mayBe_68 {K : Ctx} {ad : Nat → Nat} (C : Cx K ad cX12_mayBe 6 yX12_mayBe.cls (some .boolean)) (hR : Rm K 4 91) {r : Int32} {w : S2} (E : EI K ad r w) (z19 : Int32 → Int32 → Int32 → S2 → Option (Int32 × S2)) (hz19 : ∀ (v3 : Int32) (v4 : Int32) (v5 : Int32)    (u : S2), z19 v3 v4 v5 u = some (r, w) → RW K ad 6 19 [(0, .ref (ad 38)), (3, .int v3), (4, .int v4), (5, .int v5)] [] u) (v3 : Int32) (v5 : Int32) (t0 : Int32)    (u : S2) (hf : f_X12_mayBe_68 z19 v3 v5 t0 u = some (r, w)) : RW K ad 6 68 [(0, .ref (ad 38)), (3, .int v3), (5, .int v5)] [.int t0] u := by
  unfold f_X12_mayBe_68 at hf
  refine r_istore 70 [(0, .ref (ad 38)), (3, .int v3), (4, .int t0), (5, .int v5)] [1, 2, 0, 3] C dX12_mayBe_68 (by decide) rfl rfl ?_
  obtain ⟨x0, ex0, hf⟩ := nm_of hf
  refine r_iinc (v := x0) 73 3 [(0, .ref (ad 38)), (3, .int v3), (4, .int t0), (5, .int x0)] [1, 2, 3, 0] C dX12_mayBe_70 rfl (by rw [ex0]; rfl) (by decide) rfl rfl ?_
  refine r_goto 19 C dX12_mayBe_73 (by decide) ?_
  refine r_sub [(0, .ref (ad 38)), (3, .int v3), (4, .int t0), (5, .int x0)] [0, 1, 2, 3] rfl ?_
  exact hz19 v3 t0 x0    u hf
def f_X12_mayBe_67 (z19 : Int32 → Int32 → Int32 → S2 → Option (Int32 × S2)) (v3 : Int32) (v5 : Int32) (u : S2) : Option (Int32 × S2) := f_X12_mayBe_68 z19  v3 v5 (0 : Int32) u
set_option maxRecDepth 20000 in
theorem w_X12_mayBe_67 {K : Ctx} {ad : Nat → Nat} (C : Cx K ad cX12_mayBe 6 yX12_mayBe.cls (some .boolean)) (hR : Rm K 4 91) {r : Int32} {w : S2} (E : EI K ad r w) (z19 : Int32 → Int32 → Int32 → S2 → Option (Int32 × S2)) (hz19 : ∀ (v3 : Int32) (v4 : Int32) (v5 : Int32)    (u : S2), z19 v3 v4 v5 u = some (r, w) → RW K ad 6 19 [(0, .ref (ad 38)), (3, .int v3), (4, .int v4), (5, .int v5)] [] u) (v3 : Int32) (v5 : Int32)   (u : S2) (hf : f_X12_mayBe_67 z19 v3 v5 u = some (r, w)) : RW K ad 6 67 [(0, .ref (ad 38)), (3, .int v3), (5, .int v5)] [] u := by
  unfold f_X12_mayBe_67 at hf
  refine r_iconst (v := 0) 68 C dX12_mayBe_67 (by decide) rfl ?_
  refine r_sub [(0, .ref (ad 38)), (3, .int v3), (5, .int v5)] [0, 1, 2] rfl ?_
  exact w_X12_mayBe_68 C hR E z19 hz19  v3 v5 (0 : Int32)    u hf
def f_X12_mayBe_19  : Nat → Int32 → Int32 → Int32 → S2 → Option (Int32 × S2)
  | 0, _, _, _, _ => none
  | n + 1, v3, v4, v5, u => (if (u 38 28) ≤ v5 then ck (isB v4) (some (v4, u)) else (if v4 = 0 then f_X12_mayBe_67 (fun v3 v4 v5 u => f_X12_mayBe_19  n v3 v4 v5 u)  v3 v5 u else ck (inb v5 10) (nm (u 59 (Int32.toNatClampNeg v5)) (fun x0 => ck (inb x0 601) (nm (u 61 (Int32.toNatClampNeg x0)) (fun x1 => ck (inb v5 10) (nm (u 60 (Int32.toNatClampNeg v5)) (fun x2 => bd (f_X12_wrapped (x1 - x2) u) (fun r0 u0 => bd (f_X12_size r0 u0) (fun r1 u1 => (if v3 < r1 then f_X12_mayBe_67 (fun v3 v4 v5 u => f_X12_mayBe_19  n v3 v4 v5 u)  v3 v5 u1 else f_X12_mayBe_68 (fun v3 v4 v5 u => f_X12_mayBe_19  n v3 v4 v5 u)  v3 v5 (1 : Int32) u1)))))))))))
theorem f_X12_mayBe_19_e  (n : Nat) (v3 : Int32) (v4 : Int32) (v5 : Int32) (u : S2) : f_X12_mayBe_19  (n + 1) v3 v4 v5 u = (if (u 38 28) ≤ v5 then ck (isB v4) (some (v4, u)) else (if v4 = 0 then f_X12_mayBe_67 (fun v3 v4 v5 u => f_X12_mayBe_19  n v3 v4 v5 u)  v3 v5 u else ck (inb v5 10) (nm (u 59 (Int32.toNatClampNeg v5)) (fun x0 => ck (inb x0 601) (nm (u 61 (Int32.toNatClampNeg x0)) (fun x1 => ck (inb v5 10) (nm (u 60 (Int32.toNatClampNeg v5)) (fun x2 => bd (f_X12_wrapped (x1 - x2) u) (fun r0 u0 => bd (f_X12_size r0 u0) (fun r1 u1 => (if v3 < r1 then f_X12_mayBe_67 (fun v3 v4 v5 u => f_X12_mayBe_19  n v3 v4 v5 u)  v3 v5 u1 else f_X12_mayBe_68 (fun v3 v4 v5 u => f_X12_mayBe_19  n v3 v4 v5 u)  v3 v5 (1 : Int32) u1))))))))))) := rfl
set_option maxRecDepth 20000 in
theorem w_X12_mayBe_19 {K : Ctx} {ad : Nat → Nat} (C : Cx K ad cX12_mayBe 6 yX12_mayBe.cls (some .boolean)) (hR : Rm K 4 91) {r : Int32} {w : S2} (E : EI K ad r w)  : ∀ (n : Nat) (v3 : Int32) (v4 : Int32) (v5 : Int32)    (u : S2) (hf : f_X12_mayBe_19  n v3 v4 v5 u = some (r, w)), RW K ad 6 19 [(0, .ref (ad 38)), (3, .int v3), (4, .int v4), (5, .int v5)] [] u := by
  intro n
  induction n with
  | zero => intro v3 v4 v5    u hf; cases hf
  | succ n ih =>
    intro v3 v4 v5    u hf
    rw [f_X12_mayBe_19_e] at hf
    refine r_iload 21 3 C dX12_mayBe_19 rfl rfl ?_
    refine r_aload_n 22 0 C dX12_mayBe_21 rfl rfl rfl ?_
    refine r_get 25 38 28 C inX12 (wd_38 ad u) rfl (by decide) tw_856 rfl rfl dX12_mayBe_22 rfl ?_
    refine r_icmp_ge 28 76 C dX12_mayBe_25 (by decide) rfl (fun c0 => ?_) (fun c0 => ?_)
    · have hf := ifT c0 hf
      refine r_iload 78 2 C dX12_mayBe_76 rfl rfl ?_
      obtain ⟨hc0, hf⟩ := ck_of hf
      exact r_zret C E (isB_nar hc0) (pr1 hf) (pr2 hf) dX12_mayBe_78
    · have hf := ifF c0 hf
      refine r_iload 30 2 C dX12_mayBe_28 rfl rfl ?_
      refine r_if_eq 33 67 C dX12_mayBe_30 (by decide) rfl (fun c1 => ?_) (fun c1 => ?_)
      · have hf := ifT c1 hf
        refine r_sub [(0, .ref (ad 38)), (3, .int v3), (5, .int v5)] [0, 1, 3] rfl ?_
        exact w_X12_mayBe_67 C hR E (fun v3 v4 v5 u => f_X12_mayBe_19  n v3 v4 v5 u) (fun v3 v4 v5    u h => ih v3 v4 v5    u h)  v3 v5   u hf
      · have hf := ifF c1 hf
        refine r_aload_n 34 0 C dX12_mayBe_33 rfl rfl rfl ?_
        refine r_get 37 38 32 C inX12 (wd_38 ad u) rfl (by decide) tw_860 rfl rfl dX12_mayBe_34 rfl ?_
        refine r_aload_n 38 0 C dX12_mayBe_37 rfl rfl rfl ?_
        refine r_get 41 38 26 C inX12 (wd_38 ad u) rfl (by decide) tw_854 rfl rfl dX12_mayBe_38 rfl ?_
        refine r_iload 43 3 C dX12_mayBe_41 rfl rfl ?_
        obtain ⟨hc1, hf⟩ := ck_of hf
        refine r_iaload 44 59 10 C (wd_59 ad u) hc1 dX12_mayBe_43 rfl ?_
        obtain ⟨x0, ex0, hf⟩ := nm_of hf
        refine r_nm ex0 ?_
        obtain ⟨hc2, hf⟩ := ck_of hf
        refine r_iaload 45 61 601 C (wd_61 ad u) hc2 dX12_mayBe_44 rfl ?_
        obtain ⟨x1, ex1, hf⟩ := nm_of hf
        refine r_nm ex1 ?_
        refine r_aload_n 46 0 C dX12_mayBe_45 rfl rfl rfl ?_
        refine r_get 49 38 27 C inX12 (wd_38 ad u) rfl (by decide) tw_855 rfl rfl dX12_mayBe_46 rfl ?_
        refine r_iload 51 3 C dX12_mayBe_49 rfl rfl ?_
        obtain ⟨hc3, hf⟩ := ck_of hf
        refine r_iaload 52 60 10 C (wd_60 ad u) hc3 dX12_mayBe_51 rfl ?_
        obtain ⟨x2, ex2, hf⟩ := nm_of hf
        refine r_nm ex2 ?_
        refine r_isub 53 C dX12_mayBe_52 rfl ?_
        obtain ⟨r0, u0, h0, hf⟩ := bd_of hf
        refine r_cSI 56 [.int (x1 - x2)] C hR (c_X12_wrapped ad (x1 - x2)  u r0 u0 h0) q_X12_wrapped tw_1059 tw_1060 (Nat.le_of_ble_eq_true rfl) (Nat.le_of_ble_eq_true rfl) rfl rfl (Nat.le_of_ble_eq_true rfl) dX12_mayBe_53 rfl ?_
        obtain ⟨r1, u1, h1, hf⟩ := bd_of hf
        refine r_cSI 59 [.int r0] C hR (c_X12_size ad r0  u0 r1 u1 h1) q_X12_size tw_1033 tw_1034 (Nat.le_of_ble_eq_true rfl) (Nat.le_of_ble_eq_true rfl) rfl rfl (Nat.le_of_ble_eq_true rfl) dX12_mayBe_56 rfl ?_
        refine r_iload_n 60 1 C dX12_mayBe_59 rfl rfl rfl ?_
        refine r_icmp_gt 63 67 C dX12_mayBe_60 (by decide) rfl (fun c2 => ?_) (fun c2 => ?_)
        · have hf := ifT c2 hf
          refine r_sub [(0, .ref (ad 38)), (3, .int v3), (5, .int v5)] [0, 1, 3] rfl ?_
          exact w_X12_mayBe_67 C hR E (fun v3 v4 v5 u => f_X12_mayBe_19  n v3 v4 v5 u) (fun v3 v4 v5    u h => ih v3 v4 v5    u h)  v3 v5   u1 hf
        · have hf := ifF c2 hf
          refine r_iconst (v := 1) 64 C dX12_mayBe_63 (by decide) rfl ?_
          refine r_goto 68 C dX12_mayBe_64 (by decide) ?_
          refine r_sub [(0, .ref (ad 38)), (3, .int v3), (5, .int v5)] [0, 1, 3] rfl ?_
          exact w_X12_mayBe_68 C hR E (fun v3 v4 v5 u => f_X12_mayBe_19  n v3 v4 v5 u) (fun v3 v4 v5    u h => ih v3 v4 v5    u h)  v3 v5 (1 : Int32)    u1 hf
def f_X12_mayBe (v1 : Int32) (v2 : Int32) (v3 : Int32) (u : S2) : Option (Int32 × S2) := bv (f_X12_laySwing v1 v2 (1 : Int32) (0 : Int32) (3000 : Int32) (60 : Int32) u) (fun u0 => f_X12_mayBe_19  FUEL v3 (1 : Int32) (0 : Int32) u0)
set_option maxRecDepth 20000 in
theorem c_X12_mayBe (ad : Nat → Nat) (v1 : Int32) (v2 : Int32) (v3 : Int32)    (u : S2) (r : Int32) (w : S2) (hf : f_X12_mayBe v1 v2 v3 u = some (r, w)) : HI yX12_mayBe cX12_mayBe 6 (some .boolean) 4 91 ad [.ref (ad 38), .int v1, .int v2, .int v3] u r w := by
  refine HI_of (by decide) (Nat.le_of_ble_eq_true rfl) (fun K C hR E => ?_)
  refine r_sub [(0, .ref (ad 38)), (1, .int v1), (2, .int v2), (3, .int v3)] [0, 1, 2, 3] rfl ?_
  unfold f_X12_mayBe at hf
  refine r_aload_n 1 0 C dX12_mayBe_0 rfl rfl rfl ?_
  refine r_iload_n 2 1 C dX12_mayBe_1 rfl rfl rfl ?_
  refine r_iload_n 3 2 C dX12_mayBe_2 rfl rfl rfl ?_
  refine r_iconst (v := 1) 4 C dX12_mayBe_3 (by decide) rfl ?_
  refine r_iconst (v := 0) 5 C dX12_mayBe_4 (by decide) rfl ?_
  refine r_sipush (v := 3000) 8 C dX12_mayBe_5 (by decide) rfl ?_
  refine r_bipush (v := 60) 10 C dX12_mayBe_8 (by decide) rfl ?_
  obtain ⟨u0, h0, hf⟩ := bv_of hf
  refine r_cVV 13 [.int v1, .int v2, .int (1 : Int32), .int (0 : Int32), .int (3000 : Int32), .int (60 : Int32)] C hR (c_X12_laySwing ad v1 v2 (1 : Int32) (0 : Int32) (3000 : Int32) (60 : Int32)        u u0 h0) q_X12_laySwing tw_1131 (wd_38 ad u) rfl rfl tw_1133 tp_50 (Nat.le_of_ble_eq_true rfl) (Nat.le_of_ble_eq_true rfl) rfl rfl (Nat.le_of_ble_eq_true rfl) dX12_mayBe_10 rfl ?_
  refine r_iconst (v := 1) 14 C dX12_mayBe_13 (by decide) rfl ?_
  refine r_istore 16 [(0, .ref (ad 38)), (1, .int v1), (2, .int v2), (3, .int v3), (4, .int (1 : Int32))] [1, 2, 3, 4, 0] C dX12_mayBe_14 (by decide) rfl rfl ?_
  refine r_iconst (v := 0) 17 C dX12_mayBe_16 (by decide) rfl ?_
  refine r_istore 19 [(0, .ref (ad 38)), (1, .int v1), (2, .int v2), (3, .int v3), (4, .int (1 : Int32)), (5, .int (0 : Int32))] [1, 2, 3, 4, 5, 0] C dX12_mayBe_17 (by decide) rfl rfl ?_
  refine r_sub [(0, .ref (ad 38)), (3, .int v3), (4, .int (1 : Int32)), (5, .int (0 : Int32))] [0, 3, 4, 5] rfl ?_
  exact w_X12_mayBe_19 C hR E  FUEL v3 (1 : Int32) (0 : Int32)    u0 hf
def f_X12_may_280 (z223 : Int32 → Int32 → Int32 → S2 → Option (Int32 × S2)) (v3 : Int32) (v6 : Int32) (t0 : Int32) (u : S2) : Option (Int32 × S2) := nm (v6 + (1 : Int32)) (fun x0 => z223 v3 t0 x0 u)
set_option maxRecDepth 20000 in
theorem w_X12_may_280 {K : Ctx} {ad : Nat → Nat} (C : Cx K ad cX12_may 7 yX12_may.cls (some .int)) (hR : Rm K 5 116) {r : Int32} {w : S2} (E : EI K ad r w) (z223 : Int32 → Int32 → Int32 → S2 → Option (Int32 × S2)) (hz223 : ∀ (v3 : Int32) (v5 : Int32) (v6 : Int32)    (u : S2), z223 v3 v5 v6 u = some (r, w) → RW K ad 7 223 [(0, .ref (ad 38)), (3, .int v3), (5, .int v5), (6, .int v6)] [] u) (v3 : Int32) (v6 : Int32) (t0 : Int32)    (u : S2) (hf : f_X12_may_280 z223 v3 v6 t0 u = some (r, w)) : RW K ad 7 280 [(0, .ref (ad 38)), (3, .int v3), (6, .int v6)] [.int t0] u := by
  unfold f_X12_may_280 at hf
  refine r_istore 282 [(0, .ref (ad 38)), (3, .int v3), (5, .int t0), (6, .int v6)] [1, 2, 0, 3] C dX12_may_280 (by decide) rfl rfl ?_
  obtain ⟨x0, ex0, hf⟩ := nm_of hf
  refine r_iinc (v := x0) 285 3 [(0, .ref (ad 38)), (3, .int v3), (5, .int t0), (6, .int x0)] [1, 2, 3, 0] C dX12_may_282 rfl (by rw [ex0]; rfl) (by decide) rfl rfl ?_
  refine r_goto 223 C dX12_may_285 (by decide) ?_
  refine r_sub [(0, .ref (ad 38)), (3, .int v3), (5, .int t0), (6, .int x0)] [0, 1, 2, 3] rfl ?_
  exact hz223 v3 t0 x0    u hf
def f_X12_may_273 (z223 : Int32 → Int32 → Int32 → S2 → Option (Int32 × S2)) (v3 : Int32) (v6 : Int32) (u : S2) : Option (Int32 × S2) := f_X12_may_280 z223  v3 v6 v6 u
set_option maxRecDepth 20000 in
theorem w_X12_may_273 {K : Ctx} {ad : Nat → Nat} (C : Cx K ad cX12_may 7 yX12_may.cls (some .int)) (hR : Rm K 5 116) {r : Int32} {w : S2} (E : EI K ad r w) (z223 : Int32 → Int32 → Int32 → S2 → Option (Int32 × S2)) (hz223 : ∀ (v3 : Int32) (v5 : Int32) (v6 : Int32)    (u : S2), z223 v3 v5 v6 u = some (r, w) → RW K ad 7 223 [(0, .ref (ad 38)), (3, .int v3), (5, .int v5), (6, .int v6)] [] u) (v3 : Int32) (v6 : Int32)   (u : S2) (hf : f_X12_may_273 z223 v3 v6 u = some (r, w)) : RW K ad 7 273 [(0, .ref (ad 38)), (3, .int v3), (6, .int v6)] [] u := by
  unfold f_X12_may_273 at hf
  refine r_iload 275 2 C dX12_may_273 rfl rfl ?_
  refine r_goto 280 C dX12_may_275 (by decide) ?_
  refine r_sub [(0, .ref (ad 38)), (3, .int v3), (6, .int v6)] [0, 1, 2] rfl ?_
  exact w_X12_may_280 C hR E z223 hz223  v3 v6 v6    u hf
def f_X12_may_223  : Nat → Int32 → Int32 → Int32 → S2 → Option (Int32 × S2)
  | 0, _, _, _, _ => none
  | n + 1, v3, v5, v6, u => (if (60 : Int32) < v6 then some (v5, u) else (if v3 ≤ 0 then some (v5, u) else (if v5 = (-1 : Int32) then f_X12_may_273 (fun v3 v5 v6 u => f_X12_may_223  n v3 v5 v6 u)  v3 v6 u else ck (inb v6 61) (nm (u 63 (Int32.toNatClampNeg v6)) (fun x0 => ck (inb v6 61) (nm (u 62 (Int32.toNatClampNeg v6)) (fun x1 => ck (inb v5 61) (nm (u 63 (Int32.toNatClampNeg v5)) (fun x2 => ck (inb v5 61) (nm (u 62 (Int32.toNatClampNeg v5)) (fun x3 => (if (x0 - x1) ≤ (x2 - x3) then f_X12_may_280 (fun v3 v5 v6 u => f_X12_may_223  n v3 v5 v6 u)  v3 v6 v5 u else f_X12_may_273 (fun v3 v5 v6 u => f_X12_may_223  n v3 v5 v6 u)  v3 v6 u))))))))))))
theorem f_X12_may_223_e  (n : Nat) (v3 : Int32) (v5 : Int32) (v6 : Int32) (u : S2) : f_X12_may_223  (n + 1) v3 v5 v6 u = (if (60 : Int32) < v6 then some (v5, u) else (if v3 ≤ 0 then some (v5, u) else (if v5 = (-1 : Int32) then f_X12_may_273 (fun v3 v5 v6 u => f_X12_may_223  n v3 v5 v6 u)  v3 v6 u else ck (inb v6 61) (nm (u 63 (Int32.toNatClampNeg v6)) (fun x0 => ck (inb v6 61) (nm (u 62 (Int32.toNatClampNeg v6)) (fun x1 => ck (inb v5 61) (nm (u 63 (Int32.toNatClampNeg v5)) (fun x2 => ck (inb v5 61) (nm (u 62 (Int32.toNatClampNeg v5)) (fun x3 => (if (x0 - x1) ≤ (x2 - x3) then f_X12_may_280 (fun v3 v5 v6 u => f_X12_may_223  n v3 v5 v6 u)  v3 v6 v5 u else f_X12_may_273 (fun v3 v5 v6 u => f_X12_may_223  n v3 v5 v6 u)  v3 v6 u)))))))))))) := rfl
set_option maxRecDepth 20000 in
theorem w_X12_may_223 {K : Ctx} {ad : Nat → Nat} (C : Cx K ad cX12_may 7 yX12_may.cls (some .int)) (hR : Rm K 5 116) {r : Int32} {w : S2} (E : EI K ad r w)  : ∀ (n : Nat) (v3 : Int32) (v5 : Int32) (v6 : Int32)    (u : S2) (hf : f_X12_may_223  n v3 v5 v6 u = some (r, w)), RW K ad 7 223 [(0, .ref (ad 38)), (3, .int v3), (5, .int v5), (6, .int v6)] [] u := by
  intro n
  induction n with
  | zero => intro v3 v5 v6    u hf; cases hf
  | succ n ih =>
    intro v3 v5 v6    u hf
    rw [f_X12_may_223_e] at hf
    refine r_iload 225 3 C dX12_may_223 rfl rfl ?_
    refine r_bipush (v := 60) 227 C dX12_may_225 (by decide) rfl ?_
    refine r_icmp_gt 230 288 C dX12_may_227 (by decide) rfl (fun c0 => ?_) (fun c0 => ?_)
    · have hf := ifT c0 hf
      refine r_iload 290 2 C dX12_may_288 rfl rfl ?_
      exact r_iret C E (pr1 hf) (pr2 hf) dX12_may_290
    · have hf := ifF c0 hf
      refine r_iload_n 231 1 C dX12_may_230 rfl rfl rfl ?_
      refine r_if_le 234 288 C dX12_may_231 (by decide) rfl (fun c1 => ?_) (fun c1 => ?_)
      · have hf := ifT c1 hf
        refine r_iload 290 2 C dX12_may_288 rfl rfl ?_
        exact r_iret C E (pr1 hf) (pr2 hf) dX12_may_290
      · have hf := ifF c1 hf
        refine r_iload 236 2 C dX12_may_234 rfl rfl ?_
        refine r_iconst (v := -1) 237 C dX12_may_236 (by decide) rfl ?_
        refine r_icmp_eq 240 273 C dX12_may_237 (by decide) rfl (fun c2 => ?_) (fun c2 => ?_)
        · have hf := ifT c2 hf
          refine r_sub [(0, .ref (ad 38)), (3, .int v3), (6, .int v6)] [0, 1, 3] rfl ?_
          exact w_X12_may_273 C hR E (fun v3 v5 v6 u => f_X12_may_223  n v3 v5 v6 u) (fun v3 v5 v6    u h => ih v3 v5 v6    u h)  v3 v6   u hf
        · have hf := ifF c2 hf
          refine r_aload_n 241 0 C dX12_may_240 rfl rfl rfl ?_
          refine r_get 244 38 36 C inX12 (wd_38 ad u) rfl (by decide) tw_864 rfl rfl dX12_may_241 rfl ?_
          refine r_iload 246 3 C dX12_may_244 rfl rfl ?_
          obtain ⟨hc0, hf⟩ := ck_of hf
          refine r_iaload 247 63 61 C (wd_63 ad u) hc0 dX12_may_246 rfl ?_
          obtain ⟨x0, ex0, hf⟩ := nm_of hf
          refine r_nm ex0 ?_
          refine r_aload_n 248 0 C dX12_may_247 rfl rfl rfl ?_
          refine r_get 251 38 35 C inX12 (wd_38 ad u) rfl (by decide) tw_863 rfl rfl dX12_may_248 rfl ?_
          refine r_iload 253 3 C dX12_may_251 rfl rfl ?_
          obtain ⟨hc1, hf⟩ := ck_of hf
          refine r_iaload 254 62 61 C (wd_62 ad u) hc1 dX12_may_253 rfl ?_
          obtain ⟨x1, ex1, hf⟩ := nm_of hf
          refine r_nm ex1 ?_
          refine r_isub 255 C dX12_may_254 rfl ?_
          refine r_aload_n 256 0 C dX12_may_255 rfl rfl rfl ?_
          refine r_get 259 38 36 C inX12 (wd_38 ad u) rfl (by decide) tw_864 rfl rfl dX12_may_256 rfl ?_
          refine r_iload 261 2 C dX12_may_259 rfl rfl ?_
          obtain ⟨hc2, hf⟩ := ck_of hf
          refine r_iaload 262 63 61 C (wd_63 ad u) hc2 dX12_may_261 rfl ?_
          obtain ⟨x2, ex2, hf⟩ := nm_of hf
          refine r_nm ex2 ?_
          refine r_aload_n 263 0 C dX12_may_262 rfl rfl rfl ?_
          refine r_get 266 38 35 C inX12 (wd_38 ad u) rfl (by decide) tw_863 rfl rfl dX12_may_263 rfl ?_
          refine r_iload 268 2 C dX12_may_266 rfl rfl ?_
          obtain ⟨hc3, hf⟩ := ck_of hf
          refine r_iaload 269 62 61 C (wd_62 ad u) hc3 dX12_may_268 rfl ?_
          obtain ⟨x3, ex3, hf⟩ := nm_of hf
          refine r_nm ex3 ?_
          refine r_isub 270 C dX12_may_269 rfl ?_
          refine r_icmp_le 273 278 C dX12_may_270 (by decide) rfl (fun c3 => ?_) (fun c3 => ?_)
          · have hf := ifT c3 hf
            refine r_iload 280 2 C dX12_may_278 rfl rfl ?_
            refine r_sub [(0, .ref (ad 38)), (3, .int v3), (6, .int v6)] [0, 1, 3] rfl ?_
            exact w_X12_may_280 C hR E (fun v3 v5 v6 u => f_X12_may_223  n v3 v5 v6 u) (fun v3 v5 v6    u h => ih v3 v5 v6    u h)  v3 v6 v5    u hf
          · have hf := ifF c3 hf
            refine r_sub [(0, .ref (ad 38)), (3, .int v3), (6, .int v6)] [0, 1, 3] rfl ?_
            exact w_X12_may_273 C hR E (fun v3 v5 v6 u => f_X12_may_223  n v3 v5 v6 u) (fun v3 v5 v6    u h => ih v3 v5 v6    u h)  v3 v6   u hf
def f_X12_may_201  (v2 : Int32) (v3 : Int32) (v4 : Int32) (u : S2) : Option (Int32 × S2) := (if (2 : Int32) ≤ v2 then f_X12_may_223  FUEL v3 (-1 : Int32) (0 : Int32) u else (if v2 = 0 then some (v3, u) else some (v4, u)))
set_option maxRecDepth 20000 in
theorem w_X12_may_201 {K : Ctx} {ad : Nat → Nat} (C : Cx K ad cX12_may 7 yX12_may.cls (some .int)) (hR : Rm K 5 116) {r : Int32} {w : S2} (E : EI K ad r w)  (v2 : Int32) (v3 : Int32) (v4 : Int32)    (u : S2) (hf : f_X12_may_201  v2 v3 v4 u = some (r, w)) : RW K ad 7 201 [(0, .ref (ad 38)), (2, .int v2), (3, .int v3), (4, .int v4)] [] u := by
  unfold f_X12_may_201 at hf
  refine r_iload_n 202 1 C dX12_may_201 rfl rfl rfl ?_
  refine r_iconst (v := 2) 203 C dX12_may_202 (by decide) rfl ?_
  refine r_icmp_ge 206 217 C dX12_may_203 (by decide) rfl (fun c0 => ?_) (fun c0 => ?_)
  · have hf := ifT c0 hf
    refine r_iconst (v := -1) 218 C dX12_may_217 (by decide) rfl ?_
    refine r_istore 220 [(0, .ref (ad 38)), (2, .int v2), (3, .int v3), (4, .int v4), (5, .int (-1 : Int32))] [1, 2, 3, 4, 0] C dX12_may_218 (by decide) rfl rfl ?_
    refine r_iconst (v := 0) 221 C dX12_may_220 (by decide) rfl ?_
    refine r_istore 223 [(0, .ref (ad 38)), (2, .int v2), (3, .int v3), (4, .int v4), (5, .int (-1 : Int32)), (6, .int (0 : Int32))] [1, 2, 3, 4, 5, 0] C dX12_may_221 (by decide) rfl rfl ?_
    refine r_sub [(0, .ref (ad 38)), (3, .int v3), (5, .int (-1 : Int32)), (6, .int (0 : Int32))] [0, 2, 4, 5] rfl ?_
    exact w_X12_may_223 C hR E  FUEL v3 (-1 : Int32) (0 : Int32)    u hf
  · have hf := ifF c0 hf
    refine r_iload_n 207 1 C dX12_may_206 rfl rfl rfl ?_
    refine r_if_ne 210 214 C dX12_may_207 (by decide) rfl (fun c1 => ?_) (fun c1 => ?_)
    · have hf := ifF c1 hf
      refine r_iload 216 3 C dX12_may_214 rfl rfl ?_
      exact r_iret C E (pr1 hf) (pr2 hf) dX12_may_216
    · have hf := ifT c1 hf
      refine r_iload_n 211 2 C dX12_may_210 rfl rfl rfl ?_
      refine r_goto 216 C dX12_may_211 (by decide) ?_
      exact r_iret C E (pr1 hf) (pr2 hf) dX12_may_216
def f_X12_may_195 (z35 : Int32 → Int32 → Int32 → Int32 → Int32 → S2 → Option (Int32 × S2)) (v1 : Int32) (v2 : Int32) (v3 : Int32) (v4 : Int32) (v5 : Int32) (u : S2) : Option (Int32 × S2) := nm (v5 + (1 : Int32)) (fun x0 => z35 v1 v2 v3 v4 x0 u)
set_option maxRecDepth 20000 in
theorem w_X12_may_195 {K : Ctx} {ad : Nat → Nat} (C : Cx K ad cX12_may 7 yX12_may.cls (some .int)) (hR : Rm K 5 116) {r : Int32} {w : S2} (E : EI K ad r w) (z35 : Int32 → Int32 → Int32 → Int32 → Int32 → S2 → Option (Int32 × S2)) (hz35 : ∀ (v1 : Int32) (v2 : Int32) (v3 : Int32) (v4 : Int32) (v5 : Int32)      (u : S2), z35 v1 v2 v3 v4 v5 u = some (r, w) → RW K ad 7 35 [(0, .ref (ad 38)), (1, .int v1), (2, .int v2), (3, .int v3), (4, .int v4), (5, .int v5)] [] u) (v1 : Int32) (v2 : Int32) (v3 : Int32) (v4 : Int32) (v5 : Int32)      (u : S2) (hf : f_X12_may_195 z35 v1 v2 v3 v4 v5 u = some (r, w)) : RW K ad 7 195 [(0, .ref (ad 38)), (1, .int v1), (2, .int v2), (3, .int v3), (4, .int v4), (5, .int v5)] [] u := by
  unfold f_X12_may_195 at hf
  obtain ⟨x0, ex0, hf⟩ := nm_of hf
  refine r_iinc (v := x0) 198 5 [(0, .ref (ad 38)), (1, .int v1), (2, .int v2), (3, .int v3), (4, .int v4), (5, .int x0)] [1, 2, 3, 4, 5, 0] C dX12_may_195 rfl (by rw [ex0]; rfl) (by decide) rfl rfl ?_
  refine r_goto 35 C dX12_may_198 (by decide) ?_
  refine r_sub [(0, .ref (ad 38)), (1, .int v1), (2, .int v2), (3, .int v3), (4, .int v4), (5, .int x0)] [0, 1, 2, 3, 4, 5] rfl ?_
  exact hz35 v1 v2 v3 v4 x0      u hf
def f_X12_may_192 (z35 : Int32 → Int32 → Int32 → Int32 → Int32 → S2 → Option (Int32 × S2)) (v1 : Int32) (v2 : Int32) (v3 : Int32) (v4 : Int32) (v5 : Int32) (u : S2) : Option (Int32 × S2) := nm (v3 + (1 : Int32)) (fun x0 => f_X12_may_195 z35  v1 v2 x0 v4 v5 u)
set_option maxRecDepth 20000 in
theorem w_X12_may_192 {K : Ctx} {ad : Nat → Nat} (C : Cx K ad cX12_may 7 yX12_may.cls (some .int)) (hR : Rm K 5 116) {r : Int32} {w : S2} (E : EI K ad r w) (z35 : Int32 → Int32 → Int32 → Int32 → Int32 → S2 → Option (Int32 × S2)) (hz35 : ∀ (v1 : Int32) (v2 : Int32) (v3 : Int32) (v4 : Int32) (v5 : Int32)      (u : S2), z35 v1 v2 v3 v4 v5 u = some (r, w) → RW K ad 7 35 [(0, .ref (ad 38)), (1, .int v1), (2, .int v2), (3, .int v3), (4, .int v4), (5, .int v5)] [] u) (v1 : Int32) (v2 : Int32) (v3 : Int32) (v4 : Int32) (v5 : Int32)      (u : S2) (hf : f_X12_may_192 z35 v1 v2 v3 v4 v5 u = some (r, w)) : RW K ad 7 192 [(0, .ref (ad 38)), (1, .int v1), (2, .int v2), (3, .int v3), (4, .int v4), (5, .int v5)] [] u := by
  unfold f_X12_may_192 at hf
  obtain ⟨x0, ex0, hf⟩ := nm_of hf
  refine r_iinc (v := x0) 195 3 [(0, .ref (ad 38)), (1, .int v1), (2, .int v2), (3, .int x0), (4, .int v4), (5, .int v5)] [1, 2, 3, 0, 4, 5] C dX12_may_192 rfl (by rw [ex0]; rfl) (by decide) rfl rfl ?_
  refine r_sub [(0, .ref (ad 38)), (1, .int v1), (2, .int v2), (3, .int x0), (4, .int v4), (5, .int v5)] [0, 1, 2, 3, 4, 5] rfl ?_
  exact w_X12_may_195 C hR E z35 hz35  v1 v2 x0 v4 v5      u hf
def f_X12_may_185 (z35 : Int32 → Int32 → Int32 → Int32 → Int32 → S2 → Option (Int32 × S2)) (z89 : Int32 → Int32 → Int32 → Int32 → Int32 → Int32 → S2 → Option (Int32 × S2)) (v1 : Int32) (v2 : Int32) (v3 : Int32) (v4 : Int32) (v5 : Int32) (v6 : Int32) (t1 : Int32) (t2 : Int32) (u : S2) : Option (Int32 × S2) := ck (inb t1 61) (nm (wr u 63 (Int32.toNatClampNeg t1) t2) (fun u0 => nm (v6 + (1 : Int32)) (fun x0 => z89 v1 v2 v3 v4 v5 x0 u0)))
set_option maxRecDepth 20000 in
theorem w_X12_may_185 {K : Ctx} {ad : Nat → Nat} (C : Cx K ad cX12_may 7 yX12_may.cls (some .int)) (hR : Rm K 5 116) {r : Int32} {w : S2} (E : EI K ad r w) (z35 : Int32 → Int32 → Int32 → Int32 → Int32 → S2 → Option (Int32 × S2)) (hz35 : ∀ (v1 : Int32) (v2 : Int32) (v3 : Int32) (v4 : Int32) (v5 : Int32)      (u : S2), z35 v1 v2 v3 v4 v5 u = some (r, w) → RW K ad 7 35 [(0, .ref (ad 38)), (1, .int v1), (2, .int v2), (3, .int v3), (4, .int v4), (5, .int v5)] [] u) (z89 : Int32 → Int32 → Int32 → Int32 → Int32 → Int32 → S2 → Option (Int32 × S2)) (hz89 : ∀ (v1 : Int32) (v2 : Int32) (v3 : Int32) (v4 : Int32) (v5 : Int32) (v6 : Int32)       (u : S2), z89 v1 v2 v3 v4 v5 v6 u = some (r, w) → RW K ad 7 89 [(0, .ref (ad 38)), (1, .int v1), (2, .int v2), (3, .int v3), (4, .int v4), (5, .int v5), (6, .int v6)] [] u) (v1 : Int32) (v2 : Int32) (v3 : Int32) (v4 : Int32) (v5 : Int32) (v6 : Int32) (t1 : Int32) (t2 : Int32)         (u : S2) (hf : f_X12_may_185 z35 z89 v1 v2 v3 v4 v5 v6 t1 t2 u = some (r, w)) : RW K ad 7 185 [(0, .ref (ad 38)), (1, .int v1), (2, .int v2), (3, .int v3), (4, .int v4), (5, .int v5), (6, .int v6)] [.int t2, .int t1, .ref (ad 63)] u := by
  unfold f_X12_may_185 at hf
  obtain ⟨hc0, hf⟩ := ck_of hf
  refine r_iastore 186 63 61 C (wd_63 ad u) (sA_63 ad u) hc0 dX12_may_185 rfl ?_
  obtain ⟨u0, eu0, hf⟩ := nm_of hf
  refine r_st eu0 ?_
  obtain ⟨x0, ex0, hf⟩ := nm_of hf
  refine r_iinc (v := x0) 189 6 [(0, .ref (ad 38)), (1, .int v1), (2, .int v2), (3, .int v3), (4, .int v4), (5, .int v5), (6, .int x0)] [1, 2, 3, 4, 5, 6, 0] C dX12_may_186 rfl (by rw [ex0]; rfl) (by decide) rfl rfl ?_
  refine r_goto 89 C dX12_may_189 (by decide) ?_
  refine r_sub [(0, .ref (ad 38)), (1, .int v1), (2, .int v2), (3, .int v3), (4, .int v4), (5, .int v5), (6, .int x0)] [0, 1, 2, 3, 4, 5, 6] rfl ?_
  exact hz89 v1 v2 v3 v4 v5 x0       u0 hf
def f_X12_may_168 (z35 : Int32 → Int32 → Int32 → Int32 → Int32 → S2 → Option (Int32 × S2)) (z89 : Int32 → Int32 → Int32 → Int32 → Int32 → Int32 → S2 → Option (Int32 × S2)) (v1 : Int32) (v2 : Int32) (v3 : Int32) (v4 : Int32) (v5 : Int32) (v6 : Int32) (t1 : Int32) (u : S2) : Option (Int32 × S2) := ck (inb v6 601) (nm (u 61 (Int32.toNatClampNeg v6)) (fun x0 => f_X12_may_185 z35 z89  v1 v2 v3 v4 v5 v6 t1 x0 u))
set_option maxRecDepth 20000 in
theorem w_X12_may_168 {K : Ctx} {ad : Nat → Nat} (C : Cx K ad cX12_may 7 yX12_may.cls (some .int)) (hR : Rm K 5 116) {r : Int32} {w : S2} (E : EI K ad r w) (z35 : Int32 → Int32 → Int32 → Int32 → Int32 → S2 → Option (Int32 × S2)) (hz35 : ∀ (v1 : Int32) (v2 : Int32) (v3 : Int32) (v4 : Int32) (v5 : Int32)      (u : S2), z35 v1 v2 v3 v4 v5 u = some (r, w) → RW K ad 7 35 [(0, .ref (ad 38)), (1, .int v1), (2, .int v2), (3, .int v3), (4, .int v4), (5, .int v5)] [] u) (z89 : Int32 → Int32 → Int32 → Int32 → Int32 → Int32 → S2 → Option (Int32 × S2)) (hz89 : ∀ (v1 : Int32) (v2 : Int32) (v3 : Int32) (v4 : Int32) (v5 : Int32) (v6 : Int32)       (u : S2), z89 v1 v2 v3 v4 v5 v6 u = some (r, w) → RW K ad 7 89 [(0, .ref (ad 38)), (1, .int v1), (2, .int v2), (3, .int v3), (4, .int v4), (5, .int v5), (6, .int v6)] [] u) (v1 : Int32) (v2 : Int32) (v3 : Int32) (v4 : Int32) (v5 : Int32) (v6 : Int32) (t1 : Int32)        (u : S2) (hf : f_X12_may_168 z35 z89 v1 v2 v3 v4 v5 v6 t1 u = some (r, w)) : RW K ad 7 168 [(0, .ref (ad 38)), (1, .int v1), (2, .int v2), (3, .int v3), (4, .int v4), (5, .int v5), (6, .int v6)] [.int t1, .ref (ad 63)] u := by
  unfold f_X12_may_168 at hf
  refine r_aload_n 169 0 C dX12_may_168 rfl rfl rfl ?_
  refine r_get 172 38 32 C inX12 (wd_38 ad u) rfl (by decide) tw_860 rfl rfl dX12_may_169 rfl ?_
  refine r_iload 174 6 C dX12_may_172 rfl rfl ?_
  obtain ⟨hc0, hf⟩ := ck_of hf
  refine r_iaload 175 61 601 C (wd_61 ad u) hc0 dX12_may_174 rfl ?_
  obtain ⟨x0, ex0, hf⟩ := nm_of hf
  refine r_nm ex0 ?_
  refine r_goto 185 C dX12_may_175 (by decide) ?_
  refine r_sub [(0, .ref (ad 38)), (1, .int v1), (2, .int v2), (3, .int v3), (4, .int v4), (5, .int v5), (6, .int v6)] [0, 1, 2, 3, 4, 5, 6] rfl ?_
  exact w_X12_may_185 C hR E z35 hz35 z89 hz89  v1 v2 v3 v4 v5 v6 t1 x0         u hf
def f_X12_may_140 (z35 : Int32 → Int32 → Int32 → Int32 → Int32 → S2 → Option (Int32 × S2)) (z89 : Int32 → Int32 → Int32 → Int32 → Int32 → Int32 → S2 → Option (Int32 × S2)) (v1 : Int32) (v2 : Int32) (v3 : Int32) (v4 : Int32) (v5 : Int32) (v6 : Int32) (t1 : Int32) (t2 : Int32) (u : S2) : Option (Int32 × S2) := ck (inb t1 61) (nm (wr u 62 (Int32.toNatClampNeg t1) t2) (fun u0 => (if v3 = 0 then f_X12_may_168 z35 z89  v1 v2 v3 v4 v5 v6 v6 u0 else ck (inb v6 601) (nm (u0 61 (Int32.toNatClampNeg v6)) (fun x0 => ck (inb v6 61) (nm (u0 63 (Int32.toNatClampNeg v6)) (fun x1 => (if x0 ≤ x1 then ck (inb v6 61) (nm (u0 63 (Int32.toNatClampNeg v6)) (fun x2 => f_X12_may_185 z35 z89  v1 v2 v3 v4 v5 v6 v6 x2 u0)) else f_X12_may_168 z35 z89  v1 v2 v3 v4 v5 v6 v6 u0))))))))
set_option maxRecDepth 20000 in
theorem w_X12_may_140 {K : Ctx} {ad : Nat → Nat} (C : Cx K ad cX12_may 7 yX12_may.cls (some .int)) (hR : Rm K 5 116) {r : Int32} {w : S2} (E : EI K ad r w) (z35 : Int32 → Int32 → Int32 → Int32 → Int32 → S2 → Option (Int32 × S2)) (hz35 : ∀ (v1 : Int32) (v2 : Int32) (v3 : Int32) (v4 : Int32) (v5 : Int32)      (u : S2), z35 v1 v2 v3 v4 v5 u = some (r, w) → RW K ad 7 35 [(0, .ref (ad 38)), (1, .int v1), (2, .int v2), (3, .int v3), (4, .int v4), (5, .int v5)] [] u) (z89 : Int32 → Int32 → Int32 → Int32 → Int32 → Int32 → S2 → Option (Int32 × S2)) (hz89 : ∀ (v1 : Int32) (v2 : Int32) (v3 : Int32) (v4 : Int32) (v5 : Int32) (v6 : Int32)       (u : S2), z89 v1 v2 v3 v4 v5 v6 u = some (r, w) → RW K ad 7 89 [(0, .ref (ad 38)), (1, .int v1), (2, .int v2), (3, .int v3), (4, .int v4), (5, .int v5), (6, .int v6)] [] u) (v1 : Int32) (v2 : Int32) (v3 : Int32) (v4 : Int32) (v5 : Int32) (v6 : Int32) (t1 : Int32) (t2 : Int32)         (u : S2) (hf : f_X12_may_140 z35 z89 v1 v2 v3 v4 v5 v6 t1 t2 u = some (r, w)) : RW K ad 7 140 [(0, .ref (ad 38)), (1, .int v1), (2, .int v2), (3, .int v3), (4, .int v4), (5, .int v5), (6, .int v6)] [.int t2, .int t1, .ref (ad 62)] u := by
  unfold f_X12_may_140 at hf
  obtain ⟨hc0, hf⟩ := ck_of hf
  refine r_iastore 141 62 61 C (wd_62 ad u) (sA_62 ad u) hc0 dX12_may_140 rfl ?_
  obtain ⟨u0, eu0, hf⟩ := nm_of hf
  refine r_st eu0 ?_
  refine r_aload_n 142 0 C dX12_may_141 rfl rfl rfl ?_
  refine r_get 145 38 36 C inX12 (wd_38 ad u0) rfl (by decide) tw_864 rfl rfl dX12_may_142 rfl ?_
  refine r_iload 147 6 C dX12_may_145 rfl rfl ?_
  refine r_iload_n 148 3 C dX12_may_147 rfl rfl rfl ?_
  refine r_if_eq 151 168 C dX12_may_148 (by decide) rfl (fun c0 => ?_) (fun c0 => ?_)
  · have hf := ifT c0 hf
    refine r_sub [(0, .ref (ad 38)), (1, .int v1), (2, .int v2), (3, .int v3), (4, .int v4), (5, .int v5), (6, .int v6)] [0, 1, 2, 3, 4, 5, 6] rfl ?_
    exact w_X12_may_168 C hR E z35 hz35 z89 hz89  v1 v2 v3 v4 v5 v6 v6        u0 hf
  · have hf := ifF c0 hf
    refine r_aload_n 152 0 C dX12_may_151 rfl rfl rfl ?_
    refine r_get 155 38 32 C inX12 (wd_38 ad u0) rfl (by decide) tw_860 rfl rfl dX12_may_152 rfl ?_
    refine r_iload 157 6 C dX12_may_155 rfl rfl ?_
    obtain ⟨hc1, hf⟩ := ck_of hf
    refine r_iaload 158 61 601 C (wd_61 ad u0) hc1 dX12_may_157 rfl ?_
    obtain ⟨x0, ex0, hf⟩ := nm_of hf
    refine r_nm ex0 ?_
    refine r_aload_n 159 0 C dX12_may_158 rfl rfl rfl ?_
    refine r_get 162 38 36 C inX12 (wd_38 ad u0) rfl (by decide) tw_864 rfl rfl dX12_may_159 rfl ?_
    refine r_iload 164 6 C dX12_may_162 rfl rfl ?_
    obtain ⟨hc2, hf⟩ := ck_of hf
    refine r_iaload 165 63 61 C (wd_63 ad u0) hc2 dX12_may_164 rfl ?_
    obtain ⟨x1, ex1, hf⟩ := nm_of hf
    refine r_nm ex1 ?_
    refine r_icmp_le 168 178 C dX12_may_165 (by decide) rfl (fun c1 => ?_) (fun c1 => ?_)
    · have hf := ifT c1 hf
      refine r_aload_n 179 0 C dX12_may_178 rfl rfl rfl ?_
      refine r_get 182 38 36 C inX12 (wd_38 ad u0) rfl (by decide) tw_864 rfl rfl dX12_may_179 rfl ?_
      refine r_iload 184 6 C dX12_may_182 rfl rfl ?_
      obtain ⟨hc3, hf⟩ := ck_of hf
      refine r_iaload 185 63 61 C (wd_63 ad u0) hc3 dX12_may_184 rfl ?_
      obtain ⟨x2, ex2, hf⟩ := nm_of hf
      refine r_nm ex2 ?_
      refine r_sub [(0, .ref (ad 38)), (1, .int v1), (2, .int v2), (3, .int v3), (4, .int v4), (5, .int v5), (6, .int v6)] [0, 1, 2, 3, 4, 5, 6] rfl ?_
      exact w_X12_may_185 C hR E z35 hz35 z89 hz89  v1 v2 v3 v4 v5 v6 v6 x2         u0 hf
    · have hf := ifF c1 hf
      refine r_sub [(0, .ref (ad 38)), (1, .int v1), (2, .int v2), (3, .int v3), (4, .int v4), (5, .int v5), (6, .int v6)] [0, 1, 2, 3, 4, 5, 6] rfl ?_
      exact w_X12_may_168 C hR E z35 hz35 z89 hz89  v1 v2 v3 v4 v5 v6 v6        u0 hf
def f_X12_may_123 (z35 : Int32 → Int32 → Int32 → Int32 → Int32 → S2 → Option (Int32 × S2)) (z89 : Int32 → Int32 → Int32 → Int32 → Int32 → Int32 → S2 → Option (Int32 × S2)) (v1 : Int32) (v2 : Int32) (v3 : Int32) (v4 : Int32) (v5 : Int32) (v6 : Int32) (t1 : Int32) (u : S2) : Option (Int32 × S2) := ck (inb v6 601) (nm (u 61 (Int32.toNatClampNeg v6)) (fun x0 => f_X12_may_140 z35 z89  v1 v2 v3 v4 v5 v6 t1 x0 u))
set_option maxRecDepth 20000 in
theorem w_X12_may_123 {K : Ctx} {ad : Nat → Nat} (C : Cx K ad cX12_may 7 yX12_may.cls (some .int)) (hR : Rm K 5 116) {r : Int32} {w : S2} (E : EI K ad r w) (z35 : Int32 → Int32 → Int32 → Int32 → Int32 → S2 → Option (Int32 × S2)) (hz35 : ∀ (v1 : Int32) (v2 : Int32) (v3 : Int32) (v4 : Int32) (v5 : Int32)      (u : S2), z35 v1 v2 v3 v4 v5 u = some (r, w) → RW K ad 7 35 [(0, .ref (ad 38)), (1, .int v1), (2, .int v2), (3, .int v3), (4, .int v4), (5, .int v5)] [] u) (z89 : Int32 → Int32 → Int32 → Int32 → Int32 → Int32 → S2 → Option (Int32 × S2)) (hz89 : ∀ (v1 : Int32) (v2 : Int32) (v3 : Int32) (v4 : Int32) (v5 : Int32) (v6 : Int32)       (u : S2), z89 v1 v2 v3 v4 v5 v6 u = some (r, w) → RW K ad 7 89 [(0, .ref (ad 38)), (1, .int v1), (2, .int v2), (3, .int v3), (4, .int v4), (5, .int v5), (6, .int v6)] [] u) (v1 : Int32) (v2 : Int32) (v3 : Int32) (v4 : Int32) (v5 : Int32) (v6 : Int32) (t1 : Int32)        (u : S2) (hf : f_X12_may_123 z35 z89 v1 v2 v3 v4 v5 v6 t1 u = some (r, w)) : RW K ad 7 123 [(0, .ref (ad 38)), (1, .int v1), (2, .int v2), (3, .int v3), (4, .int v4), (5, .int v5), (6, .int v6)] [.int t1, .ref (ad 62)] u := by
  unfold f_X12_may_123 at hf
  refine r_aload_n 124 0 C dX12_may_123 rfl rfl rfl ?_
  refine r_get 127 38 32 C inX12 (wd_38 ad u) rfl (by decide) tw_860 rfl rfl dX12_may_124 rfl ?_
  refine r_iload 129 6 C dX12_may_127 rfl rfl ?_
  obtain ⟨hc0, hf⟩ := ck_of hf
  refine r_iaload 130 61 601 C (wd_61 ad u) hc0 dX12_may_129 rfl ?_
  obtain ⟨x0, ex0, hf⟩ := nm_of hf
  refine r_nm ex0 ?_
  refine r_goto 140 C dX12_may_130 (by decide) ?_
  refine r_sub [(0, .ref (ad 38)), (1, .int v1), (2, .int v2), (3, .int v3), (4, .int v4), (5, .int v5), (6, .int v6)] [0, 1, 2, 3, 4, 5, 6] rfl ?_
  exact w_X12_may_140 C hR E z35 hz35 z89 hz89  v1 v2 v3 v4 v5 v6 t1 x0         u hf
def f_X12_may_89 (z35 : Int32 → Int32 → Int32 → Int32 → Int32 → S2 → Option (Int32 × S2)) : Nat → Int32 → Int32 → Int32 → Int32 → Int32 → Int32 → S2 → Option (Int32 × S2)
  | 0, _, _, _, _, _, _, _ => none
  | n + 1, v1, v2, v3, v4, v5, v6, u => (if (60 : Int32) < v6 then f_X12_may_192 z35  v1 v2 v3 v4 v5 u else (if v3 = 0 then f_X12_may_123 z35 (fun v1 v2 v3 v4 v5 v6 u => f_X12_may_89 z35 n v1 v2 v3 v4 v5 v6 u)  v1 v2 v3 v4 v5 v6 v6 u else ck (inb v6 601) (nm (u 61 (Int32.toNatClampNeg v6)) (fun x0 => ck (inb v6 61) (nm (u 62 (Int32.toNatClampNeg v6)) (fun x1 => (if x1 ≤ x0 then ck (inb v6 61) (nm (u 62 (Int32.toNatClampNeg v6)) (fun x2 => f_X12_may_140 z35 (fun v1 v2 v3 v4 v5 v6 u => f_X12_may_89 z35 n v1 v2 v3 v4 v5 v6 u)  v1 v2 v3 v4 v5 v6 v6 x2 u)) else f_X12_may_123 z35 (fun v1 v2 v3 v4 v5 v6 u => f_X12_may_89 z35 n v1 v2 v3 v4 v5 v6 u)  v1 v2 v3 v4 v5 v6 v6 u)))))))
theorem f_X12_may_89_e (z35 : Int32 → Int32 → Int32 → Int32 → Int32 → S2 → Option (Int32 × S2)) (n : Nat) (v1 : Int32) (v2 : Int32) (v3 : Int32) (v4 : Int32) (v5 : Int32) (v6 : Int32) (u : S2) : f_X12_may_89 z35 (n + 1) v1 v2 v3 v4 v5 v6 u = (if (60 : Int32) < v6 then f_X12_may_192 z35  v1 v2 v3 v4 v5 u else (if v3 = 0 then f_X12_may_123 z35 (fun v1 v2 v3 v4 v5 v6 u => f_X12_may_89 z35 n v1 v2 v3 v4 v5 v6 u)  v1 v2 v3 v4 v5 v6 v6 u else ck (inb v6 601) (nm (u 61 (Int32.toNatClampNeg v6)) (fun x0 => ck (inb v6 61) (nm (u 62 (Int32.toNatClampNeg v6)) (fun x1 => (if x1 ≤ x0 then ck (inb v6 61) (nm (u 62 (Int32.toNatClampNeg v6)) (fun x2 => f_X12_may_140 z35 (fun v1 v2 v3 v4 v5 v6 u => f_X12_may_89 z35 n v1 v2 v3 v4 v5 v6 u)  v1 v2 v3 v4 v5 v6 v6 x2 u)) else f_X12_may_123 z35 (fun v1 v2 v3 v4 v5 v6 u => f_X12_may_89 z35 n v1 v2 v3 v4 v5 v6 u)  v1 v2 v3 v4 v5 v6 v6 u))))))) := rfl
set_option maxRecDepth 20000 in
theorem w_X12_may_89 {K : Ctx} {ad : Nat → Nat} (C : Cx K ad cX12_may 7 yX12_may.cls (some .int)) (hR : Rm K 5 116) {r : Int32} {w : S2} (E : EI K ad r w) (z35 : Int32 → Int32 → Int32 → Int32 → Int32 → S2 → Option (Int32 × S2)) (hz35 : ∀ (v1 : Int32) (v2 : Int32) (v3 : Int32) (v4 : Int32) (v5 : Int32)      (u : S2), z35 v1 v2 v3 v4 v5 u = some (r, w) → RW K ad 7 35 [(0, .ref (ad 38)), (1, .int v1), (2, .int v2), (3, .int v3), (4, .int v4), (5, .int v5)] [] u) : ∀ (n : Nat) (v1 : Int32) (v2 : Int32) (v3 : Int32) (v4 : Int32) (v5 : Int32) (v6 : Int32)       (u : S2) (hf : f_X12_may_89 z35 n v1 v2 v3 v4 v5 v6 u = some (r, w)), RW K ad 7 89 [(0, .ref (ad 38)), (1, .int v1), (2, .int v2), (3, .int v3), (4, .int v4), (5, .int v5), (6, .int v6)] [] u := by
  intro n
  induction n with
  | zero => intro v1 v2 v3 v4 v5 v6       u hf; cases hf
  | succ n ih =>
    intro v1 v2 v3 v4 v5 v6       u hf
    rw [f_X12_may_89_e] at hf
    refine r_iload 91 6 C dX12_may_89 rfl rfl ?_
    refine r_bipush (v := 60) 93 C dX12_may_91 (by decide) rfl ?_
    refine r_icmp_gt 96 192 C dX12_may_93 (by decide) rfl (fun c0 => ?_) (fun c0 => ?_)
    · have hf := ifT c0 hf
      refine r_sub [(0, .ref (ad 38)), (1, .int v1), (2, .int v2), (3, .int v3), (4, .int v4), (5, .int v5)] [0, 1, 2, 3, 4, 5] rfl ?_
      exact w_X12_may_192 C hR E z35 hz35  v1 v2 v3 v4 v5      u hf
    · have hf := ifF c0 hf
      refine r_aload_n 97 0 C dX12_may_96 rfl rfl rfl ?_
      refine r_get 100 38 35 C inX12 (wd_38 ad u) rfl (by decide) tw_863 rfl rfl dX12_may_97 rfl ?_
      refine r_iload 102 6 C dX12_may_100 rfl rfl ?_
      refine r_iload_n 103 3 C dX12_may_102 rfl rfl rfl ?_
      refine r_if_eq 106 123 C dX12_may_103 (by decide) rfl (fun c1 => ?_) (fun c1 => ?_)
      · have hf := ifT c1 hf
        refine r_sub [(0, .ref (ad 38)), (1, .int v1), (2, .int v2), (3, .int v3), (4, .int v4), (5, .int v5), (6, .int v6)] [0, 1, 2, 3, 4, 5, 6] rfl ?_
        exact w_X12_may_123 C hR E z35 hz35 (fun v1 v2 v3 v4 v5 v6 u => f_X12_may_89 z35 n v1 v2 v3 v4 v5 v6 u) (fun v1 v2 v3 v4 v5 v6       u h => ih v1 v2 v3 v4 v5 v6       u h)  v1 v2 v3 v4 v5 v6 v6        u hf
      · have hf := ifF c1 hf
        refine r_aload_n 107 0 C dX12_may_106 rfl rfl rfl ?_
        refine r_get 110 38 32 C inX12 (wd_38 ad u) rfl (by decide) tw_860 rfl rfl dX12_may_107 rfl ?_
        refine r_iload 112 6 C dX12_may_110 rfl rfl ?_
        obtain ⟨hc0, hf⟩ := ck_of hf
        refine r_iaload 113 61 601 C (wd_61 ad u) hc0 dX12_may_112 rfl ?_
        obtain ⟨x0, ex0, hf⟩ := nm_of hf
        refine r_nm ex0 ?_
        refine r_aload_n 114 0 C dX12_may_113 rfl rfl rfl ?_
        refine r_get 117 38 35 C inX12 (wd_38 ad u) rfl (by decide) tw_863 rfl rfl dX12_may_114 rfl ?_
        refine r_iload 119 6 C dX12_may_117 rfl rfl ?_
        obtain ⟨hc1, hf⟩ := ck_of hf
        refine r_iaload 120 62 61 C (wd_62 ad u) hc1 dX12_may_119 rfl ?_
        obtain ⟨x1, ex1, hf⟩ := nm_of hf
        refine r_nm ex1 ?_
        refine r_icmp_ge 123 133 C dX12_may_120 (by decide) rfl (fun c2 => ?_) (fun c2 => ?_)
        · have hf := ifT c2 hf
          refine r_aload_n 134 0 C dX12_may_133 rfl rfl rfl ?_
          refine r_get 137 38 35 C inX12 (wd_38 ad u) rfl (by decide) tw_863 rfl rfl dX12_may_134 rfl ?_
          refine r_iload 139 6 C dX12_may_137 rfl rfl ?_
          obtain ⟨hc2, hf⟩ := ck_of hf
          refine r_iaload 140 62 61 C (wd_62 ad u) hc2 dX12_may_139 rfl ?_
          obtain ⟨x2, ex2, hf⟩ := nm_of hf
          refine r_nm ex2 ?_
          refine r_sub [(0, .ref (ad 38)), (1, .int v1), (2, .int v2), (3, .int v3), (4, .int v4), (5, .int v5), (6, .int v6)] [0, 1, 2, 3, 4, 5, 6] rfl ?_
          exact w_X12_may_140 C hR E z35 hz35 (fun v1 v2 v3 v4 v5 v6 u => f_X12_may_89 z35 n v1 v2 v3 v4 v5 v6 u) (fun v1 v2 v3 v4 v5 v6       u h => ih v1 v2 v3 v4 v5 v6       u h)  v1 v2 v3 v4 v5 v6 v6 x2         u hf
        · have hf := ifF c2 hf
          refine r_sub [(0, .ref (ad 38)), (1, .int v1), (2, .int v2), (3, .int v3), (4, .int v4), (5, .int v5), (6, .int v6)] [0, 1, 2, 3, 4, 5, 6] rfl ?_
          exact w_X12_may_123 C hR E z35 hz35 (fun v1 v2 v3 v4 v5 v6 u => f_X12_may_89 z35 n v1 v2 v3 v4 v5 v6 u) (fun v1 v2 v3 v4 v5 v6       u h => ih v1 v2 v3 v4 v5 v6       u h)  v1 v2 v3 v4 v5 v6 v6        u hf
def f_X12_may_84 (z35 : Int32 → Int32 → Int32 → Int32 → Int32 → S2 → Option (Int32 × S2)) (v1 : Int32) (v2 : Int32) (v3 : Int32) (v5 : Int32) (t0 : Int32) (u : S2) : Option (Int32 × S2) := f_X12_may_89 z35 FUEL v1 v2 v3 t0 v5 (0 : Int32) u
set_option maxRecDepth 20000 in
theorem w_X12_may_84 {K : Ctx} {ad : Nat → Nat} (C : Cx K ad cX12_may 7 yX12_may.cls (some .int)) (hR : Rm K 5 116) {r : Int32} {w : S2} (E : EI K ad r w) (z35 : Int32 → Int32 → Int32 → Int32 → Int32 → S2 → Option (Int32 × S2)) (hz35 : ∀ (v1 : Int32) (v2 : Int32) (v3 : Int32) (v4 : Int32) (v5 : Int32)      (u : S2), z35 v1 v2 v3 v4 v5 u = some (r, w) → RW K ad 7 35 [(0, .ref (ad 38)), (1, .int v1), (2, .int v2), (3, .int v3), (4, .int v4), (5, .int v5)] [] u) (v1 : Int32) (v2 : Int32) (v3 : Int32) (v5 : Int32) (t0 : Int32)      (u : S2) (hf : f_X12_may_84 z35 v1 v2 v3 v5 t0 u = some (r, w)) : RW K ad 7 84 [(0, .ref (ad 38)), (1, .int v1), (2, .int v2), (3, .int v3), (5, .int v5)] [.int t0] u := by
  unfold f_X12_may_84 at hf
  refine r_istore 86 [(0, .ref (ad 38)), (1, .int v1), (2, .int v2), (3, .int v3), (4, .int t0), (5, .int v5)] [1, 2, 3, 4, 0, 5] C dX12_may_84 (by decide) rfl rfl ?_
  refine r_iconst (v := 0) 87 C dX12_may_86 (by decide) rfl ?_
  refine r_istore 89 [(0, .ref (ad 38)), (1, .int v1), (2, .int v2), (3, .int v3), (4, .int t0), (5, .int v5), (6, .int (0 : Int32))] [1, 2, 3, 4, 5, 6, 0] C dX12_may_87 (by decide) rfl rfl ?_
  refine r_sub [(0, .ref (ad 38)), (1, .int v1), (2, .int v2), (3, .int v3), (4, .int t0), (5, .int v5), (6, .int (0 : Int32))] [0, 1, 2, 3, 4, 5, 6] rfl ?_
  exact w_X12_may_89 C hR E z35 hz35 FUEL v1 v2 v3 t0 v5 (0 : Int32)       u hf
def f_X12_may_35  : Nat → Int32 → Int32 → Int32 → Int32 → Int32 → S2 → Option (Int32 × S2)
  | 0, _, _, _, _, _, _ => none
  | n + 1, v1, v2, v3, v4, v5, u => (if (441 : Int32) ≤ v5 then f_X12_may_201   v2 v3 v4 u else nm (v5 - v5 / (21 : Int32) * (21 : Int32)) (fun x0 => bd (f_X12_mayBe (v5 / (21 : Int32)) x0 v1 u) (fun r0 u0 => (if r0 = 0 then f_X12_may_195 (fun v1 v2 v3 v4 v5 u => f_X12_may_35  n v1 v2 v3 v4 v5 u)  v1 v2 v3 v4 v5 u0 else (if v3 = 0 then nm (v5 - v5 / (21 : Int32) * (21 : Int32)) (fun x1 => f_X12_may_84 (fun v1 v2 v3 v4 v5 u => f_X12_may_35  n v1 v2 v3 v4 v5 u)  v1 v2 v3 v5 (((100 : Int32) * (v5 / (21 : Int32))) + x1) u0) else f_X12_may_84 (fun v1 v2 v3 v4 v5 u => f_X12_may_35  n v1 v2 v3 v4 v5 u)  v1 v2 v3 v5 v4 u0)))))
theorem f_X12_may_35_e  (n : Nat) (v1 : Int32) (v2 : Int32) (v3 : Int32) (v4 : Int32) (v5 : Int32) (u : S2) : f_X12_may_35  (n + 1) v1 v2 v3 v4 v5 u = (if (441 : Int32) ≤ v5 then f_X12_may_201   v2 v3 v4 u else nm (v5 - v5 / (21 : Int32) * (21 : Int32)) (fun x0 => bd (f_X12_mayBe (v5 / (21 : Int32)) x0 v1 u) (fun r0 u0 => (if r0 = 0 then f_X12_may_195 (fun v1 v2 v3 v4 v5 u => f_X12_may_35  n v1 v2 v3 v4 v5 u)  v1 v2 v3 v4 v5 u0 else (if v3 = 0 then nm (v5 - v5 / (21 : Int32) * (21 : Int32)) (fun x1 => f_X12_may_84 (fun v1 v2 v3 v4 v5 u => f_X12_may_35  n v1 v2 v3 v4 v5 u)  v1 v2 v3 v5 (((100 : Int32) * (v5 / (21 : Int32))) + x1) u0) else f_X12_may_84 (fun v1 v2 v3 v4 v5 u => f_X12_may_35  n v1 v2 v3 v4 v5 u)  v1 v2 v3 v5 v4 u0))))) := rfl
set_option maxRecDepth 20000 in
theorem w_X12_may_35 {K : Ctx} {ad : Nat → Nat} (C : Cx K ad cX12_may 7 yX12_may.cls (some .int)) (hR : Rm K 5 116) {r : Int32} {w : S2} (E : EI K ad r w)  : ∀ (n : Nat) (v1 : Int32) (v2 : Int32) (v3 : Int32) (v4 : Int32) (v5 : Int32)      (u : S2) (hf : f_X12_may_35  n v1 v2 v3 v4 v5 u = some (r, w)), RW K ad 7 35 [(0, .ref (ad 38)), (1, .int v1), (2, .int v2), (3, .int v3), (4, .int v4), (5, .int v5)] [] u := by
  intro n
  induction n with
  | zero => intro v1 v2 v3 v4 v5      u hf; cases hf
  | succ n ih =>
    intro v1 v2 v3 v4 v5      u hf
    rw [f_X12_may_35_e] at hf
    refine r_iload 37 5 C dX12_may_35 rfl rfl ?_
    refine r_sipush (v := 441) 40 C dX12_may_37 (by decide) rfl ?_
    refine r_icmp_ge 43 201 C dX12_may_40 (by decide) rfl (fun c0 => ?_) (fun c0 => ?_)
    · have hf := ifT c0 hf
      refine r_sub [(0, .ref (ad 38)), (2, .int v2), (3, .int v3), (4, .int v4)] [0, 2, 3, 4] rfl ?_
      exact w_X12_may_201 C hR E   v2 v3 v4    u hf
    · have hf := ifF c0 hf
      refine r_aload_n 44 0 C dX12_may_43 rfl rfl rfl ?_
      refine r_iload 46 5 C dX12_may_44 rfl rfl ?_
      refine r_bipush (v := 21) 48 C dX12_may_46 (by decide) rfl ?_
      refine r_idiv 49 C dX12_may_48 (by decide) rfl ?_
      refine r_iload 51 5 C dX12_may_49 rfl rfl ?_
      refine r_bipush (v := 21) 53 C dX12_may_51 (by decide) rfl ?_
      refine r_irem 54 C dX12_may_53 (by decide) rfl ?_
      obtain ⟨x0, ex0, hf⟩ := nm_of hf
      refine r_nm ex0 ?_
      refine r_iload_n 55 1 C dX12_may_54 rfl rfl rfl ?_
      obtain ⟨r0, u0, h0, hf⟩ := bd_of hf
      refine r_cVI 58 [.int (v5 / (21 : Int32)), .int x0, .int v1] C hR (c_X12_mayBe ad (v5 / (21 : Int32)) x0 v1     u r0 u0 h0) q_X12_mayBe tw_1206 (wd_38 ad u) rfl rfl tw_1208 tp_56 (Nat.le_of_ble_eq_true rfl) (Nat.le_of_ble_eq_true rfl) rfl rfl (Nat.le_of_ble_eq_true rfl) dX12_may_55 rfl ?_
      refine r_if_eq 61 195 C dX12_may_58 (by decide) rfl (fun c1 => ?_) (fun c1 => ?_)
      · have hf := ifT c1 hf
        refine r_sub [(0, .ref (ad 38)), (1, .int v1), (2, .int v2), (3, .int v3), (4, .int v4), (5, .int v5)] [0, 1, 2, 3, 4, 5] rfl ?_
        exact w_X12_may_195 C hR E (fun v1 v2 v3 v4 v5 u => f_X12_may_35  n v1 v2 v3 v4 v5 u) (fun v1 v2 v3 v4 v5      u h => ih v1 v2 v3 v4 v5      u h)  v1 v2 v3 v4 v5      u0 hf
      · have hf := ifF c1 hf
        refine r_iload_n 62 3 C dX12_may_61 rfl rfl rfl ?_
        refine r_if_ne 65 82 C dX12_may_62 (by decide) rfl (fun c2 => ?_) (fun c2 => ?_)
        · have hf := ifF c2 hf
          refine r_iload 84 4 C dX12_may_82 rfl rfl ?_
          refine r_sub [(0, .ref (ad 38)), (1, .int v1), (2, .int v2), (3, .int v3), (5, .int v5)] [0, 1, 2, 3, 5] rfl ?_
          exact w_X12_may_84 C hR E (fun v1 v2 v3 v4 v5 u => f_X12_may_35  n v1 v2 v3 v4 v5 u) (fun v1 v2 v3 v4 v5      u h => ih v1 v2 v3 v4 v5      u h)  v1 v2 v3 v5 v4      u0 hf
        · have hf := ifT c2 hf
          refine r_bipush (v := 100) 67 C dX12_may_65 (by decide) rfl ?_
          refine r_iload 69 5 C dX12_may_67 rfl rfl ?_
          refine r_bipush (v := 21) 71 C dX12_may_69 (by decide) rfl ?_
          refine r_idiv 72 C dX12_may_71 (by decide) rfl ?_
          refine r_imul 73 C dX12_may_72 rfl ?_
          refine r_iload 75 5 C dX12_may_73 rfl rfl ?_
          refine r_bipush (v := 21) 77 C dX12_may_75 (by decide) rfl ?_
          refine r_irem 78 C dX12_may_77 (by decide) rfl ?_
          obtain ⟨x1, ex1, hf⟩ := nm_of hf
          refine r_nm ex1 ?_
          refine r_iadd 79 C dX12_may_78 rfl ?_
          refine r_goto 84 C dX12_may_79 (by decide) ?_
          refine r_sub [(0, .ref (ad 38)), (1, .int v1), (2, .int v2), (3, .int v3), (5, .int v5)] [0, 1, 2, 3, 5] rfl ?_
          exact w_X12_may_84 C hR E (fun v1 v2 v3 v4 v5 u => f_X12_may_35  n v1 v2 v3 v4 v5 u) (fun v1 v2 v3 v4 v5      u h => ih v1 v2 v3 v4 v5      u h)  v1 v2 v3 v5 (((100 : Int32) * (v5 / (21 : Int32))) + x1)      u0 hf
def f_X12_may (v1 : Int32) (v2 : Int32) (u : S2) : Option (Int32 × S2) := bd (f_X12_in ((Int32.toInt64 v1)) ((0 : Int64)) ((999 : Int64)) u) (fun r0 u0 => (if r0 = 0 then some ((-3 : Int32), u0) else bd (f_X12_in ((Int32.toInt64 v2)) ((0 : Int64)) ((2 : Int64)) u0) (fun r1 u1 => (if r1 = 0 then some ((-3 : Int32), u1) else f_X12_may_35  FUEL v1 v2 (0 : Int32) (-1 : Int32) (0 : Int32) u1))))
set_option maxRecDepth 20000 in
theorem c_X12_may (ad : Nat → Nat) (v1 : Int32) (v2 : Int32)   (u : S2) (r : Int32) (w : S2) (hf : f_X12_may v1 v2 u = some (r, w)) : HI yX12_may cX12_may 7 (some .int) 5 116 ad [.ref (ad 38), .int v1, .int v2] u r w := by
  refine HI_of (by decide) (Nat.le_of_ble_eq_true rfl) (fun K C hR E => ?_)
  refine r_sub [(0, .ref (ad 38)), (1, .int v1), (2, .int v2)] [0, 1, 2] rfl ?_
  unfold f_X12_may at hf
  refine r_iload_n 1 1 C dX12_may_0 rfl rfl rfl ?_
  refine r_i2l 2 C dX12_may_1 rfl ?_
  refine r_lconst (v := 0) 3 C dX12_may_2 (by decide) rfl ?_
  refine r_ldc2 (v := 999) 6 C tw_967 dX12_may_3 rfl ?_
  obtain ⟨r0, u0, h0, hf⟩ := bd_of hf
  refine r_cSI 9 [.long (Int32.toInt64 v1), .long (0 : Int64), .long (999 : Int64)] C hR (c_X12_in ad ((Int32.toInt64 v1)) ((0 : Int64)) ((999 : Int64))    u r0 u0 h0) q_X12_in tw_945 tw_946 (Nat.le_of_ble_eq_true rfl) (Nat.le_of_ble_eq_true rfl) rfl rfl (Nat.le_of_ble_eq_true rfl) dX12_may_6 rfl ?_
  refine r_if_eq 12 24 C dX12_may_9 (by decide) rfl (fun c0 => ?_) (fun c0 => ?_)
  · have hf := ifT c0 hf
    refine r_bipush (v := -3) 26 C dX12_may_24 (by decide) rfl ?_
    exact r_iret C E (pr1 hf) (pr2 hf) dX12_may_26
  · have hf := ifF c0 hf
    refine r_iload_n 13 2 C dX12_may_12 rfl rfl rfl ?_
    refine r_i2l 14 C dX12_may_13 rfl ?_
    refine r_lconst (v := 0) 15 C dX12_may_14 (by decide) rfl ?_
    refine r_ldc2 (v := 2) 18 C tw_979 dX12_may_15 rfl ?_
    obtain ⟨r1, u1, h1, hf⟩ := bd_of hf
    refine r_cSI 21 [.long (Int32.toInt64 v2), .long (0 : Int64), .long (2 : Int64)] C hR (c_X12_in ad ((Int32.toInt64 v2)) ((0 : Int64)) ((2 : Int64))    u0 r1 u1 h1) q_X12_in tw_945 tw_946 (Nat.le_of_ble_eq_true rfl) (Nat.le_of_ble_eq_true rfl) rfl rfl (Nat.le_of_ble_eq_true rfl) dX12_may_18 rfl ?_
    refine r_if_ne 24 27 C dX12_may_21 (by decide) rfl (fun c1 => ?_) (fun c1 => ?_)
    · have hf := ifF c1 hf
      refine r_iconst (v := 0) 28 C dX12_may_27 (by decide) rfl ?_
      refine r_istore_n 29 [(0, .ref (ad 38)), (1, .int v1), (2, .int v2), (3, .int (0 : Int32))] [1, 2, 3, 0] C dX12_may_28 rfl (by decide) rfl rfl ?_
      refine r_iconst (v := -1) 30 C dX12_may_29 (by decide) rfl ?_
      refine r_istore 32 [(0, .ref (ad 38)), (1, .int v1), (2, .int v2), (3, .int (0 : Int32)), (4, .int (-1 : Int32))] [1, 2, 3, 4, 0] C dX12_may_30 (by decide) rfl rfl ?_
      refine r_iconst (v := 0) 33 C dX12_may_32 (by decide) rfl ?_
      refine r_istore 35 [(0, .ref (ad 38)), (1, .int v1), (2, .int v2), (3, .int (0 : Int32)), (4, .int (-1 : Int32)), (5, .int (0 : Int32))] [1, 2, 3, 4, 5, 0] C dX12_may_33 (by decide) rfl rfl ?_
      refine r_sub [(0, .ref (ad 38)), (1, .int v1), (2, .int v2), (3, .int (0 : Int32)), (4, .int (-1 : Int32)), (5, .int (0 : Int32))] [0, 1, 2, 3, 4, 5] rfl ?_
      exact w_X12_may_35 C hR E  FUEL v1 v2 (0 : Int32) (-1 : Int32) (0 : Int32)      u1 hf
    · have hf := ifT c1 hf
      refine r_bipush (v := -3) 26 C dX12_may_24 (by decide) rfl ?_
      exact r_iret C E (pr1 hf) (pr2 hf) dX12_may_26
def f_X12_count (v1 : Int32) (u : S2) : Option (Int32 × S2) := (if v1 = 0 then nm (u 41 0) (fun x0 => some (x0, u)) else if v1 = 1 then nm (u 40 0) (fun x1 => some (x1, u)) else if v1 = 2 then nm (u 39 3) (fun x2 => some (x2 + (50 : Int32), u)) else if v1 = 3 then some (u 38 5, u) else if v1 = 4 then some (u 38 16, u) else if v1 = 5 then some (u 38 22, u) else if v1 = 6 then some (u 38 25, u) else if v1 = 7 then some (u 38 28, u) else some ((-3 : Int32), u))
set_option maxRecDepth 20000 in
theorem c_X12_count (ad : Nat → Nat) (v1 : Int32)  (u : S2) (r : Int32) (w : S2) (hf : f_X12_count v1 u = some (r, w)) : HI yX12_count cX12_count 2 (some .int) 0 0 ad [.ref (ad 38), .int v1] u r w := by
  refine HI_of (by decide) (Nat.le_of_ble_eq_true rfl) (fun K C hR E => ?_)
  refine r_sub [(0, .ref (ad 38)), (1, .int v1)] [0, 1] rfl ?_
  unfold f_X12_count at hf
  refine r_iload_n 1 1 C dX12_count_0 rfl rfl rfl ?_
  by_cases c0 : v1 = 0
  · have hf := ifT c0 hf
    refine r_tableIn (x := v1) 48 C dX12_count_1 (by rw [c0]; decide) (by rw [c0]; decide) (by rw [c0]; rfl) (by decide) ?_
    refine r_aload_n 49 0 C dX12_count_48 rfl rfl rfl ?_
    refine r_get 52 38 2 C inX12 (wd_38 ad u) rfl (by decide) tw_830 rfl rfl dX12_count_49 rfl ?_
    refine r_iconst (v := 0) 53 C dX12_count_52 (by decide) rfl ?_
    refine r_iaload 54 41 2 C (wd_41 ad u) (by decide) dX12_count_53 rfl ?_
    obtain ⟨x0, ex0, hf⟩ := nm_of hf
    refine r_nm ex0 ?_
    exact r_iret C E (pr1 hf) (pr2 hf) dX12_count_54
  have hf := ifF c0 hf
  by_cases c1 : v1 = 1
  · have hf := ifT c1 hf
    refine r_tableIn (x := v1) 55 C dX12_count_1 (by rw [c1]; decide) (by rw [c1]; decide) (by rw [c1]; rfl) (by decide) ?_
    refine r_aload_n 56 0 C dX12_count_55 rfl rfl rfl ?_
    refine r_get 59 38 1 C inX12 (wd_38 ad u) rfl (by decide) tw_829 rfl rfl dX12_count_56 rfl ?_
    refine r_iconst (v := 0) 60 C dX12_count_59 (by decide) rfl ?_
    refine r_iaload 61 40 2 C (wd_40 ad u) (by decide) dX12_count_60 rfl ?_
    obtain ⟨x1, ex1, hf⟩ := nm_of hf
    refine r_nm ex1 ?_
    exact r_iret C E (pr1 hf) (pr2 hf) dX12_count_61
  have hf := ifF c1 hf
  by_cases c2 : v1 = 2
  · have hf := ifT c2 hf
    refine r_tableIn (x := v1) 62 C dX12_count_1 (by rw [c2]; decide) (by rw [c2]; decide) (by rw [c2]; rfl) (by decide) ?_
    refine r_aload_n 63 0 C dX12_count_62 rfl rfl rfl ?_
    refine r_get 66 38 0 C inX12 (wd_38 ad u) rfl (by decide) tw_828 rfl rfl dX12_count_63 rfl ?_
    refine r_iconst (v := 3) 67 C dX12_count_66 (by decide) rfl ?_
    refine r_iaload 68 39 8 C (wd_39 ad u) (by decide) dX12_count_67 rfl ?_
    obtain ⟨x2, ex2, hf⟩ := nm_of hf
    refine r_nm ex2 ?_
    refine r_bipush (v := 50) 70 C dX12_count_68 (by decide) rfl ?_
    refine r_iadd 71 C dX12_count_70 rfl ?_
    exact r_iret C E (pr1 hf) (pr2 hf) dX12_count_71
  have hf := ifF c2 hf
  by_cases c3 : v1 = 3
  · have hf := ifT c3 hf
    refine r_tableIn (x := v1) 72 C dX12_count_1 (by rw [c3]; decide) (by rw [c3]; decide) (by rw [c3]; rfl) (by decide) ?_
    refine r_aload_n 73 0 C dX12_count_72 rfl rfl rfl ?_
    refine r_get 76 38 5 C inX12 (wd_38 ad u) rfl (by decide) tw_833 rfl rfl dX12_count_73 rfl ?_
    exact r_iret C E (pr1 hf) (pr2 hf) dX12_count_76
  have hf := ifF c3 hf
  by_cases c4 : v1 = 4
  · have hf := ifT c4 hf
    refine r_tableIn (x := v1) 77 C dX12_count_1 (by rw [c4]; decide) (by rw [c4]; decide) (by rw [c4]; rfl) (by decide) ?_
    refine r_aload_n 78 0 C dX12_count_77 rfl rfl rfl ?_
    refine r_get 81 38 16 C inX12 (wd_38 ad u) rfl (by decide) tw_844 rfl rfl dX12_count_78 rfl ?_
    exact r_iret C E (pr1 hf) (pr2 hf) dX12_count_81
  have hf := ifF c4 hf
  by_cases c5 : v1 = 5
  · have hf := ifT c5 hf
    refine r_tableIn (x := v1) 82 C dX12_count_1 (by rw [c5]; decide) (by rw [c5]; decide) (by rw [c5]; rfl) (by decide) ?_
    refine r_aload_n 83 0 C dX12_count_82 rfl rfl rfl ?_
    refine r_get 86 38 22 C inX12 (wd_38 ad u) rfl (by decide) tw_850 rfl rfl dX12_count_83 rfl ?_
    exact r_iret C E (pr1 hf) (pr2 hf) dX12_count_86
  have hf := ifF c5 hf
  by_cases c6 : v1 = 6
  · have hf := ifT c6 hf
    refine r_tableIn (x := v1) 87 C dX12_count_1 (by rw [c6]; decide) (by rw [c6]; decide) (by rw [c6]; rfl) (by decide) ?_
    refine r_aload_n 88 0 C dX12_count_87 rfl rfl rfl ?_
    refine r_get 91 38 25 C inX12 (wd_38 ad u) rfl (by decide) tw_853 rfl rfl dX12_count_88 rfl ?_
    exact r_iret C E (pr1 hf) (pr2 hf) dX12_count_91
  have hf := ifF c6 hf
  by_cases c7 : v1 = 7
  · have hf := ifT c7 hf
    refine r_tableIn (x := v1) 92 C dX12_count_1 (by rw [c7]; decide) (by rw [c7]; decide) (by rw [c7]; rfl) (by decide) ?_
    refine r_aload_n 93 0 C dX12_count_92 rfl rfl rfl ?_
    refine r_get 96 38 28 C inX12 (wd_38 ad u) rfl (by decide) tw_856 rfl rfl dX12_count_93 rfl ?_
    exact r_iret C E (pr1 hf) (pr2 hf) dX12_count_96
  have hf := ifF c7 hf
  refine r_tableOut (x := v1) 97 C dX12_count_1 (tsw_8 c0 c1 c2 c3 c4 c5 c6 c7) (by decide) ?_
  refine r_bipush (v := -3) 99 C dX12_count_97 (by decide) rfl ?_
  exact r_iret C E (pr1 hf) (pr2 hf) dX12_count_99
