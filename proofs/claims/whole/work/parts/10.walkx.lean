def f_X11_isWithin (v0 : Int32) (v1 : Int32) (v2 : Int32) (u : S2) : Option (Int32 × S2) := (if v0 < v1 then some ((0 : Int32), u) else (if v2 < v0 then some ((0 : Int32), u) else some ((1 : Int32), u)))
set_option maxRecDepth 20000 in
theorem c_X11_isWithin (ad : Nat → Nat) (v0 : Int32) (v1 : Int32) (v2 : Int32)    (u : S2) (r : Int32) (w : S2) (hf : f_X11_isWithin v0 v1 v2 u = some (r, w)) : HI yX11_isWithin cX11_isWithin 3 (some .boolean) 0 0 ad [.int v0, .int v1, .int v2] u r w := by
  refine HI_of (by decide) (Nat.le_of_ble_eq_true rfl) (fun K C hR E => ?_)
  refine r_sub [(0, .int v0), (1, .int v1), (2, .int v2)] [0, 1, 2] rfl ?_
  unfold f_X11_isWithin at hf
  refine r_iload_n 1 0 C dX11_isWithin_0 rfl rfl rfl ?_
  refine r_iload_n 2 1 C dX11_isWithin_1 rfl rfl rfl ?_
  refine r_icmp_lt 5 14 C dX11_isWithin_2 (by decide) rfl (fun c0 => ?_) (fun c0 => ?_)
  · have hf := ifT c0 hf
    refine r_iconst (v := 0) 15 C dX11_isWithin_14 (by decide) rfl ?_
    exact r_zret C E rfl (pr1 hf) (pr2 hf) dX11_isWithin_15
  · have hf := ifF c0 hf
    refine r_iload_n 6 0 C dX11_isWithin_5 rfl rfl rfl ?_
    refine r_iload_n 7 2 C dX11_isWithin_6 rfl rfl rfl ?_
    refine r_icmp_gt 10 14 C dX11_isWithin_7 (by decide) rfl (fun c1 => ?_) (fun c1 => ?_)
    · have hf := ifT c1 hf
      refine r_iconst (v := 0) 15 C dX11_isWithin_14 (by decide) rfl ?_
      exact r_zret C E rfl (pr1 hf) (pr2 hf) dX11_isWithin_15
    · have hf := ifF c1 hf
      refine r_iconst (v := 1) 11 C dX11_isWithin_10 (by decide) rfl ?_
      refine r_goto 15 C dX11_isWithin_11 (by decide) ?_
      exact r_zret C E rfl (pr1 hf) (pr2 hf) dX11_isWithin_15
def f_X11_isSpeed (v0 : Int32) (u : S2) : Option (Int32 × S2) := bd (f_X11_isWithin v0 (0 : Int32) (40 : Int32) u) (fun r0 u0 => ck (isB r0) (some (r0, u0)))
set_option maxRecDepth 20000 in
theorem c_X11_isSpeed (ad : Nat → Nat) (v0 : Int32)  (u : S2) (r : Int32) (w : S2) (hf : f_X11_isSpeed v0 u = some (r, w)) : HI yX11_isSpeed cX11_isSpeed 1 (some .boolean) 1 22 ad [.int v0] u r w := by
  refine HI_of (by decide) (Nat.le_of_ble_eq_true rfl) (fun K C hR E => ?_)
  refine r_sub [(0, .int v0)] [0] rfl ?_
  unfold f_X11_isSpeed at hf
  refine r_iload_n 1 0 C dX11_isSpeed_0 rfl rfl rfl ?_
  refine r_iconst (v := 0) 2 C dX11_isSpeed_1 (by decide) rfl ?_
  refine r_bipush (v := 40) 4 C dX11_isSpeed_2 (by decide) rfl ?_
  obtain ⟨r0, u0, h0, hf⟩ := bd_of hf
  refine r_cSI 7 [.int v0, .int (0 : Int32), .int (40 : Int32)] C hR (c_X11_isWithin ad v0 (0 : Int32) (40 : Int32)    u r0 u0 h0) q_X11_isWithin tw_356 tw_357 (Nat.le_of_ble_eq_true rfl) (Nat.le_of_ble_eq_true rfl) rfl rfl (Nat.le_of_ble_eq_true rfl) dX11_isSpeed_4 rfl ?_
  obtain ⟨hc0, hf⟩ := ck_of hf
  exact r_zret C E (isB_nar hc0) (pr1 hf) (pr2 hf) dX11_isSpeed_7
def f_X11_isPlace (v0 : Int32) (u : S2) : Option (Int32 × S2) := bd (f_X11_isWithin v0 (-89 : Int32) (89 : Int32) u) (fun r0 u0 => ck (isB r0) (some (r0, u0)))
set_option maxRecDepth 20000 in
theorem c_X11_isPlace (ad : Nat → Nat) (v0 : Int32)  (u : S2) (r : Int32) (w : S2) (hf : f_X11_isPlace v0 u = some (r, w)) : HI yX11_isPlace cX11_isPlace 1 (some .boolean) 1 22 ad [.int v0] u r w := by
  refine HI_of (by decide) (Nat.le_of_ble_eq_true rfl) (fun K C hR E => ?_)
  refine r_sub [(0, .int v0)] [0] rfl ?_
  unfold f_X11_isPlace at hf
  refine r_iload_n 1 0 C dX11_isPlace_0 rfl rfl rfl ?_
  refine r_bipush (v := -89) 3 C dX11_isPlace_1 (by decide) rfl ?_
  refine r_bipush (v := 89) 5 C dX11_isPlace_3 (by decide) rfl ?_
  obtain ⟨r0, u0, h0, hf⟩ := bd_of hf
  refine r_cSI 8 [.int v0, .int (-89 : Int32), .int (89 : Int32)] C hR (c_X11_isWithin ad v0 (-89 : Int32) (89 : Int32)    u r0 u0 h0) q_X11_isWithin tw_356 tw_357 (Nat.le_of_ble_eq_true rfl) (Nat.le_of_ble_eq_true rfl) rfl rfl (Nat.le_of_ble_eq_true rfl) dX11_isPlace_5 rfl ?_
  obtain ⟨hc0, hf⟩ := ck_of hf
  exact r_zret C E (isB_nar hc0) (pr1 hf) (pr2 hf) dX11_isPlace_8
def f_X11_set_95  (v1 : Int32) (v2 : Int32) (u : S2) : Option (Int32 × S2) := (if v1 = (3 : Int32) then bd (f_X11_isWithin v2 (-35 : Int32) (35 : Int32) u) (fun r0 u0 => (if r0 = 0 then some ((-3 : Int32), u0) else nm (u0 5 6) (fun x0 => nm (wr u0 5 6 v2) (fun u1 => some (x0 + (100 : Int32), u1))))) else some ((-3 : Int32), u))
set_option maxRecDepth 20000 in
theorem w_X11_set_95 {K : Ctx} {ad : Nat → Nat} (C : Cx K ad cX11_set 4 yX11_set.cls (some .int)) (hR : Rm K 2 42) {r : Int32} {w : S2} (E : EI K ad r w)  (v1 : Int32) (v2 : Int32)   (u : S2) (hf : f_X11_set_95  v1 v2 u = some (r, w)) : RW K ad 4 95 [(0, .ref (ad 0)), (1, .int v1), (2, .int v2)] [] u := by
  unfold f_X11_set_95 at hf
  refine r_iload_n 96 1 C dX11_set_95 rfl rfl rfl ?_
  refine r_iconst (v := 3) 97 C dX11_set_96 (by decide) rfl ?_
  refine r_icmp_ne 100 130 C dX11_set_97 (by decide) rfl (fun c0 => ?_) (fun c0 => ?_)
  · have hf := ifF c0 hf
    refine r_bipush (v := -3) 132 C dX11_set_130 (by decide) rfl ?_
    exact r_iret C E (pr1 hf) (pr2 hf) dX11_set_132
  · have hf := ifT c0 hf
    refine r_iload_n 101 2 C dX11_set_100 rfl rfl rfl ?_
    refine r_bipush (v := -35) 103 C dX11_set_101 (by decide) rfl ?_
    refine r_bipush (v := 35) 105 C dX11_set_103 (by decide) rfl ?_
    obtain ⟨r0, u0, h0, hf⟩ := bd_of hf
    refine r_cSI 108 [.int v2, .int (-35 : Int32), .int (35 : Int32)] C hR (c_X11_isWithin ad v2 (-35 : Int32) (35 : Int32)    u r0 u0 h0) q_X11_isWithin tw_356 tw_357 (Nat.le_of_ble_eq_true rfl) (Nat.le_of_ble_eq_true rfl) rfl rfl (Nat.le_of_ble_eq_true rfl) dX11_set_105 rfl ?_
    refine r_if_eq 111 130 C dX11_set_108 (by decide) rfl (fun c1 => ?_) (fun c1 => ?_)
    · have hf := ifT c1 hf
      refine r_bipush (v := -3) 132 C dX11_set_130 (by decide) rfl ?_
      exact r_iret C E (pr1 hf) (pr2 hf) dX11_set_132
    · have hf := ifF c1 hf
      refine r_aload_n 112 0 C dX11_set_111 rfl rfl rfl ?_
      refine r_get 115 0 2 C inX11 (wd_0 ad u0) rfl (by decide) tw_320 rfl rfl dX11_set_112 rfl ?_
      refine r_getN 118 5 6 C inX7 (wd_5 ad u0) rfl (by decide) tn_121 rfl rfl dX11_set_115 rfl ?_
      obtain ⟨x0, ex0, hf⟩ := nm_of hf
      refine r_nm ex0 ?_
      refine r_istore_n 119 [(0, .ref (ad 0)), (1, .int v1), (2, .int v2), (3, .int x0)] [1, 2, 3, 0] C dX11_set_118 rfl (by decide) rfl rfl ?_
      refine r_aload_n 120 0 C dX11_set_119 rfl rfl rfl ?_
      refine r_get 123 0 2 C inX11 (wd_0 ad u0) rfl (by decide) tw_320 rfl rfl dX11_set_120 rfl ?_
      refine r_iload_n 124 2 C dX11_set_123 rfl rfl rfl ?_
      refine r_putN 127 5 6 C inX7 tyX7_ok nmX7 (wd_5 ad u0) (sF_5_6 ad u0 v2) rfl (by decide) tn_121 rfl rfl (tyX7_ok 6 (by decide)) rfl rfl (Nat.le_of_ble_eq_true rfl) dX11_set_124 rfl ?_
      obtain ⟨u1, eu1, hf⟩ := nm_of hf
      refine r_st eu1 ?_
      refine r_goto 133 C dX11_set_127 (by decide) ?_
      refine r_iload_n 134 3 C dX11_set_133 rfl rfl rfl ?_
      refine r_bipush (v := 100) 136 C dX11_set_134 (by decide) rfl ?_
      refine r_iadd 137 C dX11_set_136 rfl ?_
      exact r_iret C E (pr1 hf) (pr2 hf) dX11_set_137
def f_X11_set_61  (v1 : Int32) (v2 : Int32) (u : S2) : Option (Int32 × S2) := (if v1 = (2 : Int32) then bd (f_X11_isWithin v2 (0 : Int32) (99 : Int32) u) (fun r0 u0 => (if r0 = 0 then f_X11_set_95   v1 v2 u0 else nm (u0 5 7) (fun x0 => nm (wr u0 5 7 v2) (fun u1 => some (x0 + (100 : Int32), u1))))) else f_X11_set_95   v1 v2 u)
set_option maxRecDepth 20000 in
theorem w_X11_set_61 {K : Ctx} {ad : Nat → Nat} (C : Cx K ad cX11_set 4 yX11_set.cls (some .int)) (hR : Rm K 2 42) {r : Int32} {w : S2} (E : EI K ad r w)  (v1 : Int32) (v2 : Int32)   (u : S2) (hf : f_X11_set_61  v1 v2 u = some (r, w)) : RW K ad 4 61 [(0, .ref (ad 0)), (1, .int v1), (2, .int v2)] [] u := by
  unfold f_X11_set_61 at hf
  refine r_iload_n 62 1 C dX11_set_61 rfl rfl rfl ?_
  refine r_iconst (v := 2) 63 C dX11_set_62 (by decide) rfl ?_
  refine r_icmp_ne 66 95 C dX11_set_63 (by decide) rfl (fun c0 => ?_) (fun c0 => ?_)
  · have hf := ifF c0 hf
    refine r_sub [(0, .ref (ad 0)), (1, .int v1), (2, .int v2)] [0, 1, 2] rfl ?_
    exact w_X11_set_95 C hR E   v1 v2   u hf
  · have hf := ifT c0 hf
    refine r_iload_n 67 2 C dX11_set_66 rfl rfl rfl ?_
    refine r_iconst (v := 0) 68 C dX11_set_67 (by decide) rfl ?_
    refine r_bipush (v := 99) 70 C dX11_set_68 (by decide) rfl ?_
    obtain ⟨r0, u0, h0, hf⟩ := bd_of hf
    refine r_cSI 73 [.int v2, .int (0 : Int32), .int (99 : Int32)] C hR (c_X11_isWithin ad v2 (0 : Int32) (99 : Int32)    u r0 u0 h0) q_X11_isWithin tw_356 tw_357 (Nat.le_of_ble_eq_true rfl) (Nat.le_of_ble_eq_true rfl) rfl rfl (Nat.le_of_ble_eq_true rfl) dX11_set_70 rfl ?_
    refine r_if_eq 76 95 C dX11_set_73 (by decide) rfl (fun c1 => ?_) (fun c1 => ?_)
    · have hf := ifT c1 hf
      refine r_sub [(0, .ref (ad 0)), (1, .int v1), (2, .int v2)] [0, 1, 2] rfl ?_
      exact w_X11_set_95 C hR E   v1 v2   u0 hf
    · have hf := ifF c1 hf
      refine r_aload_n 77 0 C dX11_set_76 rfl rfl rfl ?_
      refine r_get 80 0 2 C inX11 (wd_0 ad u0) rfl (by decide) tw_320 rfl rfl dX11_set_77 rfl ?_
      refine r_getN 83 5 7 C inX7 (wd_5 ad u0) rfl (by decide) tn_124 rfl rfl dX11_set_80 rfl ?_
      obtain ⟨x0, ex0, hf⟩ := nm_of hf
      refine r_nm ex0 ?_
      refine r_istore_n 84 [(0, .ref (ad 0)), (1, .int v1), (2, .int v2), (3, .int x0)] [1, 2, 3, 0] C dX11_set_83 rfl (by decide) rfl rfl ?_
      refine r_aload_n 85 0 C dX11_set_84 rfl rfl rfl ?_
      refine r_get 88 0 2 C inX11 (wd_0 ad u0) rfl (by decide) tw_320 rfl rfl dX11_set_85 rfl ?_
      refine r_iload_n 89 2 C dX11_set_88 rfl rfl rfl ?_
      refine r_putN 92 5 7 C inX7 tyX7_ok nmX7 (wd_5 ad u0) (sF_5_7 ad u0 v2) rfl (by decide) tn_124 rfl rfl (tyX7_ok 7 (by decide)) rfl rfl (Nat.le_of_ble_eq_true rfl) dX11_set_89 rfl ?_
      obtain ⟨u1, eu1, hf⟩ := nm_of hf
      refine r_st eu1 ?_
      refine r_goto 133 C dX11_set_92 (by decide) ?_
      refine r_iload_n 134 3 C dX11_set_133 rfl rfl rfl ?_
      refine r_bipush (v := 100) 136 C dX11_set_134 (by decide) rfl ?_
      refine r_iadd 137 C dX11_set_136 rfl ?_
      exact r_iret C E (pr1 hf) (pr2 hf) dX11_set_137
def f_X11_set_30  (v1 : Int32) (v2 : Int32) (u : S2) : Option (Int32 × S2) := (if v1 = (1 : Int32) then bd (f_X11_isSpeed v2 u) (fun r0 u0 => (if r0 = 0 then f_X11_set_61   v1 v2 u0 else nm (u0 5 5) (fun x0 => nm (wr u0 5 5 v2) (fun u1 => some (x0 + (100 : Int32), u1))))) else f_X11_set_61   v1 v2 u)
set_option maxRecDepth 20000 in
theorem w_X11_set_30 {K : Ctx} {ad : Nat → Nat} (C : Cx K ad cX11_set 4 yX11_set.cls (some .int)) (hR : Rm K 2 42) {r : Int32} {w : S2} (E : EI K ad r w)  (v1 : Int32) (v2 : Int32)   (u : S2) (hf : f_X11_set_30  v1 v2 u = some (r, w)) : RW K ad 4 30 [(0, .ref (ad 0)), (1, .int v1), (2, .int v2)] [] u := by
  unfold f_X11_set_30 at hf
  refine r_iload_n 31 1 C dX11_set_30 rfl rfl rfl ?_
  refine r_iconst (v := 1) 32 C dX11_set_31 (by decide) rfl ?_
  refine r_icmp_ne 35 61 C dX11_set_32 (by decide) rfl (fun c0 => ?_) (fun c0 => ?_)
  · have hf := ifF c0 hf
    refine r_sub [(0, .ref (ad 0)), (1, .int v1), (2, .int v2)] [0, 1, 2] rfl ?_
    exact w_X11_set_61 C hR E   v1 v2   u hf
  · have hf := ifT c0 hf
    refine r_iload_n 36 2 C dX11_set_35 rfl rfl rfl ?_
    obtain ⟨r0, u0, h0, hf⟩ := bd_of hf
    refine r_cSI 39 [.int v2] C hR (c_X11_isSpeed ad v2  u r0 u0 h0) q_X11_isSpeed tw_359 tw_360 (Nat.le_of_ble_eq_true rfl) (Nat.le_of_ble_eq_true rfl) rfl rfl (Nat.le_of_ble_eq_true rfl) dX11_set_36 rfl ?_
    refine r_if_eq 42 61 C dX11_set_39 (by decide) rfl (fun c1 => ?_) (fun c1 => ?_)
    · have hf := ifT c1 hf
      refine r_sub [(0, .ref (ad 0)), (1, .int v1), (2, .int v2)] [0, 1, 2] rfl ?_
      exact w_X11_set_61 C hR E   v1 v2   u0 hf
    · have hf := ifF c1 hf
      refine r_aload_n 43 0 C dX11_set_42 rfl rfl rfl ?_
      refine r_get 46 0 2 C inX11 (wd_0 ad u0) rfl (by decide) tw_320 rfl rfl dX11_set_43 rfl ?_
      refine r_getN 49 5 5 C inX7 (wd_5 ad u0) rfl (by decide) tn_117 rfl rfl dX11_set_46 rfl ?_
      obtain ⟨x0, ex0, hf⟩ := nm_of hf
      refine r_nm ex0 ?_
      refine r_istore_n 50 [(0, .ref (ad 0)), (1, .int v1), (2, .int v2), (3, .int x0)] [1, 2, 3, 0] C dX11_set_49 rfl (by decide) rfl rfl ?_
      refine r_aload_n 51 0 C dX11_set_50 rfl rfl rfl ?_
      refine r_get 54 0 2 C inX11 (wd_0 ad u0) rfl (by decide) tw_320 rfl rfl dX11_set_51 rfl ?_
      refine r_iload_n 55 2 C dX11_set_54 rfl rfl rfl ?_
      refine r_putN 58 5 5 C inX7 tyX7_ok nmX7 (wd_5 ad u0) (sF_5_5 ad u0 v2) rfl (by decide) tn_117 rfl rfl (tyX7_ok 5 (by decide)) rfl rfl (Nat.le_of_ble_eq_true rfl) dX11_set_55 rfl ?_
      obtain ⟨u1, eu1, hf⟩ := nm_of hf
      refine r_st eu1 ?_
      refine r_goto 133 C dX11_set_58 (by decide) ?_
      refine r_iload_n 134 3 C dX11_set_133 rfl rfl rfl ?_
      refine r_bipush (v := 100) 136 C dX11_set_134 (by decide) rfl ?_
      refine r_iadd 137 C dX11_set_136 rfl ?_
      exact r_iret C E (pr1 hf) (pr2 hf) dX11_set_137
def f_X11_set (v1 : Int32) (v2 : Int32) (u : S2) : Option (Int32 × S2) := (if v1 = 0 then bd (f_X11_isPlace v2 u) (fun r0 u0 => (if r0 = 0 then f_X11_set_30   v1 v2 u0 else nm (u0 5 3) (fun x0 => nm (wr u0 5 3 v2) (fun u1 => some (x0 + (100 : Int32), u1))))) else f_X11_set_30   v1 v2 u)
set_option maxRecDepth 20000 in
theorem c_X11_set (ad : Nat → Nat) (v1 : Int32) (v2 : Int32)   (u : S2) (r : Int32) (w : S2) (hf : f_X11_set v1 v2 u = some (r, w)) : HI yX11_set cX11_set 4 (some .int) 2 42 ad [.ref (ad 0), .int v1, .int v2] u r w := by
  refine HI_of (by decide) (Nat.le_of_ble_eq_true rfl) (fun K C hR E => ?_)
  refine r_sub [(0, .ref (ad 0)), (1, .int v1), (2, .int v2)] [0, 1, 2] rfl ?_
  unfold f_X11_set at hf
  refine r_iload_n 1 1 C dX11_set_0 rfl rfl rfl ?_
  refine r_if_ne 4 30 C dX11_set_1 (by decide) rfl (fun c0 => ?_) (fun c0 => ?_)
  · have hf := ifF c0 hf
    refine r_sub [(0, .ref (ad 0)), (1, .int v1), (2, .int v2)] [0, 1, 2] rfl ?_
    exact w_X11_set_30 C hR E   v1 v2   u hf
  · have hf := ifT c0 hf
    refine r_iload_n 5 2 C dX11_set_4 rfl rfl rfl ?_
    obtain ⟨r0, u0, h0, hf⟩ := bd_of hf
    refine r_cSI 8 [.int v2] C hR (c_X11_isPlace ad v2  u r0 u0 h0) q_X11_isPlace tw_353 tw_354 (Nat.le_of_ble_eq_true rfl) (Nat.le_of_ble_eq_true rfl) rfl rfl (Nat.le_of_ble_eq_true rfl) dX11_set_5 rfl ?_
    refine r_if_eq 11 30 C dX11_set_8 (by decide) rfl (fun c1 => ?_) (fun c1 => ?_)
    · have hf := ifT c1 hf
      refine r_sub [(0, .ref (ad 0)), (1, .int v1), (2, .int v2)] [0, 1, 2] rfl ?_
      exact w_X11_set_30 C hR E   v1 v2   u0 hf
    · have hf := ifF c1 hf
      refine r_aload_n 12 0 C dX11_set_11 rfl rfl rfl ?_
      refine r_get 15 0 2 C inX11 (wd_0 ad u0) rfl (by decide) tw_320 rfl rfl dX11_set_12 rfl ?_
      refine r_getN 18 5 3 C inX7 (wd_5 ad u0) rfl (by decide) tn_109 rfl rfl dX11_set_15 rfl ?_
      obtain ⟨x0, ex0, hf⟩ := nm_of hf
      refine r_nm ex0 ?_
      refine r_istore_n 19 [(0, .ref (ad 0)), (1, .int v1), (2, .int v2), (3, .int x0)] [1, 2, 3, 0] C dX11_set_18 rfl (by decide) rfl rfl ?_
      refine r_aload_n 20 0 C dX11_set_19 rfl rfl rfl ?_
      refine r_get 23 0 2 C inX11 (wd_0 ad u0) rfl (by decide) tw_320 rfl rfl dX11_set_20 rfl ?_
      refine r_iload_n 24 2 C dX11_set_23 rfl rfl rfl ?_
      refine r_putN 27 5 3 C inX7 tyX7_ok nmX7 (wd_5 ad u0) (sF_5_3 ad u0 v2) rfl (by decide) tn_109 rfl rfl (tyX7_ok 3 (by decide)) rfl rfl (Nat.le_of_ble_eq_true rfl) dX11_set_24 rfl ?_
      obtain ⟨u1, eu1, hf⟩ := nm_of hf
      refine r_st eu1 ?_
      refine r_goto 133 C dX11_set_27 (by decide) ?_
      refine r_iload_n 134 3 C dX11_set_133 rfl rfl rfl ?_
      refine r_bipush (v := 100) 136 C dX11_set_134 (by decide) rfl ?_
      refine r_iadd 137 C dX11_set_136 rfl ?_
      exact r_iret C E (pr1 hf) (pr2 hf) dX11_set_137
def f_X11_isHeading (v0 : Int32) (u : S2) : Option (Int32 × S2) := bd (f_X11_isWithin v0 (0 : Int32) (35999 : Int32) u) (fun r0 u0 => ck (isB r0) (some (r0, u0)))
set_option maxRecDepth 20000 in
theorem c_X11_isHeading (ad : Nat → Nat) (v0 : Int32)  (u : S2) (r : Int32) (w : S2) (hf : f_X11_isHeading v0 u = some (r, w)) : HI yX11_isHeading cX11_isHeading 1 (some .boolean) 1 22 ad [.int v0] u r w := by
  refine HI_of (by decide) (Nat.le_of_ble_eq_true rfl) (fun K C hR E => ?_)
  refine r_sub [(0, .int v0)] [0] rfl ?_
  unfold f_X11_isHeading at hf
  refine r_iload_n 1 0 C dX11_isHeading_0 rfl rfl rfl ?_
  refine r_iconst (v := 0) 2 C dX11_isHeading_1 (by decide) rfl ?_
  refine r_ldcw (v := 35999) 5 C tw_369 dX11_isHeading_2 rfl ?_
  obtain ⟨r0, u0, h0, hf⟩ := bd_of hf
  refine r_cSI 8 [.int v0, .int (0 : Int32), .int (35999 : Int32)] C hR (c_X11_isWithin ad v0 (0 : Int32) (35999 : Int32)    u r0 u0 h0) q_X11_isWithin tw_356 tw_357 (Nat.le_of_ble_eq_true rfl) (Nat.le_of_ble_eq_true rfl) rfl rfl (Nat.le_of_ble_eq_true rfl) dX11_isHeading_5 rfl ?_
  obtain ⟨hc0, hf⟩ := ck_of hf
  exact r_zret C E (isB_nar hc0) (pr1 hf) (pr2 hf) dX11_isHeading_8
def f_X11_head (v1 : Int32) (u : S2) : Option (Int32 × S2) := bd (f_X11_isHeading v1 u) (fun r0 u0 => (if r0 = 0 then some ((-3 : Int32), u0) else nm (u0 5 4) (fun x0 => nm (wr u0 5 4 v1) (fun u1 => some (x0, u1)))))
set_option maxRecDepth 20000 in
theorem c_X11_head (ad : Nat → Nat) (v1 : Int32)  (u : S2) (r : Int32) (w : S2) (hf : f_X11_head v1 u = some (r, w)) : HI yX11_head cX11_head 3 (some .int) 2 42 ad [.ref (ad 0), .int v1] u r w := by
  refine HI_of (by decide) (Nat.le_of_ble_eq_true rfl) (fun K C hR E => ?_)
  refine r_sub [(0, .ref (ad 0)), (1, .int v1)] [0, 1] rfl ?_
  unfold f_X11_head at hf
  refine r_iload_n 1 1 C dX11_head_0 rfl rfl rfl ?_
  obtain ⟨r0, u0, h0, hf⟩ := bd_of hf
  refine r_cSI 4 [.int v1] C hR (c_X11_isHeading ad v1  u r0 u0 h0) q_X11_isHeading tw_366 tw_367 (Nat.le_of_ble_eq_true rfl) (Nat.le_of_ble_eq_true rfl) rfl rfl (Nat.le_of_ble_eq_true rfl) dX11_head_1 rfl ?_
  refine r_if_ne 7 10 C dX11_head_4 (by decide) rfl (fun c0 => ?_) (fun c0 => ?_)
  · have hf := ifF c0 hf
    refine r_aload_n 11 0 C dX11_head_10 rfl rfl rfl ?_
    refine r_get 14 0 2 C inX11 (wd_0 ad u0) rfl (by decide) tw_320 rfl rfl dX11_head_11 rfl ?_
    refine r_getN 17 5 4 C inX7 (wd_5 ad u0) rfl (by decide) tn_113 rfl rfl dX11_head_14 rfl ?_
    obtain ⟨x0, ex0, hf⟩ := nm_of hf
    refine r_nm ex0 ?_
    refine r_istore_n 18 [(0, .ref (ad 0)), (1, .int v1), (2, .int x0)] [1, 2, 0] C dX11_head_17 rfl (by decide) rfl rfl ?_
    refine r_aload_n 19 0 C dX11_head_18 rfl rfl rfl ?_
    refine r_get 22 0 2 C inX11 (wd_0 ad u0) rfl (by decide) tw_320 rfl rfl dX11_head_19 rfl ?_
    refine r_iload_n 23 1 C dX11_head_22 rfl rfl rfl ?_
    refine r_putN 26 5 4 C inX7 tyX7_ok nmX7 (wd_5 ad u0) (sF_5_4 ad u0 v1) rfl (by decide) tn_113 rfl rfl (tyX7_ok 4 (by decide)) rfl rfl (Nat.le_of_ble_eq_true rfl) dX11_head_23 rfl ?_
    obtain ⟨u1, eu1, hf⟩ := nm_of hf
    refine r_st eu1 ?_
    refine r_iload_n 27 2 C dX11_head_26 rfl rfl rfl ?_
    exact r_iret C E (pr1 hf) (pr2 hf) dX11_head_27
  · have hf := ifT c0 hf
    refine r_bipush (v := -3) 9 C dX11_head_7 (by decide) rfl ?_
    exact r_iret C E (pr1 hf) (pr2 hf) dX11_head_9
def f_X11_isTurn (v0 : Int32) (u : S2) : Option (Int32 × S2) := bd (f_X11_isWithin v0 (-999 : Int32) (999 : Int32) u) (fun r0 u0 => ck (isB r0) (some (r0, u0)))
set_option maxRecDepth 20000 in
theorem c_X11_isTurn (ad : Nat → Nat) (v0 : Int32)  (u : S2) (r : Int32) (w : S2) (hf : f_X11_isTurn v0 u = some (r, w)) : HI yX11_isTurn cX11_isTurn 1 (some .boolean) 1 22 ad [.int v0] u r w := by
  refine HI_of (by decide) (Nat.le_of_ble_eq_true rfl) (fun K C hR E => ?_)
  refine r_sub [(0, .int v0)] [0] rfl ?_
  unfold f_X11_isTurn at hf
  refine r_iload_n 1 0 C dX11_isTurn_0 rfl rfl rfl ?_
  refine r_sipush (v := -999) 4 C dX11_isTurn_1 (by decide) rfl ?_
  refine r_sipush (v := 999) 7 C dX11_isTurn_4 (by decide) rfl ?_
  obtain ⟨r0, u0, h0, hf⟩ := bd_of hf
  refine r_cSI 10 [.int v0, .int (-999 : Int32), .int (999 : Int32)] C hR (c_X11_isWithin ad v0 (-999 : Int32) (999 : Int32)    u r0 u0 h0) q_X11_isWithin tw_356 tw_357 (Nat.le_of_ble_eq_true rfl) (Nat.le_of_ble_eq_true rfl) rfl rfl (Nat.le_of_ble_eq_true rfl) dX11_isTurn_7 rfl ?_
  obtain ⟨hc0, hf⟩ := ck_of hf
  exact r_zret C E (isB_nar hc0) (pr1 hf) (pr2 hf) dX11_isTurn_10
def f_X6_add (v1 : Int32) (u : S2) : Option (Int32 × S2) := (if (u 1 1) < (24 : Int32) then ck (inb (u 1 1) 24) (nm (wr u 2 (Int32.toNatClampNeg (u 1 1)) v1) (fun u0 => nm ((u0 1 1) + (1 : Int32)) (fun x0 => nm (wr u0 1 1 x0) (fun u1 => some (u1 1 1, u1))))) else some ((-5 : Int32), u))
set_option maxRecDepth 20000 in
theorem c_X6_add (ad : Nat → Nat) (v1 : Int32)  (u : S2) (r : Int32) (w : S2) (hf : f_X6_add v1 u = some (r, w)) : HI yX6_add cX6_add 2 (some .int) 0 0 ad [.ref (ad 1), .int v1] u r w := by
  refine HI_of (by decide) (Nat.le_of_ble_eq_true rfl) (fun K C hR E => ?_)
  refine r_sub [(0, .ref (ad 1)), (1, .int v1)] [0, 1] rfl ?_
  unfold f_X6_add at hf
  refine r_aload_n 1 0 C dX6_add_0 rfl rfl rfl ?_
  refine r_get 4 1 1 C inX6 (wd_1 ad u) rfl (by decide) tw_35 rfl rfl dX6_add_1 rfl ?_
  refine r_bipush (v := 24) 6 C dX6_add_4 (by decide) rfl ?_
  refine r_icmp_lt 9 12 C dX6_add_6 (by decide) rfl (fun c0 => ?_) (fun c0 => ?_)
  · have hf := ifT c0 hf
    refine r_aload_n 13 0 C dX6_add_12 rfl rfl rfl ?_
    refine r_get 16 1 0 C inX6 (wd_1 ad u) rfl (by decide) tw_34 rfl rfl dX6_add_13 rfl ?_
    refine r_aload_n 17 0 C dX6_add_16 rfl rfl rfl ?_
    refine r_get 20 1 1 C inX6 (wd_1 ad u) rfl (by decide) tw_35 rfl rfl dX6_add_17 rfl ?_
    refine r_iload_n 21 1 C dX6_add_20 rfl rfl rfl ?_
    obtain ⟨hc0, hf⟩ := ck_of hf
    refine r_iastore 22 2 24 C (wd_2 ad u) (sA_2 ad u) hc0 dX6_add_21 rfl ?_
    obtain ⟨u0, eu0, hf⟩ := nm_of hf
    refine r_st eu0 ?_
    refine r_aload_n 23 0 C dX6_add_22 rfl rfl rfl ?_
    refine r_dup 24 C dX6_add_23 rfl rfl ?_
    refine r_get 27 1 1 C inX6 (wd_1 ad u0) rfl (by decide) tw_35 rfl rfl dX6_add_24 rfl ?_
    refine r_iconst (v := 1) 28 C dX6_add_27 (by decide) rfl ?_
    refine r_iadd 29 C dX6_add_28 rfl ?_
    obtain ⟨x0, ex0, hf⟩ := nm_of hf
    refine r_nm ex0 ?_
    refine r_put 32 1 1 C inX6 tyX6_ok nmX6 (wd_1 ad u0) (sF_1_1 ad u0 x0) rfl (by decide) tw_35 rfl rfl (tyX6_ok 1 (by decide)) rfl rfl (Nat.le_of_ble_eq_true rfl) dX6_add_29 rfl ?_
    obtain ⟨u1, eu1, hf⟩ := nm_of hf
    refine r_st eu1 ?_
    refine r_aload_n 33 0 C dX6_add_32 rfl rfl rfl ?_
    refine r_get 36 1 1 C inX6 (wd_1 ad u1) rfl (by decide) tw_35 rfl rfl dX6_add_33 rfl ?_
    exact r_iret C E (pr1 hf) (pr2 hf) dX6_add_36
  · have hf := ifF c0 hf
    refine r_bipush (v := -5) 11 C dX6_add_9 (by decide) rfl ?_
    exact r_iret C E (pr1 hf) (pr2 hf) dX6_add_11
def f_X11_sea (v1 : Int32) (u : S2) : Option (Int32 × S2) := bd (f_X11_isTurn v1 u) (fun r0 u0 => (if r0 = 0 then some ((-3 : Int32), u0) else bd (f_X6_add v1 u0) (fun r1 u1 => some (r1, u1))))
set_option maxRecDepth 20000 in
theorem c_X11_sea (ad : Nat → Nat) (v1 : Int32)  (u : S2) (r : Int32) (w : S2) (hf : f_X11_sea v1 u = some (r, w)) : HI yX11_sea cX11_sea 2 (some .int) 2 42 ad [.ref (ad 0), .int v1] u r w := by
  refine HI_of (by decide) (Nat.le_of_ble_eq_true rfl) (fun K C hR E => ?_)
  refine r_sub [(0, .ref (ad 0)), (1, .int v1)] [0, 1] rfl ?_
  unfold f_X11_sea at hf
  refine r_iload_n 1 1 C dX11_sea_0 rfl rfl rfl ?_
  obtain ⟨r0, u0, h0, hf⟩ := bd_of hf
  refine r_cSI 4 [.int v1] C hR (c_X11_isTurn ad v1  u r0 u0 h0) q_X11_isTurn tw_374 tw_375 (Nat.le_of_ble_eq_true rfl) (Nat.le_of_ble_eq_true rfl) rfl rfl (Nat.le_of_ble_eq_true rfl) dX11_sea_1 rfl ?_
  refine r_if_ne 7 10 C dX11_sea_4 (by decide) rfl (fun c0 => ?_) (fun c0 => ?_)
  · have hf := ifF c0 hf
    refine r_aload_n 11 0 C dX11_sea_10 rfl rfl rfl ?_
    refine r_get 14 0 0 C inX11 (wd_0 ad u0) rfl (by decide) tw_318 rfl rfl dX11_sea_11 rfl ?_
    refine r_iload_n 15 1 C dX11_sea_14 rfl rfl rfl ?_
    obtain ⟨r1, u1, h1, hf⟩ := bd_of hf
    refine r_cVNI 18 [.int v1] C hR (c_X6_add ad v1   u0 r1 u1 h1) q_X6_add tn_377 (wd_1 ad u0) rfl rfl tw_379 tp_0 (Nat.le_of_ble_eq_true rfl) (Nat.le_of_ble_eq_true rfl) rfl rfl (Nat.le_of_ble_eq_true rfl) dX11_sea_15 rfl ?_
    exact r_iret C E (pr1 hf) (pr2 hf) dX11_sea_18
  · have hf := ifT c0 hf
    refine r_bipush (v := -3) 9 C dX11_sea_7 (by decide) rfl ?_
    exact r_iret C E (pr1 hf) (pr2 hf) dX11_sea_9
def f_X11_calm  (u : S2) : Option (Int32 × S2) := nm (u 1 1) (fun x0 => nm (wr u 1 1 (0 : Int32)) (fun u0 => some (x0, u0)))
set_option maxRecDepth 20000 in
theorem c_X11_calm (ad : Nat → Nat)   (u : S2) (r : Int32) (w : S2) (hf : f_X11_calm  u = some (r, w)) : HI yX11_calm cX11_calm 2 (some .int) 0 0 ad [.ref (ad 0)] u r w := by
  refine HI_of (by decide) (Nat.le_of_ble_eq_true rfl) (fun K C hR E => ?_)
  refine r_sub [(0, .ref (ad 0))] [0] rfl ?_
  unfold f_X11_calm at hf
  refine r_aload_n 1 0 C dX11_calm_0 rfl rfl rfl ?_
  refine r_get 4 0 0 C inX11 (wd_0 ad u) rfl (by decide) tw_318 rfl rfl dX11_calm_1 rfl ?_
  refine r_getN 7 1 1 C inX6 (wd_1 ad u) rfl (by decide) tn_36 rfl rfl dX11_calm_4 rfl ?_
  obtain ⟨x0, ex0, hf⟩ := nm_of hf
  refine r_nm ex0 ?_
  refine r_istore_n 8 [(0, .ref (ad 0)), (1, .int x0)] [1, 0] C dX11_calm_7 rfl (by decide) rfl rfl ?_
  refine r_aload_n 9 0 C dX11_calm_8 rfl rfl rfl ?_
  refine r_get 12 0 0 C inX11 (wd_0 ad u) rfl (by decide) tw_318 rfl rfl dX11_calm_9 rfl ?_
  refine r_iconst (v := 0) 13 C dX11_calm_12 (by decide) rfl ?_
  refine r_putN 16 1 1 C inX6 tyX6_ok nmX6 (wd_1 ad u) (sF_1_1 ad u (0 : Int32)) rfl (by decide) tn_36 rfl rfl (tyX6_ok 1 (by decide)) rfl rfl (Nat.le_of_ble_eq_true rfl) dX11_calm_13 rfl ?_
  obtain ⟨u0, eu0, hf⟩ := nm_of hf
  refine r_st eu0 ?_
  refine r_iload_n 17 1 C dX11_calm_16 rfl rfl rfl ?_
  exact r_iret C E (pr1 hf) (pr2 hf) dX11_calm_17
def f_X7_pointerAt_5 (v1 : Int32) (u : S2) : Option (Option Nat × S2) := bd (f_X11_isWithin v1 (0 : Int32) (2 : Int32) u) (fun r0 u0 => (if r0 = 0 then some (none, u0) else ck (inb v1 3) (nm (10 + Int32.toNatClampNeg v1) (fun kp0 => some (some kp0, u0)))))
set_option maxRecDepth 20000 in
theorem c_X7_pointerAt_5 (ad : Nat → Nat) (v1 : Int32)  (u : S2) (r : Option Nat) (w : S2) (hf : f_X7_pointerAt_5 v1 u = some (r, w)) : HQ yX7_pointerAt cX7_pointerAt 2 (some (.object "NorthWheel$Pointer")) 1 22 ad [.ref (ad 5), .int v1] u r w := by
  refine HQ_of (by decide) (Nat.le_of_ble_eq_true rfl) (fun K C hR E => ?_)
  refine r_sub [(0, .ref (ad 5)), (1, .int v1)] [0, 1] rfl ?_
  unfold f_X7_pointerAt_5 at hf
  refine r_iload_n 1 1 C dX7_pointerAt_0 rfl rfl rfl ?_
  refine r_iconst (v := 0) 2 C dX7_pointerAt_1 (by decide) rfl ?_
  refine r_iconst (v := 2) 3 C dX7_pointerAt_2 (by decide) rfl ?_
  obtain ⟨r0, u0, h0, hf⟩ := bd_of hf
  refine r_cSNI 6 [.int v1, .int (0 : Int32), .int (2 : Int32)] C hR (c_X11_isWithin ad v1 (0 : Int32) (2 : Int32)    u r0 u0 h0) q_X11_isWithin tn_393 tw_357 (Nat.le_of_ble_eq_true rfl) (Nat.le_of_ble_eq_true rfl) rfl rfl (Nat.le_of_ble_eq_true rfl) dX7_pointerAt_3 rfl ?_
  refine r_if_eq 9 18 C dX7_pointerAt_6 (by decide) rfl (fun c0 => ?_) (fun c0 => ?_)
  · have hf := ifT c0 hf
    refine r_null 19 C dX7_pointerAt_18 rfl ?_
    exact r_qret C E (pr2 hf) (by rw [← pr1 hf]; rfl) dX7_pointerAt_19
  · have hf := ifF c0 hf
    refine r_aload_n 10 0 C dX7_pointerAt_9 rfl rfl rfl ?_
    refine r_get 13 5 2 C inX7 (wd_5 ad u0) rfl (by decide) tw_107 rfl rfl dX7_pointerAt_10 rfl ?_
    refine r_iload_n 14 1 C dX7_pointerAt_13 rfl rfl rfl ?_
    obtain ⟨hc0, hf⟩ := ck_of hf
    refine r_aaload_6 15 C hc0 dX7_pointerAt_14 rfl ?_
    obtain ⟨kp0, ekp0, hf⟩ := nm_of hf
    obtain ⟨kp0a, kp0b⟩ := pt_10 ekp0 hc0
    refine r_nmR ekp0 ?_
    refine r_goto 19 C dX7_pointerAt_15 (by decide) ?_
    exact r_qret C E (pr2 hf) (by rw [← pr1 hf]; rfl) dX7_pointerAt_19
theorem pa_X7_pointerAt_5 {a : Int32} {u w : S2} {k : Nat} (h : f_X7_pointerAt_5 a u = some (some k, w)) : 10 ≤ k ∧ k < 18 := by
  unfold f_X7_pointerAt_5 at h
  obtain ⟨r, u0, h0, h⟩ := bd_of h
  by_cases c : r = 0
  · have h := ifT c h
    cases h
  · have h := ifF c h
    obtain ⟨hc, h⟩ := ck_of h
    obtain ⟨x, ex, h⟩ := nm_of h
    have e := Option.some.inj (pr1 h)
    exact pt_10 (e ▸ ex) hc
def f_X4_layAt (k0 : Nat) (v1 : Int32) (u : S2) : Option (S2) := nm (wr u k0 4 v1) (fun u0 => nm (wr u0 k0 5 (0 : Int32)) (fun u1 => some u1))
set_option maxRecDepth 20000 in
theorem c_X4_layAt (ad : Nat → Nat) (k0 : Nat) (v1 : Int32) (k0a : 10 ≤ k0) (k0b : k0 < 18)  (u : S2) (w : S2) (hf : f_X4_layAt k0 v1 u = some w) : HV yX4_layAt cX4_layAt 2 none 0 0 ad [.ref (ad k0), .int v1] u w := by
  refine HV_of (by decide) (Nat.le_of_ble_eq_true rfl) (fun K C hR E => ?_)
  refine r_sub [(0, .ref (ad k0)), (1, .int v1)] [0, 1] rfl ?_
  unfold f_X4_layAt at hf
  refine r_aload_n 1 0 C dX4_layAt_0 rfl rfl rfl ?_
  refine r_iload_n 2 1 C dX4_layAt_1 rfl rfl rfl ?_
  refine r_put 5 k0 4 C inX4 tyX4_ok nmX4 (wd_P ad u k0a k0b) (sP_4 ad u k0a k0b v1) rfl (by decide) tw_77 rfl rfl (tyX4_ok 4 (by decide)) rfl rfl (Nat.le_of_ble_eq_true rfl) dX4_layAt_2 rfl ?_
  obtain ⟨u0, eu0, hf⟩ := nm_of hf
  refine r_st eu0 ?_
  refine r_aload_n 6 0 C dX4_layAt_5 rfl rfl rfl ?_
  refine r_iconst (v := 0) 7 C dX4_layAt_6 (by decide) rfl ?_
  refine r_put 10 k0 5 C inX4 tyX4_ok nmX4 (wd_P ad u0 k0a k0b) (sP_5 ad u0 k0a k0b (0 : Int32)) rfl (by decide) tw_81 rfl rfl (tyX4_ok 5 (by decide)) rfl rfl (Nat.le_of_ble_eq_true rfl) dX4_layAt_7 rfl ?_
  obtain ⟨u1, eu1, hf⟩ := nm_of hf
  refine r_st eu1 ?_
  exact r_vret C E (so_of hf) dX4_layAt_10
def f_X11_kind (v1 : Int32) (v2 : Int32) (u : S2) : Option (Int32 × S2) := bq (f_X7_pointerAt_5 v1 u) (fun p0 u0 => match p0 with | none => some ((-2 : Int32), u0) | some kp0 => bd (f_X11_isWithin v2 (0 : Int32) (5 : Int32) u0) (fun r0 u1 => (if r0 = 0 then some ((-3 : Int32), u1) else nm (u1 kp0 0) (fun x0 => nm (wr u1 kp0 0 v2) (fun u2 => bv (f_X4_layAt kp0 (0 : Int32) u2) (fun u3 => some (x0, u3)))))))
set_option maxRecDepth 20000 in
theorem c_X11_kind (ad : Nat → Nat) (v1 : Int32) (v2 : Int32)   (u : S2) (r : Int32) (w : S2) (hf : f_X11_kind v1 v2 u = some (r, w)) : HI yX11_kind cX11_kind 5 (some .int) 2 43 ad [.ref (ad 0), .int v1, .int v2] u r w := by
  refine HI_of (by decide) (Nat.le_of_ble_eq_true rfl) (fun K C hR E => ?_)
  refine r_sub [(0, .ref (ad 0)), (1, .int v1), (2, .int v2)] [0, 1, 2] rfl ?_
  unfold f_X11_kind at hf
  refine r_aload_n 1 0 C dX11_kind_0 rfl rfl rfl ?_
  refine r_get 4 0 2 C inX11 (wd_0 ad u) rfl (by decide) tw_320 rfl rfl dX11_kind_1 rfl ?_
  refine r_iload_n 5 1 C dX11_kind_4 rfl rfl rfl ?_
  obtain ⟨p0, u0, h0, hf⟩ := bq_of hf
  refine r_cVNQ 8 [.int v1] C hR (c_X7_pointerAt_5 ad v1   u p0 u0 h0) q_X7_pointerAt tn_389 (wd_5 ad u) rfl rfl tw_391 tp_1 (Nat.le_of_ble_eq_true rfl) (Nat.le_of_ble_eq_true rfl) rfl rfl (Nat.le_of_ble_eq_true rfl) dX11_kind_5 rfl ?_
  cases p0 with
  | none =>
    refine r_astore_nN 9 [(0, .ref (ad 0)), (1, .int v1), (2, .int v2), (3, .null)] [1, 2, 3, 0] C dX11_kind_8 rfl (by decide) rfl rfl ?_
    refine r_aload_nN 10 3 C dX11_kind_9 rfl rfl rfl ?_
    refine r_ifnonnullN 13 C dX11_kind_10 rfl ?_
    refine r_bipush (v := -2) 15 C dX11_kind_13 (by decide) rfl ?_
    exact r_iret C E (pr1 hf) (pr2 hf) dX11_kind_15
  | some kp0 =>
    obtain ⟨kp0a, kp0b⟩ := pa_X7_pointerAt_5 h0
    refine r_astore_n 9 [(0, .ref (ad 0)), (1, .int v1), (2, .int v2), (3, .ref (ad kp0))] [1, 2, 3, 0] C dX11_kind_8 rfl (by decide) rfl rfl ?_
    refine r_aload_n 10 3 C dX11_kind_9 rfl rfl rfl ?_
    refine r_ifnonnull 16 C dX11_kind_10 (by decide) ?_
    refine r_iload_n 17 2 C dX11_kind_16 rfl rfl rfl ?_
    refine r_iconst (v := 0) 18 C dX11_kind_17 (by decide) rfl ?_
    refine r_iconst (v := 5) 19 C dX11_kind_18 (by decide) rfl ?_
    obtain ⟨r0, u1, h1, hf⟩ := bd_of hf
    refine r_cSI 22 [.int v2, .int (0 : Int32), .int (5 : Int32)] C hR (c_X11_isWithin ad v2 (0 : Int32) (5 : Int32)    u0 r0 u1 h1) q_X11_isWithin tw_356 tw_357 (Nat.le_of_ble_eq_true rfl) (Nat.le_of_ble_eq_true rfl) rfl rfl (Nat.le_of_ble_eq_true rfl) dX11_kind_19 rfl ?_
    refine r_if_ne 25 28 C dX11_kind_22 (by decide) rfl (fun c0 => ?_) (fun c0 => ?_)
    · have hf := ifF c0 hf
      refine r_aload_n 29 3 C dX11_kind_28 rfl rfl rfl ?_
      refine r_getN 32 kp0 0 C inX4 (wd_P ad u1 kp0a kp0b) rfl (by decide) tn_69 rfl rfl dX11_kind_29 rfl ?_
      obtain ⟨x0, ex0, hf⟩ := nm_of hf
      refine r_nm ex0 ?_
      refine r_istore 34 [(0, .ref (ad 0)), (1, .int v1), (2, .int v2), (3, .ref (ad kp0)), (4, .int x0)] [1, 2, 3, 4, 0] C dX11_kind_32 (by decide) rfl rfl ?_
      refine r_aload_n 35 3 C dX11_kind_34 rfl rfl rfl ?_
      refine r_iload_n 36 2 C dX11_kind_35 rfl rfl rfl ?_
      refine r_putN 39 kp0 0 C inX4 tyX4_ok nmX4 (wd_P ad u1 kp0a kp0b) (sP_0 ad u1 kp0a kp0b v2) rfl (by decide) tn_69 rfl rfl (tyX4_ok 0 (by decide)) rfl rfl (Nat.le_of_ble_eq_true rfl) dX11_kind_36 rfl ?_
      obtain ⟨u2, eu2, hf⟩ := nm_of hf
      refine r_st eu2 ?_
      refine r_aload_n 40 3 C dX11_kind_39 rfl rfl rfl ?_
      refine r_iconst (v := 0) 41 C dX11_kind_40 (by decide) rfl ?_
      obtain ⟨u3, h2, hf⟩ := bv_of hf
      refine r_cVNV 44 [.int (0 : Int32)] C hR (c_X4_layAt ad kp0 (0 : Int32) kp0a kp0b  u2 u3 h2) q_X4_layAt tn_394 (wd_P ad u2 kp0a kp0b) rfl rfl tw_396 tp_2 (Nat.le_of_ble_eq_true rfl) (Nat.le_of_ble_eq_true rfl) rfl rfl (Nat.le_of_ble_eq_true rfl) dX11_kind_41 rfl ?_
      refine r_iload 46 4 C dX11_kind_44 rfl rfl ?_
      exact r_iret C E (pr1 hf) (pr2 hf) dX11_kind_46
    · have hf := ifT c0 hf
      refine r_bipush (v := -3) 27 C dX11_kind_25 (by decide) rfl ?_
      exact r_iret C E (pr1 hf) (pr2 hf) dX11_kind_27
def f_X4_retune (k0 : Nat) (v1 : Int32) (v2 : Int32) (u : S2) : Option (Int32 × S2) := (if v1 = 0 then nm (u k0 1) (fun x2 => nm (wr u k0 1 v2) (fun u2 => some (x2, u2))) else (if v1 = (1 : Int32) then nm (u k0 2) (fun x1 => nm (wr u k0 2 v2) (fun u1 => some (x1, u1))) else nm (u k0 3) (fun x0 => nm (wr u k0 3 v2) (fun u0 => some (x0, u0)))))
set_option maxRecDepth 20000 in
theorem c_X4_retune (ad : Nat → Nat) (k0 : Nat) (v1 : Int32) (v2 : Int32) (k0a : 10 ≤ k0) (k0b : k0 < 18)   (u : S2) (r : Int32) (w : S2) (hf : f_X4_retune k0 v1 v2 u = some (r, w)) : HI yX4_retune cX4_retune 4 (some .int) 0 0 ad [.ref (ad k0), .int v1, .int v2] u r w := by
  refine HI_of (by decide) (Nat.le_of_ble_eq_true rfl) (fun K C hR E => ?_)
  refine r_sub [(0, .ref (ad k0)), (1, .int v1), (2, .int v2)] [0, 1, 2] rfl ?_
  unfold f_X4_retune at hf
  refine r_iload_n 1 1 C dX4_retune_0 rfl rfl rfl ?_
  refine r_if_ne 4 17 C dX4_retune_1 (by decide) rfl (fun c0 => ?_) (fun c0 => ?_)
  · have hf := ifF c0 hf
    refine r_iload_n 18 1 C dX4_retune_17 rfl rfl rfl ?_
    refine r_iconst (v := 1) 19 C dX4_retune_18 (by decide) rfl ?_
    refine r_icmp_ne 22 35 C dX4_retune_19 (by decide) rfl (fun c1 => ?_) (fun c1 => ?_)
    · have hf := ifF c1 hf
      refine r_aload_n 36 0 C dX4_retune_35 rfl rfl rfl ?_
      refine r_get 39 k0 3 C inX4 (wd_P ad u k0a k0b) rfl (by decide) tw_76 rfl rfl dX4_retune_36 rfl ?_
      obtain ⟨x0, ex0, hf⟩ := nm_of hf
      refine r_nm ex0 ?_
      refine r_istore_n 40 [(0, .ref (ad k0)), (1, .int v1), (2, .int v2), (3, .int x0)] [1, 2, 3, 0] C dX4_retune_39 rfl (by decide) rfl rfl ?_
      refine r_aload_n 41 0 C dX4_retune_40 rfl rfl rfl ?_
      refine r_iload_n 42 2 C dX4_retune_41 rfl rfl rfl ?_
      refine r_put 45 k0 3 C inX4 tyX4_ok nmX4 (wd_P ad u k0a k0b) (sP_3 ad u k0a k0b v2) rfl (by decide) tw_76 rfl rfl (tyX4_ok 3 (by decide)) rfl rfl (Nat.le_of_ble_eq_true rfl) dX4_retune_42 rfl ?_
      obtain ⟨u0, eu0, hf⟩ := nm_of hf
      refine r_st eu0 ?_
      refine r_iload_n 46 3 C dX4_retune_45 rfl rfl rfl ?_
      exact r_iret C E (pr1 hf) (pr2 hf) dX4_retune_46
    · have hf := ifT c1 hf
      refine r_aload_n 23 0 C dX4_retune_22 rfl rfl rfl ?_
      refine r_get 26 k0 2 C inX4 (wd_P ad u k0a k0b) rfl (by decide) tw_74 rfl rfl dX4_retune_23 rfl ?_
      obtain ⟨x1, ex1, hf⟩ := nm_of hf
      refine r_nm ex1 ?_
      refine r_istore_n 27 [(0, .ref (ad k0)), (1, .int v1), (2, .int v2), (3, .int x1)] [1, 2, 3, 0] C dX4_retune_26 rfl (by decide) rfl rfl ?_
      refine r_aload_n 28 0 C dX4_retune_27 rfl rfl rfl ?_
      refine r_iload_n 29 2 C dX4_retune_28 rfl rfl rfl ?_
      refine r_put 32 k0 2 C inX4 tyX4_ok nmX4 (wd_P ad u k0a k0b) (sP_2 ad u k0a k0b v2) rfl (by decide) tw_74 rfl rfl (tyX4_ok 2 (by decide)) rfl rfl (Nat.le_of_ble_eq_true rfl) dX4_retune_29 rfl ?_
      obtain ⟨u1, eu1, hf⟩ := nm_of hf
      refine r_st eu1 ?_
      refine r_goto 45 C dX4_retune_32 (by decide) ?_
      refine r_iload_n 46 3 C dX4_retune_45 rfl rfl rfl ?_
      exact r_iret C E (pr1 hf) (pr2 hf) dX4_retune_46
  · have hf := ifT c0 hf
    refine r_aload_n 5 0 C dX4_retune_4 rfl rfl rfl ?_
    refine r_get 8 k0 1 C inX4 (wd_P ad u k0a k0b) rfl (by decide) tw_70 rfl rfl dX4_retune_5 rfl ?_
    obtain ⟨x2, ex2, hf⟩ := nm_of hf
    refine r_nm ex2 ?_
    refine r_istore_n 9 [(0, .ref (ad k0)), (1, .int v1), (2, .int v2), (3, .int x2)] [1, 2, 3, 0] C dX4_retune_8 rfl (by decide) rfl rfl ?_
    refine r_aload_n 10 0 C dX4_retune_9 rfl rfl rfl ?_
    refine r_iload_n 11 2 C dX4_retune_10 rfl rfl rfl ?_
    refine r_put 14 k0 1 C inX4 tyX4_ok nmX4 (wd_P ad u k0a k0b) (sP_1 ad u k0a k0b v2) rfl (by decide) tw_70 rfl rfl (tyX4_ok 1 (by decide)) rfl rfl (Nat.le_of_ble_eq_true rfl) dX4_retune_11 rfl ?_
    obtain ⟨u2, eu2, hf⟩ := nm_of hf
    refine r_st eu2 ?_
    refine r_goto 45 C dX4_retune_14 (by decide) ?_
    refine r_iload_n 46 3 C dX4_retune_45 rfl rfl rfl ?_
    exact r_iret C E (pr1 hf) (pr2 hf) dX4_retune_46
def f_X11_tune (v1 : Int32) (v2 : Int32) (v3 : Int32) (u : S2) : Option (Int32 × S2) := bq (f_X7_pointerAt_5 v1 u) (fun p0 u0 => match p0 with | none => some ((-2 : Int32), u0) | some kp0 => bd (f_X11_isWithin v2 (0 : Int32) (2 : Int32) u0) (fun r0 u1 => (if r0 = 0 then some ((-3 : Int32), u1) else bd (f_X11_isWithin v3 (0 : Int32) (99 : Int32) u1) (fun r1 u2 => (if r1 = 0 then some ((-3 : Int32), u2) else bd (f_X4_retune kp0 v2 v3 u2) (fun r2 u3 => some (r2, u3)))))))
set_option maxRecDepth 20000 in
theorem c_X11_tune (ad : Nat → Nat) (v1 : Int32) (v2 : Int32) (v3 : Int32)    (u : S2) (r : Int32) (w : S2) (hf : f_X11_tune v1 v2 v3 u = some (r, w)) : HI yX11_tune cX11_tune 5 (some .int) 2 43 ad [.ref (ad 0), .int v1, .int v2, .int v3] u r w := by
  refine HI_of (by decide) (Nat.le_of_ble_eq_true rfl) (fun K C hR E => ?_)
  refine r_sub [(0, .ref (ad 0)), (1, .int v1), (2, .int v2), (3, .int v3)] [0, 1, 2, 3] rfl ?_
  unfold f_X11_tune at hf
  refine r_aload_n 1 0 C dX11_tune_0 rfl rfl rfl ?_
  refine r_get 4 0 2 C inX11 (wd_0 ad u) rfl (by decide) tw_320 rfl rfl dX11_tune_1 rfl ?_
  refine r_iload_n 5 1 C dX11_tune_4 rfl rfl rfl ?_
  obtain ⟨p0, u0, h0, hf⟩ := bq_of hf
  refine r_cVNQ 8 [.int v1] C hR (c_X7_pointerAt_5 ad v1   u p0 u0 h0) q_X7_pointerAt tn_389 (wd_5 ad u) rfl rfl tw_391 tp_1 (Nat.le_of_ble_eq_true rfl) (Nat.le_of_ble_eq_true rfl) rfl rfl (Nat.le_of_ble_eq_true rfl) dX11_tune_5 rfl ?_
  cases p0 with
  | none =>
    refine r_astoreN 10 [(0, .ref (ad 0)), (1, .int v1), (2, .int v2), (3, .int v3), (4, .null)] [1, 2, 3, 4, 0] C dX11_tune_8 (by decide) rfl rfl ?_
    refine r_aloadN 12 4 C dX11_tune_10 rfl rfl ?_
    refine r_ifnonnullN 15 C dX11_tune_12 rfl ?_
    refine r_bipush (v := -2) 17 C dX11_tune_15 (by decide) rfl ?_
    exact r_iret C E (pr1 hf) (pr2 hf) dX11_tune_17
  | some kp0 =>
    obtain ⟨kp0a, kp0b⟩ := pa_X7_pointerAt_5 h0
    refine r_astore 10 [(0, .ref (ad 0)), (1, .int v1), (2, .int v2), (3, .int v3), (4, .ref (ad kp0))] [1, 2, 3, 4, 0] C dX11_tune_8 (by decide) rfl rfl ?_
    refine r_aload 12 4 C dX11_tune_10 rfl rfl ?_
    refine r_ifnonnull 18 C dX11_tune_12 (by decide) ?_
    refine r_iload_n 19 2 C dX11_tune_18 rfl rfl rfl ?_
    refine r_iconst (v := 0) 20 C dX11_tune_19 (by decide) rfl ?_
    refine r_iconst (v := 2) 21 C dX11_tune_20 (by decide) rfl ?_
    obtain ⟨r0, u1, h1, hf⟩ := bd_of hf
    refine r_cSI 24 [.int v2, .int (0 : Int32), .int (2 : Int32)] C hR (c_X11_isWithin ad v2 (0 : Int32) (2 : Int32)    u0 r0 u1 h1) q_X11_isWithin tw_356 tw_357 (Nat.le_of_ble_eq_true rfl) (Nat.le_of_ble_eq_true rfl) rfl rfl (Nat.le_of_ble_eq_true rfl) dX11_tune_21 rfl ?_
    refine r_if_eq 27 37 C dX11_tune_24 (by decide) rfl (fun c0 => ?_) (fun c0 => ?_)
    · have hf := ifT c0 hf
      refine r_bipush (v := -3) 39 C dX11_tune_37 (by decide) rfl ?_
      exact r_iret C E (pr1 hf) (pr2 hf) dX11_tune_39
    · have hf := ifF c0 hf
      refine r_iload_n 28 3 C dX11_tune_27 rfl rfl rfl ?_
      refine r_iconst (v := 0) 29 C dX11_tune_28 (by decide) rfl ?_
      refine r_bipush (v := 99) 31 C dX11_tune_29 (by decide) rfl ?_
      obtain ⟨r1, u2, h2, hf⟩ := bd_of hf
      refine r_cSI 34 [.int v3, .int (0 : Int32), .int (99 : Int32)] C hR (c_X11_isWithin ad v3 (0 : Int32) (99 : Int32)    u1 r1 u2 h2) q_X11_isWithin tw_356 tw_357 (Nat.le_of_ble_eq_true rfl) (Nat.le_of_ble_eq_true rfl) rfl rfl (Nat.le_of_ble_eq_true rfl) dX11_tune_31 rfl ?_
      refine r_if_ne 37 40 C dX11_tune_34 (by decide) rfl (fun c1 => ?_) (fun c1 => ?_)
      · have hf := ifF c1 hf
        refine r_aload 42 4 C dX11_tune_40 rfl rfl ?_
        refine r_iload_n 43 2 C dX11_tune_42 rfl rfl rfl ?_
        refine r_iload_n 44 3 C dX11_tune_43 rfl rfl rfl ?_
        obtain ⟨r2, u3, h3, hf⟩ := bd_of hf
        refine r_cVNI 47 [.int v2, .int v3] C hR (c_X4_retune ad kp0 v2 v3 kp0a kp0b   u2 r2 u3 h3) q_X4_retune tn_402 (wd_P ad u2 kp0a kp0b) rfl rfl tw_404 tp_3 (Nat.le_of_ble_eq_true rfl) (Nat.le_of_ble_eq_true rfl) rfl rfl (Nat.le_of_ble_eq_true rfl) dX11_tune_44 rfl ?_
        exact r_iret C E (pr1 hf) (pr2 hf) dX11_tune_47
      · have hf := ifT c1 hf
        refine r_bipush (v := -3) 39 C dX11_tune_37 (by decide) rfl ?_
        exact r_iret C E (pr1 hf) (pr2 hf) dX11_tune_39
def f_X11_isOff (v0 : Int32) (u : S2) : Option (Int32 × S2) := bd (f_X11_isWithin v0 (-18000 : Int32) (17999 : Int32) u) (fun r0 u0 => ck (isB r0) (some (r0, u0)))
set_option maxRecDepth 20000 in
theorem c_X11_isOff (ad : Nat → Nat) (v0 : Int32)  (u : S2) (r : Int32) (w : S2) (hf : f_X11_isOff v0 u = some (r, w)) : HI yX11_isOff cX11_isOff 1 (some .boolean) 1 22 ad [.int v0] u r w := by
  refine HI_of (by decide) (Nat.le_of_ble_eq_true rfl) (fun K C hR E => ?_)
  refine r_sub [(0, .int v0)] [0] rfl ?_
  unfold f_X11_isOff at hf
  refine r_iload_n 1 0 C dX11_isOff_0 rfl rfl rfl ?_
  refine r_sipush (v := -18000) 4 C dX11_isOff_1 (by decide) rfl ?_
  refine r_sipush (v := 17999) 7 C dX11_isOff_4 (by decide) rfl ?_
  obtain ⟨r0, u0, h0, hf⟩ := bd_of hf
  refine r_cSI 10 [.int v0, .int (-18000 : Int32), .int (17999 : Int32)] C hR (c_X11_isWithin ad v0 (-18000 : Int32) (17999 : Int32)    u r0 u0 h0) q_X11_isWithin tw_356 tw_357 (Nat.le_of_ble_eq_true rfl) (Nat.le_of_ble_eq_true rfl) rfl rfl (Nat.le_of_ble_eq_true rfl) dX11_isOff_7 rfl ?_
  obtain ⟨hc0, hf⟩ := ck_of hf
  exact r_zret C E (isB_nar hc0) (pr1 hf) (pr2 hf) dX11_isOff_10
def f_X11_off (v1 : Int32) (v2 : Int32) (u : S2) : Option (Int32 × S2) := bq (f_X7_pointerAt_5 v1 u) (fun p0 u0 => match p0 with | none => some ((-2 : Int32), u0) | some kp0 => bd (f_X11_isOff v2 u0) (fun r0 u1 => (if r0 = 0 then some ((-3 : Int32), u1) else bv (f_X4_layAt kp0 v2 u1) (fun u2 => some ((1 : Int32), u2)))))
set_option maxRecDepth 20000 in
theorem c_X11_off (ad : Nat → Nat) (v1 : Int32) (v2 : Int32)   (u : S2) (r : Int32) (w : S2) (hf : f_X11_off v1 v2 u = some (r, w)) : HI yX11_off cX11_off 4 (some .int) 2 43 ad [.ref (ad 0), .int v1, .int v2] u r w := by
  refine HI_of (by decide) (Nat.le_of_ble_eq_true rfl) (fun K C hR E => ?_)
  refine r_sub [(0, .ref (ad 0)), (1, .int v1), (2, .int v2)] [0, 1, 2] rfl ?_
  unfold f_X11_off at hf
  refine r_aload_n 1 0 C dX11_off_0 rfl rfl rfl ?_
  refine r_get 4 0 2 C inX11 (wd_0 ad u) rfl (by decide) tw_320 rfl rfl dX11_off_1 rfl ?_
  refine r_iload_n 5 1 C dX11_off_4 rfl rfl rfl ?_
  obtain ⟨p0, u0, h0, hf⟩ := bq_of hf
  refine r_cVNQ 8 [.int v1] C hR (c_X7_pointerAt_5 ad v1   u p0 u0 h0) q_X7_pointerAt tn_389 (wd_5 ad u) rfl rfl tw_391 tp_1 (Nat.le_of_ble_eq_true rfl) (Nat.le_of_ble_eq_true rfl) rfl rfl (Nat.le_of_ble_eq_true rfl) dX11_off_5 rfl ?_
  cases p0 with
  | none =>
    refine r_astore_nN 9 [(0, .ref (ad 0)), (1, .int v1), (2, .int v2), (3, .null)] [1, 2, 3, 0] C dX11_off_8 rfl (by decide) rfl rfl ?_
    refine r_aload_nN 10 3 C dX11_off_9 rfl rfl rfl ?_
    refine r_ifnonnullN 13 C dX11_off_10 rfl ?_
    refine r_bipush (v := -2) 15 C dX11_off_13 (by decide) rfl ?_
    exact r_iret C E (pr1 hf) (pr2 hf) dX11_off_15
  | some kp0 =>
    obtain ⟨kp0a, kp0b⟩ := pa_X7_pointerAt_5 h0
    refine r_astore_n 9 [(0, .ref (ad 0)), (1, .int v1), (2, .int v2), (3, .ref (ad kp0))] [1, 2, 3, 0] C dX11_off_8 rfl (by decide) rfl rfl ?_
    refine r_aload_n 10 3 C dX11_off_9 rfl rfl rfl ?_
    refine r_ifnonnull 16 C dX11_off_10 (by decide) ?_
    refine r_iload_n 17 2 C dX11_off_16 rfl rfl rfl ?_
    obtain ⟨r0, u1, h1, hf⟩ := bd_of hf
    refine r_cSI 20 [.int v2] C hR (c_X11_isOff ad v2  u0 r0 u1 h1) q_X11_isOff tw_410 tw_411 (Nat.le_of_ble_eq_true rfl) (Nat.le_of_ble_eq_true rfl) rfl rfl (Nat.le_of_ble_eq_true rfl) dX11_off_17 rfl ?_
    refine r_if_ne 23 26 C dX11_off_20 (by decide) rfl (fun c0 => ?_) (fun c0 => ?_)
    · have hf := ifF c0 hf
      refine r_aload_n 27 3 C dX11_off_26 rfl rfl rfl ?_
      refine r_iload_n 28 2 C dX11_off_27 rfl rfl rfl ?_
      obtain ⟨u2, h2, hf⟩ := bv_of hf
      refine r_cVNV 31 [.int v2] C hR (c_X4_layAt ad kp0 v2 kp0a kp0b  u1 u2 h2) q_X4_layAt tn_394 (wd_P ad u1 kp0a kp0b) rfl rfl tw_396 tp_2 (Nat.le_of_ble_eq_true rfl) (Nat.le_of_ble_eq_true rfl) rfl rfl (Nat.le_of_ble_eq_true rfl) dX11_off_28 rfl ?_
      refine r_iconst (v := 1) 32 C dX11_off_31 (by decide) rfl ?_
      exact r_iret C E (pr1 hf) (pr2 hf) dX11_off_32
    · have hf := ifT c0 hf
      refine r_bipush (v := -3) 25 C dX11_off_23 (by decide) rfl ?_
      exact r_iret C E (pr1 hf) (pr2 hf) dX11_off_25
def f_X11_told (v1 : Int32) (v2 : Int32) (v3 : Int32) (u : S2) : Option (Int32 × S2) := bq (f_X7_pointerAt_5 v1 u) (fun p0 u0 => match p0 with | none => some ((-2 : Int32), u0) | some kp0 => bd (f_X11_isSpeed v2 u0) (fun r0 u1 => (if r0 = 0 then some ((-3 : Int32), u1) else bd (f_X11_isPlace v3 u1) (fun r1 u2 => (if r1 = 0 then some ((-3 : Int32), u2) else nm (wr u2 kp0 6 v2) (fun u3 => nm (wr u3 kp0 7 v3) (fun u4 => some ((1 : Int32), u4))))))))
set_option maxRecDepth 20000 in
theorem c_X11_told (ad : Nat → Nat) (v1 : Int32) (v2 : Int32) (v3 : Int32)    (u : S2) (r : Int32) (w : S2) (hf : f_X11_told v1 v2 v3 u = some (r, w)) : HI yX11_told cX11_told 5 (some .int) 2 43 ad [.ref (ad 0), .int v1, .int v2, .int v3] u r w := by
  refine HI_of (by decide) (Nat.le_of_ble_eq_true rfl) (fun K C hR E => ?_)
  refine r_sub [(0, .ref (ad 0)), (1, .int v1), (2, .int v2), (3, .int v3)] [0, 1, 2, 3] rfl ?_
  unfold f_X11_told at hf
  refine r_aload_n 1 0 C dX11_told_0 rfl rfl rfl ?_
  refine r_get 4 0 2 C inX11 (wd_0 ad u) rfl (by decide) tw_320 rfl rfl dX11_told_1 rfl ?_
  refine r_iload_n 5 1 C dX11_told_4 rfl rfl rfl ?_
  obtain ⟨p0, u0, h0, hf⟩ := bq_of hf
  refine r_cVNQ 8 [.int v1] C hR (c_X7_pointerAt_5 ad v1   u p0 u0 h0) q_X7_pointerAt tn_389 (wd_5 ad u) rfl rfl tw_391 tp_1 (Nat.le_of_ble_eq_true rfl) (Nat.le_of_ble_eq_true rfl) rfl rfl (Nat.le_of_ble_eq_true rfl) dX11_told_5 rfl ?_
  cases p0 with
  | none =>
    refine r_astoreN 10 [(0, .ref (ad 0)), (1, .int v1), (2, .int v2), (3, .int v3), (4, .null)] [1, 2, 3, 4, 0] C dX11_told_8 (by decide) rfl rfl ?_
    refine r_aloadN 12 4 C dX11_told_10 rfl rfl ?_
    refine r_ifnonnullN 15 C dX11_told_12 rfl ?_
    refine r_bipush (v := -2) 17 C dX11_told_15 (by decide) rfl ?_
    exact r_iret C E (pr1 hf) (pr2 hf) dX11_told_17
  | some kp0 =>
    obtain ⟨kp0a, kp0b⟩ := pa_X7_pointerAt_5 h0
    refine r_astore 10 [(0, .ref (ad 0)), (1, .int v1), (2, .int v2), (3, .int v3), (4, .ref (ad kp0))] [1, 2, 3, 4, 0] C dX11_told_8 (by decide) rfl rfl ?_
    refine r_aload 12 4 C dX11_told_10 rfl rfl ?_
    refine r_ifnonnull 18 C dX11_told_12 (by decide) ?_
    refine r_iload_n 19 2 C dX11_told_18 rfl rfl rfl ?_
    obtain ⟨r0, u1, h1, hf⟩ := bd_of hf
    refine r_cSI 22 [.int v2] C hR (c_X11_isSpeed ad v2  u0 r0 u1 h1) q_X11_isSpeed tw_359 tw_360 (Nat.le_of_ble_eq_true rfl) (Nat.le_of_ble_eq_true rfl) rfl rfl (Nat.le_of_ble_eq_true rfl) dX11_told_19 rfl ?_
    refine r_if_eq 25 32 C dX11_told_22 (by decide) rfl (fun c0 => ?_) (fun c0 => ?_)
    · have hf := ifT c0 hf
      refine r_bipush (v := -3) 34 C dX11_told_32 (by decide) rfl ?_
      exact r_iret C E (pr1 hf) (pr2 hf) dX11_told_34
    · have hf := ifF c0 hf
      refine r_iload_n 26 3 C dX11_told_25 rfl rfl rfl ?_
      obtain ⟨r1, u2, h2, hf⟩ := bd_of hf
      refine r_cSI 29 [.int v3] C hR (c_X11_isPlace ad v3  u1 r1 u2 h2) q_X11_isPlace tw_353 tw_354 (Nat.le_of_ble_eq_true rfl) (Nat.le_of_ble_eq_true rfl) rfl rfl (Nat.le_of_ble_eq_true rfl) dX11_told_26 rfl ?_
      refine r_if_ne 32 35 C dX11_told_29 (by decide) rfl (fun c1 => ?_) (fun c1 => ?_)
      · have hf := ifF c1 hf
        refine r_aload 37 4 C dX11_told_35 rfl rfl ?_
        refine r_iload_n 38 2 C dX11_told_37 rfl rfl rfl ?_
        refine r_putN 41 kp0 6 C inX4 tyX4_ok nmX4 (wd_P ad u2 kp0a kp0b) (sP_6 ad u2 kp0a kp0b v2) rfl (by decide) tn_84 rfl rfl (tyX4_ok 6 (by decide)) rfl rfl (Nat.le_of_ble_eq_true rfl) dX11_told_38 rfl ?_
        obtain ⟨u3, eu3, hf⟩ := nm_of hf
        refine r_st eu3 ?_
        refine r_aload 43 4 C dX11_told_41 rfl rfl ?_
        refine r_iload_n 44 3 C dX11_told_43 rfl rfl rfl ?_
        refine r_putN 47 kp0 7 C inX4 tyX4_ok nmX4 (wd_P ad u3 kp0a kp0b) (sP_7 ad u3 kp0a kp0b v3) rfl (by decide) tn_86 rfl rfl (tyX4_ok 7 (by decide)) rfl rfl (Nat.le_of_ble_eq_true rfl) dX11_told_44 rfl ?_
        obtain ⟨u4, eu4, hf⟩ := nm_of hf
        refine r_st eu4 ?_
        refine r_iconst (v := 1) 48 C dX11_told_47 (by decide) rfl ?_
        exact r_iret C E (pr1 hf) (pr2 hf) dX11_told_48
      · have hf := ifT c1 hf
        refine r_bipush (v := -3) 34 C dX11_told_32 (by decide) rfl ?_
        exact r_iret C E (pr1 hf) (pr2 hf) dX11_told_34
def f_X11_isEighth (v0 : Int32) (u : S2) : Option (Int32 × S2) := bd (f_X11_isWithin v0 (0 : Int32) (7 : Int32) u) (fun r0 u0 => ck (isB r0) (some (r0, u0)))
set_option maxRecDepth 20000 in
theorem c_X11_isEighth (ad : Nat → Nat) (v0 : Int32)  (u : S2) (r : Int32) (w : S2) (hf : f_X11_isEighth v0 u = some (r, w)) : HI yX11_isEighth cX11_isEighth 1 (some .boolean) 1 22 ad [.int v0] u r w := by
  refine HI_of (by decide) (Nat.le_of_ble_eq_true rfl) (fun K C hR E => ?_)
  refine r_sub [(0, .int v0)] [0] rfl ?_
  unfold f_X11_isEighth at hf
  refine r_iload_n 1 0 C dX11_isEighth_0 rfl rfl rfl ?_
  refine r_iconst (v := 0) 2 C dX11_isEighth_1 (by decide) rfl ?_
  refine r_bipush (v := 7) 4 C dX11_isEighth_2 (by decide) rfl ?_
  obtain ⟨r0, u0, h0, hf⟩ := bd_of hf
  refine r_cSI 7 [.int v0, .int (0 : Int32), .int (7 : Int32)] C hR (c_X11_isWithin ad v0 (0 : Int32) (7 : Int32)    u r0 u0 h0) q_X11_isWithin tw_356 tw_357 (Nat.le_of_ble_eq_true rfl) (Nat.le_of_ble_eq_true rfl) rfl rfl (Nat.le_of_ble_eq_true rfl) dX11_isEighth_4 rfl ?_
  obtain ⟨hc0, hf⟩ := ck_of hf
  exact r_zret C E (isB_nar hc0) (pr1 hf) (pr2 hf) dX11_isEighth_7
def f_X11_iron (v1 : Int32) (v2 : Int32) (u : S2) : Option (Int32 × S2) := bd (f_X11_isEighth v1 u) (fun r0 u0 => (if r0 = 0 then some ((-3 : Int32), u0) else bd (f_X11_isWithin v2 (-2000 : Int32) (2000 : Int32) u0) (fun r1 u1 => (if r1 = 0 then some ((-3 : Int32), u1) else ck (inb v1 8) (nm (wr u1 4 (Int32.toNatClampNeg v1) v2) (fun u2 => some ((1 : Int32), u2)))))))
set_option maxRecDepth 20000 in
theorem c_X11_iron (ad : Nat → Nat) (v1 : Int32) (v2 : Int32)   (u : S2) (r : Int32) (w : S2) (hf : f_X11_iron v1 v2 u = some (r, w)) : HI yX11_iron cX11_iron 3 (some .int) 2 42 ad [.ref (ad 0), .int v1, .int v2] u r w := by
  refine HI_of (by decide) (Nat.le_of_ble_eq_true rfl) (fun K C hR E => ?_)
  refine r_sub [(0, .ref (ad 0)), (1, .int v1), (2, .int v2)] [0, 1, 2] rfl ?_
  unfold f_X11_iron at hf
  refine r_iload_n 1 1 C dX11_iron_0 rfl rfl rfl ?_
  obtain ⟨r0, u0, h0, hf⟩ := bd_of hf
  refine r_cSI 4 [.int v1] C hR (c_X11_isEighth ad v1  u r0 u0 h0) q_X11_isEighth tw_421 tw_422 (Nat.le_of_ble_eq_true rfl) (Nat.le_of_ble_eq_true rfl) rfl rfl (Nat.le_of_ble_eq_true rfl) dX11_iron_1 rfl ?_
  refine r_if_eq 7 20 C dX11_iron_4 (by decide) rfl (fun c0 => ?_) (fun c0 => ?_)
  · have hf := ifT c0 hf
    refine r_bipush (v := -3) 22 C dX11_iron_20 (by decide) rfl ?_
    exact r_iret C E (pr1 hf) (pr2 hf) dX11_iron_22
  · have hf := ifF c0 hf
    refine r_iload_n 8 2 C dX11_iron_7 rfl rfl rfl ?_
    refine r_sipush (v := -2000) 11 C dX11_iron_8 (by decide) rfl ?_
    refine r_sipush (v := 2000) 14 C dX11_iron_11 (by decide) rfl ?_
    obtain ⟨r1, u1, h1, hf⟩ := bd_of hf
    refine r_cSI 17 [.int v2, .int (-2000 : Int32), .int (2000 : Int32)] C hR (c_X11_isWithin ad v2 (-2000 : Int32) (2000 : Int32)    u0 r1 u1 h1) q_X11_isWithin tw_356 tw_357 (Nat.le_of_ble_eq_true rfl) (Nat.le_of_ble_eq_true rfl) rfl rfl (Nat.le_of_ble_eq_true rfl) dX11_iron_14 rfl ?_
    refine r_if_ne 20 23 C dX11_iron_17 (by decide) rfl (fun c1 => ?_) (fun c1 => ?_)
    · have hf := ifF c1 hf
      refine r_aload_n 24 0 C dX11_iron_23 rfl rfl rfl ?_
      refine r_get 27 0 1 C inX11 (wd_0 ad u1) rfl (by decide) tw_319 rfl rfl dX11_iron_24 rfl ?_
      refine r_getN 30 3 0 C inX3 (wd_3 ad u1) rfl (by decide) tn_50 rfl rfl dX11_iron_27 rfl ?_
      refine r_iload_n 31 1 C dX11_iron_30 rfl rfl rfl ?_
      refine r_iload_n 32 2 C dX11_iron_31 rfl rfl rfl ?_
      obtain ⟨hc0, hf⟩ := ck_of hf
      refine r_iastore 33 4 8 C (wd_4 ad u1) (sA_4 ad u1) hc0 dX11_iron_32 rfl ?_
      obtain ⟨u2, eu2, hf⟩ := nm_of hf
      refine r_st eu2 ?_
      refine r_iconst (v := 1) 34 C dX11_iron_33 (by decide) rfl ?_
      exact r_iret C E (pr1 hf) (pr2 hf) dX11_iron_34
    · have hf := ifT c1 hf
      refine r_bipush (v := -3) 22 C dX11_iron_20 (by decide) rfl ?_
      exact r_iret C E (pr1 hf) (pr2 hf) dX11_iron_22
def f_J_floorMod (v0 : Int32) (v1 : Int32) (u : S2) : Option (Int32 × S2) := ck (nz v1) (nm (v0 - v0 / v1 * v1) (fun x0 => (if 0 ≤ (v0 ^^^ v1) then some (x0, u) else (if x0 = 0 then some (x0, u) else some (x0 + v1, u)))))
set_option maxRecDepth 20000 in
theorem c_J_floorMod (ad : Nat → Nat) (v0 : Int32) (v1 : Int32)   (u : S2) (r : Int32) (w : S2) (hf : f_J_floorMod v0 v1 u = some (r, w)) : HI yJ9_floorMod_7cf53 cJ9_floorMod_7cf53 3 (some .int) 0 0 ad [.int v0, .int v1] u r w := by
  refine HI_ofF (by decide +kernel) (Nat.le_of_ble_eq_true rfl) (fun K C hR E => ?_)
  refine r_sub [(0, .int v0), (1, .int v1)] [0, 1] rfl ?_
  unfold f_J_floorMod at hf
  refine r_iload_n 1 0 C dJ9_floorMod_7cf53_0 rfl rfl rfl ?_
  refine r_iload_n 2 1 C dJ9_floorMod_7cf53_1 rfl rfl rfl ?_
  obtain ⟨hc0, hf⟩ := ck_of hf
  refine r_irem 3 C dJ9_floorMod_7cf53_2 (nz_ne hc0) rfl ?_
  obtain ⟨x0, ex0, hf⟩ := nm_of hf
  refine r_nm ex0 ?_
  refine r_istore_n 4 [(0, .int v0), (1, .int v1), (2, .int x0)] [1, 2, 0] C dJ9_floorMod_7cf53_3 rfl (by decide) rfl rfl ?_
  refine r_iload_n 5 0 C dJ9_floorMod_7cf53_4 rfl rfl rfl ?_
  refine r_iload_n 6 1 C dJ9_floorMod_7cf53_5 rfl rfl rfl ?_
  refine r_ixor 7 C dJ9_floorMod_7cf53_6 rfl ?_
  refine r_if_ge 10 18 C dJ9_floorMod_7cf53_7 (by decide) rfl (fun c0 => ?_) (fun c0 => ?_)
  · have hf := ifT c0 hf
    refine r_iload_n 19 2 C dJ9_floorMod_7cf53_18 rfl rfl rfl ?_
    exact r_iret C E (pr1 hf) (pr2 hf) dJ9_floorMod_7cf53_19
  · have hf := ifF c0 hf
    refine r_iload_n 11 2 C dJ9_floorMod_7cf53_10 rfl rfl rfl ?_
    refine r_if_eq 14 18 C dJ9_floorMod_7cf53_11 (by decide) rfl (fun c1 => ?_) (fun c1 => ?_)
    · have hf := ifT c1 hf
      refine r_iload_n 19 2 C dJ9_floorMod_7cf53_18 rfl rfl rfl ?_
      exact r_iret C E (pr1 hf) (pr2 hf) dJ9_floorMod_7cf53_19
    · have hf := ifF c1 hf
      refine r_iload_n 15 2 C dJ9_floorMod_7cf53_14 rfl rfl rfl ?_
      refine r_iload_n 16 1 C dJ9_floorMod_7cf53_15 rfl rfl rfl ?_
      refine r_iadd 17 C dJ9_floorMod_7cf53_16 rfl ?_
      exact r_iret C E (pr1 hf) (pr2 hf) dJ9_floorMod_7cf53_17
def f_X11_asHeading (v0 : Int32) (u : S2) : Option (Int32 × S2) := bd (f_J_floorMod v0 (36000 : Int32) u) (fun r0 u0 => some (r0, u0))
set_option maxRecDepth 20000 in
theorem c_X11_asHeading (ad : Nat → Nat) (v0 : Int32)  (u : S2) (r : Int32) (w : S2) (hf : f_X11_asHeading v0 u = some (r, w)) : HI yX11_asHeading cX11_asHeading 1 (some .int) 1 22 ad [.int v0] u r w := by
  refine HI_of (by decide) (Nat.le_of_ble_eq_true rfl) (fun K C hR E => ?_)
  refine r_sub [(0, .int v0)] [0] rfl ?_
  unfold f_X11_asHeading at hf
  refine r_iload_n 1 0 C dX11_asHeading_0 rfl rfl rfl ?_
  refine r_ldcw (v := 36000) 4 C tw_442 dX11_asHeading_1 rfl ?_
  obtain ⟨r0, u0, h0, hf⟩ := bd_of hf
  refine r_cSI 7 [.int v0, .int (36000 : Int32)] C hR (c_J_floorMod ad v0 (36000 : Int32)   u r0 u0 h0) q_J9_floorMod_7cf53 tw_443 tw_437 (Nat.le_of_ble_eq_true rfl) (Nat.le_of_ble_eq_true rfl) rfl rfl (Nat.le_of_ble_eq_true rfl) dX11_asHeading_4 rfl ?_
  exact r_iret C E (pr1 hf) (pr2 hf) dX11_asHeading_7
def f_X11_holdOf (v0 : Int32) (u : S2) : Option (Int32 × S2) := nm (jabs v0) (fun x0 => some ((90 : Int32) - x0, u))
set_option maxRecDepth 20000 in
theorem c_X11_holdOf (ad : Nat → Nat) (v0 : Int32)  (u : S2) (r : Int32) (w : S2) (hf : f_X11_holdOf v0 u = some (r, w)) : HI yX11_holdOf cX11_holdOf 1 (some .int) 1 14 ad [.int v0] u r w := by
  refine HI_of (by decide) (Nat.le_of_ble_eq_true rfl) (fun K C hR E => ?_)
  refine r_sub [(0, .int v0)] [0] rfl ?_
  unfold f_X11_holdOf at hf
  refine r_bipush (v := 90) 2 C dX11_holdOf_0 (by decide) rfl ?_
  refine r_iload_n 3 0 C dX11_holdOf_2 rfl rfl rfl ?_
  refine r_mabs 6 C hR tw_450 tw_451 tw_15 tw_452 (Nat.le_of_ble_eq_true rfl) (Nat.le_of_ble_eq_true rfl) dX11_holdOf_3 rfl ?_
  obtain ⟨x0, ex0, hf⟩ := nm_of hf
  refine r_nm ex0 ?_
  refine r_isub 7 C dX11_holdOf_6 rfl ?_
  exact r_iret C E (pr1 hf) (pr2 hf) dX11_holdOf_7
def f_X11_leanOf (v0 : Int32) (v1 : Int32) (v2 : Int32) (u : S2) : Option (Int32 × S2) := bd (f_X11_holdOf v1 u) (fun r0 u0 => nm (jmin v2 ((36000 : Int32) - v2)) (fun x0 => nm (x0 / (100 : Int32)) (fun x1 => (if (1 : Int32) ≤ r0 then ck (nz r0) (some (((v0 * ((90 : Int32) - x1)) * (20 : Int32)) / r0, u0)) else some ((0 : Int32), u0)))))
set_option maxRecDepth 20000 in
theorem c_X11_leanOf (ad : Nat → Nat) (v0 : Int32) (v1 : Int32) (v2 : Int32)    (u : S2) (r : Int32) (w : S2) (hf : f_X11_leanOf v0 v1 v2 u = some (r, w)) : HI yX11_leanOf cX11_leanOf 5 (some .int) 2 34 ad [.int v0, .int v1, .int v2] u r w := by
  refine HI_of (by decide) (Nat.le_of_ble_eq_true rfl) (fun K C hR E => ?_)
  refine r_sub [(0, .int v0), (1, .int v1), (2, .int v2)] [0, 1, 2] rfl ?_
  unfold f_X11_leanOf at hf
  refine r_iload_n 1 1 C dX11_leanOf_0 rfl rfl rfl ?_
  obtain ⟨r0, u0, h0, hf⟩ := bd_of hf
  refine r_cSI 4 [.int v1] C hR (c_X11_holdOf ad v1  u r0 u0 h0) q_X11_holdOf tw_447 tw_448 (Nat.le_of_ble_eq_true rfl) (Nat.le_of_ble_eq_true rfl) rfl rfl (Nat.le_of_ble_eq_true rfl) dX11_leanOf_1 rfl ?_
  refine r_istore_n 5 [(0, .int v0), (1, .int v1), (2, .int v2), (3, .int r0)] [1, 2, 3, 0] C dX11_leanOf_4 rfl (by decide) rfl rfl ?_
  refine r_iload_n 6 2 C dX11_leanOf_5 rfl rfl rfl ?_
  refine r_ldcw (v := 36000) 9 C tw_442 dX11_leanOf_6 rfl ?_
  refine r_iload_n 10 2 C dX11_leanOf_9 rfl rfl rfl ?_
  refine r_isub 11 C dX11_leanOf_10 rfl ?_
  refine r_mmin 14 C hR tw_453 tw_454 tw_15 tw_455 (Nat.le_of_ble_eq_true rfl) (Nat.le_of_ble_eq_true rfl) dX11_leanOf_11 rfl ?_
  obtain ⟨x0, ex0, hf⟩ := nm_of hf
  refine r_nm ex0 ?_
  refine r_bipush (v := 100) 16 C dX11_leanOf_14 (by decide) rfl ?_
  refine r_idiv 17 C dX11_leanOf_16 (by decide) rfl ?_
  obtain ⟨x1, ex1, hf⟩ := nm_of hf
  refine r_nm ex1 ?_
  refine r_istore 19 [(0, .int v0), (1, .int v1), (2, .int v2), (3, .int r0), (4, .int x1)] [1, 2, 3, 4, 0] C dX11_leanOf_17 (by decide) rfl rfl ?_
  refine r_iload_n 20 3 C dX11_leanOf_19 rfl rfl rfl ?_
  refine r_iconst (v := 1) 21 C dX11_leanOf_20 (by decide) rfl ?_
  refine r_icmp_ge 24 28 C dX11_leanOf_21 (by decide) rfl (fun c0 => ?_) (fun c0 => ?_)
  · have hf := ifT c0 hf
    refine r_iload_n 29 0 C dX11_leanOf_28 rfl rfl rfl ?_
    refine r_bipush (v := 90) 31 C dX11_leanOf_29 (by decide) rfl ?_
    refine r_iload 33 4 C dX11_leanOf_31 rfl rfl ?_
    refine r_isub 34 C dX11_leanOf_33 rfl ?_
    refine r_imul 35 C dX11_leanOf_34 rfl ?_
    refine r_bipush (v := 20) 37 C dX11_leanOf_35 (by decide) rfl ?_
    refine r_imul 38 C dX11_leanOf_37 rfl ?_
    refine r_iload_n 39 3 C dX11_leanOf_38 rfl rfl rfl ?_
    obtain ⟨hc0, hf⟩ := ck_of hf
    refine r_idiv 40 C dX11_leanOf_39 (nz_ne hc0) rfl ?_
    exact r_iret C E (pr1 hf) (pr2 hf) dX11_leanOf_40
  · have hf := ifF c0 hf
    refine r_iconst (v := 0) 25 C dX11_leanOf_24 (by decide) rfl ?_
    refine r_goto 40 C dX11_leanOf_25 (by decide) ?_
    exact r_iret C E (pr1 hf) (pr2 hf) dX11_leanOf_40
def f_X3_deviationAt (v1 : Int32) (u : S2) : Option (Int32 × S2) := bd (f_J_floorMod (v1 / (4500 : Int32)) (8 : Int32) u) (fun r0 u0 => ck (inb r0 8) (nm (u0 4 (Int32.toNatClampNeg r0)) (fun x0 => nm ((r0 + (1 : Int32)) - (r0 + (1 : Int32)) / (8 : Int32) * (8 : Int32)) (fun x1 => ck (inb x1 8) (nm (u0 4 (Int32.toNatClampNeg x1)) (fun x2 => nm (v1 - v1 / (4500 : Int32) * (4500 : Int32)) (fun x3 => some (x0 + (((x2 - x0) * x3) / (4500 : Int32)), u0))))))))
set_option maxRecDepth 20000 in
theorem c_X3_deviationAt (ad : Nat → Nat) (v1 : Int32)  (u : S2) (r : Int32) (w : S2) (hf : f_X3_deviationAt v1 u = some (r, w)) : HI yX3_deviationAt cX3_deviationAt 5 (some .int) 1 22 ad [.ref (ad 3), .int v1] u r w := by
  refine HI_of (by decide) (Nat.le_of_ble_eq_true rfl) (fun K C hR E => ?_)
  refine r_sub [(0, .ref (ad 3)), (1, .int v1)] [0, 1] rfl ?_
  unfold f_X3_deviationAt at hf
  refine r_iload_n 1 1 C dX3_deviationAt_0 rfl rfl rfl ?_
  refine r_sipush (v := 4500) 4 C dX3_deviationAt_1 (by decide) rfl ?_
  refine r_idiv 5 C dX3_deviationAt_4 (by decide) rfl ?_
  refine r_bipush (v := 8) 7 C dX3_deviationAt_5 (by decide) rfl ?_
  obtain ⟨r0, u0, h0, hf⟩ := bd_of hf
  refine r_cSI 10 [.int (v1 / (4500 : Int32)), .int (8 : Int32)] C hR (c_J_floorMod ad (v1 / (4500 : Int32)) (8 : Int32)   u r0 u0 h0) q_J9_floorMod_7cf53 tw_436 tw_437 (Nat.le_of_ble_eq_true rfl) (Nat.le_of_ble_eq_true rfl) rfl rfl (Nat.le_of_ble_eq_true rfl) dX3_deviationAt_7 rfl ?_
  refine r_istore_n 11 [(0, .ref (ad 3)), (1, .int v1), (2, .int r0)] [1, 2, 0] C dX3_deviationAt_10 rfl (by decide) rfl rfl ?_
  refine r_aload_n 12 0 C dX3_deviationAt_11 rfl rfl rfl ?_
  refine r_get 15 3 0 C inX3 (wd_3 ad u0) rfl (by decide) tw_49 rfl rfl dX3_deviationAt_12 rfl ?_
  refine r_iload_n 16 2 C dX3_deviationAt_15 rfl rfl rfl ?_
  obtain ⟨hc0, hf⟩ := ck_of hf
  refine r_iaload 17 4 8 C (wd_4 ad u0) hc0 dX3_deviationAt_16 rfl ?_
  obtain ⟨x0, ex0, hf⟩ := nm_of hf
  refine r_nm ex0 ?_
  refine r_istore_n 18 [(0, .ref (ad 3)), (1, .int v1), (2, .int r0), (3, .int x0)] [1, 2, 3, 0] C dX3_deviationAt_17 rfl (by decide) rfl rfl ?_
  refine r_aload_n 19 0 C dX3_deviationAt_18 rfl rfl rfl ?_
  refine r_get 22 3 0 C inX3 (wd_3 ad u0) rfl (by decide) tw_49 rfl rfl dX3_deviationAt_19 rfl ?_
  refine r_iload_n 23 2 C dX3_deviationAt_22 rfl rfl rfl ?_
  refine r_iconst (v := 1) 24 C dX3_deviationAt_23 (by decide) rfl ?_
  refine r_iadd 25 C dX3_deviationAt_24 rfl ?_
  refine r_bipush (v := 8) 27 C dX3_deviationAt_25 (by decide) rfl ?_
  refine r_irem 28 C dX3_deviationAt_27 (by decide) rfl ?_
  obtain ⟨x1, ex1, hf⟩ := nm_of hf
  refine r_nm ex1 ?_
  obtain ⟨hc1, hf⟩ := ck_of hf
  refine r_iaload 29 4 8 C (wd_4 ad u0) hc1 dX3_deviationAt_28 rfl ?_
  obtain ⟨x2, ex2, hf⟩ := nm_of hf
  refine r_nm ex2 ?_
  refine r_istore 31 [(0, .ref (ad 3)), (1, .int v1), (2, .int r0), (3, .int x0), (4, .int x2)] [1, 2, 3, 4, 0] C dX3_deviationAt_29 (by decide) rfl rfl ?_
  refine r_iload_n 32 3 C dX3_deviationAt_31 rfl rfl rfl ?_
  refine r_iload 34 4 C dX3_deviationAt_32 rfl rfl ?_
  refine r_iload_n 35 3 C dX3_deviationAt_34 rfl rfl rfl ?_
  refine r_isub 36 C dX3_deviationAt_35 rfl ?_
  refine r_iload_n 37 1 C dX3_deviationAt_36 rfl rfl rfl ?_
  refine r_sipush (v := 4500) 40 C dX3_deviationAt_37 (by decide) rfl ?_
  refine r_irem 41 C dX3_deviationAt_40 (by decide) rfl ?_
  obtain ⟨x3, ex3, hf⟩ := nm_of hf
  refine r_nm ex3 ?_
  refine r_imul 42 C dX3_deviationAt_41 rfl ?_
  refine r_sipush (v := 4500) 45 C dX3_deviationAt_42 (by decide) rfl ?_
  refine r_idiv 46 C dX3_deviationAt_45 (by decide) rfl ?_
  refine r_iadd 47 C dX3_deviationAt_46 rfl ?_
  exact r_iret C E (pr1 hf) (pr2 hf) dX3_deviationAt_47
def f_X4_shownAt (k0 : Nat) (v1 : Int32) (u : S2) : Option (Int32 × S2) := (if (u k0 0) = 0 then some ((0 : Int32), u) else (if (u k0 0) = (5 : Int32) then bd (f_X3_deviationAt v1 u) (fun r3 u3 => bd (f_X11_asHeading (v1 - r3) u3) (fun r4 u4 => some (r4, u4))) else bd (f_X11_asHeading (v1 - (u k0 4)) u) (fun r0 u0 => (if (u0 k0 0) = (4 : Int32) then bd (f_X11_leanOf (u0 k0 6) (u0 k0 7) r0 u0) (fun r1 u1 => bd (f_X11_asHeading (r0 + r1) u1) (fun r2 u2 => some (r2, u2))) else some (r0, u0)))))
set_option maxRecDepth 20000 in
theorem c_X4_shownAt (ad : Nat → Nat) (k0 : Nat) (v1 : Int32) (k0a : 10 ≤ k0) (k0b : k0 < 18)  (u : S2) (r : Int32) (w : S2) (hf : f_X4_shownAt k0 v1 u = some (r, w)) : HI yX4_shownAt cX4_shownAt 4 (some .int) 3 58 ad [.ref (ad k0), .int v1, .ref (ad 3)] u r w := by
  refine HI_of (by decide) (Nat.le_of_ble_eq_true rfl) (fun K C hR E => ?_)
  refine r_sub [(0, .ref (ad k0)), (1, .int v1), (2, .ref (ad 3))] [0, 1, 2] rfl ?_
  unfold f_X4_shownAt at hf
  refine r_aload_n 1 0 C dX4_shownAt_0 rfl rfl rfl ?_
  refine r_get 4 k0 0 C inX4 (wd_P ad u k0a k0b) rfl (by decide) tw_67 rfl rfl dX4_shownAt_1 rfl ?_
  refine r_if_ne 7 9 C dX4_shownAt_4 (by decide) rfl (fun c0 => ?_) (fun c0 => ?_)
  · have hf := ifF c0 hf
    refine r_aload_n 10 0 C dX4_shownAt_9 rfl rfl rfl ?_
    refine r_get 13 k0 0 C inX4 (wd_P ad u k0a k0b) rfl (by decide) tw_67 rfl rfl dX4_shownAt_10 rfl ?_
    refine r_iconst (v := 5) 14 C dX4_shownAt_13 (by decide) rfl ?_
    refine r_icmp_ne 17 28 C dX4_shownAt_14 (by decide) rfl (fun c1 => ?_) (fun c1 => ?_)
    · have hf := ifF c1 hf
      refine r_iload_n 29 1 C dX4_shownAt_28 rfl rfl rfl ?_
      refine r_aload_n 30 0 C dX4_shownAt_29 rfl rfl rfl ?_
      refine r_get 33 k0 4 C inX4 (wd_P ad u k0a k0b) rfl (by decide) tw_77 rfl rfl dX4_shownAt_30 rfl ?_
      refine r_isub 34 C dX4_shownAt_33 rfl ?_
      obtain ⟨r0, u0, h0, hf⟩ := bd_of hf
      refine r_cSNI 37 [.int (v1 - (u k0 4))] C hR (c_X11_asHeading ad (v1 - (u k0 4))  u r0 u0 h0) q_X11_asHeading tn_439 tw_440 (Nat.le_of_ble_eq_true rfl) (Nat.le_of_ble_eq_true rfl) rfl rfl (Nat.le_of_ble_eq_true rfl) dX4_shownAt_34 rfl ?_
      refine r_istore_n 38 [(0, .ref (ad k0)), (1, .int v1), (2, .ref (ad 3)), (3, .int r0)] [1, 2, 3, 0] C dX4_shownAt_37 rfl (by decide) rfl rfl ?_
      refine r_aload_n 39 0 C dX4_shownAt_38 rfl rfl rfl ?_
      refine r_get 42 k0 0 C inX4 (wd_P ad u0 k0a k0b) rfl (by decide) tw_67 rfl rfl dX4_shownAt_39 rfl ?_
      refine r_iconst (v := 4) 43 C dX4_shownAt_42 (by decide) rfl ?_
      refine r_icmp_ne 46 66 C dX4_shownAt_43 (by decide) rfl (fun c2 => ?_) (fun c2 => ?_)
      · have hf := ifF c2 hf
        refine r_iload_n 67 3 C dX4_shownAt_66 rfl rfl rfl ?_
        exact r_iret C E (pr1 hf) (pr2 hf) dX4_shownAt_67
      · have hf := ifT c2 hf
        refine r_iload_n 47 3 C dX4_shownAt_46 rfl rfl rfl ?_
        refine r_aload_n 48 0 C dX4_shownAt_47 rfl rfl rfl ?_
        refine r_get 51 k0 6 C inX4 (wd_P ad u0 k0a k0b) rfl (by decide) tw_83 rfl rfl dX4_shownAt_48 rfl ?_
        refine r_aload_n 52 0 C dX4_shownAt_51 rfl rfl rfl ?_
        refine r_get 55 k0 7 C inX4 (wd_P ad u0 k0a k0b) rfl (by decide) tw_85 rfl rfl dX4_shownAt_52 rfl ?_
        refine r_iload_n 56 3 C dX4_shownAt_55 rfl rfl rfl ?_
        obtain ⟨r1, u1, h1, hf⟩ := bd_of hf
        refine r_cSNI 59 [.int (u0 k0 6), .int (u0 k0 7), .int r0] C hR (c_X11_leanOf ad (u0 k0 6) (u0 k0 7) r0    u0 r1 u1 h1) q_X11_leanOf tn_444 tw_445 (Nat.le_of_ble_eq_true rfl) (Nat.le_of_ble_eq_true rfl) rfl rfl (Nat.le_of_ble_eq_true rfl) dX4_shownAt_56 rfl ?_
        refine r_iadd 60 C dX4_shownAt_59 rfl ?_
        obtain ⟨r2, u2, h2, hf⟩ := bd_of hf
        refine r_cSNI 63 [.int (r0 + r1)] C hR (c_X11_asHeading ad (r0 + r1)  u1 r2 u2 h2) q_X11_asHeading tn_439 tw_440 (Nat.le_of_ble_eq_true rfl) (Nat.le_of_ble_eq_true rfl) rfl rfl (Nat.le_of_ble_eq_true rfl) dX4_shownAt_60 rfl ?_
        refine r_goto 67 C dX4_shownAt_63 (by decide) ?_
        exact r_iret C E (pr1 hf) (pr2 hf) dX4_shownAt_67
    · have hf := ifT c1 hf
      refine r_iload_n 18 1 C dX4_shownAt_17 rfl rfl rfl ?_
      refine r_aload_n 19 2 C dX4_shownAt_18 rfl rfl rfl ?_
      refine r_iload_n 20 1 C dX4_shownAt_19 rfl rfl rfl ?_
      obtain ⟨r3, u3, h3, hf⟩ := bd_of hf
      refine r_cVNI 23 [.int v1] C hR (c_X3_deviationAt ad v1   u r3 u3 h3) q_X3_deviationAt tn_432 (wd_3 ad u) rfl rfl tw_434 tp_5 (Nat.le_of_ble_eq_true rfl) (Nat.le_of_ble_eq_true rfl) rfl rfl (Nat.le_of_ble_eq_true rfl) dX4_shownAt_20 rfl ?_
      refine r_isub 24 C dX4_shownAt_23 rfl ?_
      obtain ⟨r4, u4, h4, hf⟩ := bd_of hf
      refine r_cSNI 27 [.int (v1 - r3)] C hR (c_X11_asHeading ad (v1 - r3)  u3 r4 u4 h4) q_X11_asHeading tn_439 tw_440 (Nat.le_of_ble_eq_true rfl) (Nat.le_of_ble_eq_true rfl) rfl rfl (Nat.le_of_ble_eq_true rfl) dX4_shownAt_24 rfl ?_
      exact r_iret C E (pr1 hf) (pr2 hf) dX4_shownAt_27
  · have hf := ifT c0 hf
    refine r_iconst (v := 0) 8 C dX4_shownAt_7 (by decide) rfl ?_
    exact r_iret C E (pr1 hf) (pr2 hf) dX4_shownAt_8
def f_X11_shows (v1 : Int32) (u : S2) : Option (Int32 × S2) := bq (f_X7_pointerAt_5 v1 u) (fun p0 u0 => match p0 with | none => some ((-2 : Int32), u0) | some kp0 => bd (f_X4_shownAt kp0 (u0 5 4) u0) (fun r0 u1 => some (r0, u1)))
set_option maxRecDepth 20000 in
theorem c_X11_shows (ad : Nat → Nat) (v1 : Int32)  (u : S2) (r : Int32) (w : S2) (hf : f_X11_shows v1 u = some (r, w)) : HI yX11_shows cX11_shows 3 (some .int) 4 81 ad [.ref (ad 0), .int v1] u r w := by
  refine HI_of (by decide) (Nat.le_of_ble_eq_true rfl) (fun K C hR E => ?_)
  refine r_sub [(0, .ref (ad 0)), (1, .int v1)] [0, 1] rfl ?_
  unfold f_X11_shows at hf
  refine r_aload_n 1 0 C dX11_shows_0 rfl rfl rfl ?_
  refine r_get 4 0 2 C inX11 (wd_0 ad u) rfl (by decide) tw_320 rfl rfl dX11_shows_1 rfl ?_
  refine r_iload_n 5 1 C dX11_shows_4 rfl rfl rfl ?_
  obtain ⟨p0, u0, h0, hf⟩ := bq_of hf
  refine r_cVNQ 8 [.int v1] C hR (c_X7_pointerAt_5 ad v1   u p0 u0 h0) q_X7_pointerAt tn_389 (wd_5 ad u) rfl rfl tw_391 tp_1 (Nat.le_of_ble_eq_true rfl) (Nat.le_of_ble_eq_true rfl) rfl rfl (Nat.le_of_ble_eq_true rfl) dX11_shows_5 rfl ?_
  cases p0 with
  | none =>
    refine r_astore_nN 9 [(0, .ref (ad 0)), (1, .int v1), (2, .null)] [1, 2, 0] C dX11_shows_8 rfl (by decide) rfl rfl ?_
    refine r_aload_nN 10 2 C dX11_shows_9 rfl rfl rfl ?_
    refine r_ifnonnullN 13 C dX11_shows_10 rfl ?_
    refine r_bipush (v := -2) 15 C dX11_shows_13 (by decide) rfl ?_
    refine r_goto 33 C dX11_shows_15 (by decide) ?_
    exact r_iret C E (pr1 hf) (pr2 hf) dX11_shows_33
  | some kp0 =>
    obtain ⟨kp0a, kp0b⟩ := pa_X7_pointerAt_5 h0
    refine r_astore_n 9 [(0, .ref (ad 0)), (1, .int v1), (2, .ref (ad kp0))] [1, 2, 0] C dX11_shows_8 rfl (by decide) rfl rfl ?_
    refine r_aload_n 10 2 C dX11_shows_9 rfl rfl rfl ?_
    refine r_ifnonnull 18 C dX11_shows_10 (by decide) ?_
    refine r_aload_n 19 2 C dX11_shows_18 rfl rfl rfl ?_
    refine r_aload_n 20 0 C dX11_shows_19 rfl rfl rfl ?_
    refine r_get 23 0 2 C inX11 (wd_0 ad u0) rfl (by decide) tw_320 rfl rfl dX11_shows_20 rfl ?_
    refine r_getN 26 5 4 C inX7 (wd_5 ad u0) rfl (by decide) tn_113 rfl rfl dX11_shows_23 rfl ?_
    refine r_aload_n 27 0 C dX11_shows_26 rfl rfl rfl ?_
    refine r_get 30 0 1 C inX11 (wd_0 ad u0) rfl (by decide) tw_319 rfl rfl dX11_shows_27 rfl ?_
    obtain ⟨r0, u1, h1, hf⟩ := bd_of hf
    refine r_cVNI 33 [.int (u0 5 4), .ref (ad 3)] C hR (c_X4_shownAt ad kp0 (u0 5 4) kp0a kp0b   u0 r0 u1 h1) q_X4_shownAt tn_428 (wd_P ad u0 kp0a kp0b) rfl rfl tw_430 tp_4 (Nat.le_of_ble_eq_true rfl) (Nat.le_of_ble_eq_true rfl) rfl rfl (Nat.le_of_ble_eq_true rfl) dX11_shows_30 rfl ?_
    exact r_iret C E (pr1 hf) (pr2 hf) dX11_shows_33
def f_X11_now (v1 : Int32) (v2 : Int32) (u : S2) : Option (Int32 × S2) := bq (f_X7_pointerAt_5 v1 u) (fun p0 u0 => match p0 with | none => some ((-2 : Int32), u0) | some kp0 => bd (f_X11_isWithin v2 (0 : Int32) (1 : Int32) u0) (fun r0 u1 => (if r0 = 0 then some ((-3 : Int32), u1) else (if v2 = 0 then some ((u1 kp0 4) + (50000 : Int32), u1) else some ((u1 kp0 5) + (50000 : Int32), u1)))))
set_option maxRecDepth 20000 in
theorem c_X11_now (ad : Nat → Nat) (v1 : Int32) (v2 : Int32)   (u : S2) (r : Int32) (w : S2) (hf : f_X11_now v1 v2 u = some (r, w)) : HI yX11_now cX11_now 4 (some .int) 2 43 ad [.ref (ad 0), .int v1, .int v2] u r w := by
  refine HI_of (by decide) (Nat.le_of_ble_eq_true rfl) (fun K C hR E => ?_)
  refine r_sub [(0, .ref (ad 0)), (1, .int v1), (2, .int v2)] [0, 1, 2] rfl ?_
  unfold f_X11_now at hf
  refine r_aload_n 1 0 C dX11_now_0 rfl rfl rfl ?_
  refine r_get 4 0 2 C inX11 (wd_0 ad u) rfl (by decide) tw_320 rfl rfl dX11_now_1 rfl ?_
  refine r_iload_n 5 1 C dX11_now_4 rfl rfl rfl ?_
  obtain ⟨p0, u0, h0, hf⟩ := bq_of hf
  refine r_cVNQ 8 [.int v1] C hR (c_X7_pointerAt_5 ad v1   u p0 u0 h0) q_X7_pointerAt tn_389 (wd_5 ad u) rfl rfl tw_391 tp_1 (Nat.le_of_ble_eq_true rfl) (Nat.le_of_ble_eq_true rfl) rfl rfl (Nat.le_of_ble_eq_true rfl) dX11_now_5 rfl ?_
  cases p0 with
  | none =>
    refine r_astore_nN 9 [(0, .ref (ad 0)), (1, .int v1), (2, .int v2), (3, .null)] [1, 2, 3, 0] C dX11_now_8 rfl (by decide) rfl rfl ?_
    refine r_aload_nN 10 3 C dX11_now_9 rfl rfl rfl ?_
    refine r_ifnonnullN 13 C dX11_now_10 rfl ?_
    refine r_bipush (v := -2) 15 C dX11_now_13 (by decide) rfl ?_
    exact r_iret C E (pr1 hf) (pr2 hf) dX11_now_15
  | some kp0 =>
    obtain ⟨kp0a, kp0b⟩ := pa_X7_pointerAt_5 h0
    refine r_astore_n 9 [(0, .ref (ad 0)), (1, .int v1), (2, .int v2), (3, .ref (ad kp0))] [1, 2, 3, 0] C dX11_now_8 rfl (by decide) rfl rfl ?_
    refine r_aload_n 10 3 C dX11_now_9 rfl rfl rfl ?_
    refine r_ifnonnull 16 C dX11_now_10 (by decide) ?_
    refine r_iload_n 17 2 C dX11_now_16 rfl rfl rfl ?_
    refine r_iconst (v := 0) 18 C dX11_now_17 (by decide) rfl ?_
    refine r_iconst (v := 1) 19 C dX11_now_18 (by decide) rfl ?_
    obtain ⟨r0, u1, h1, hf⟩ := bd_of hf
    refine r_cSI 22 [.int v2, .int (0 : Int32), .int (1 : Int32)] C hR (c_X11_isWithin ad v2 (0 : Int32) (1 : Int32)    u0 r0 u1 h1) q_X11_isWithin tw_356 tw_357 (Nat.le_of_ble_eq_true rfl) (Nat.le_of_ble_eq_true rfl) rfl rfl (Nat.le_of_ble_eq_true rfl) dX11_now_19 rfl ?_
    refine r_if_ne 25 28 C dX11_now_22 (by decide) rfl (fun c0 => ?_) (fun c0 => ?_)
    · have hf := ifF c0 hf
      refine r_iload_n 29 2 C dX11_now_28 rfl rfl rfl ?_
      refine r_if_ne 32 39 C dX11_now_29 (by decide) rfl (fun c1 => ?_) (fun c1 => ?_)
      · have hf := ifF c1 hf
        refine r_aload_n 40 3 C dX11_now_39 rfl rfl rfl ?_
        refine r_getN 43 kp0 5 C inX4 (wd_P ad u1 kp0a kp0b) rfl (by decide) tn_82 rfl rfl dX11_now_40 rfl ?_
        refine r_ldc (v := 50000) 45 C tw_460 dX11_now_43 rfl ?_
        refine r_iadd 46 C dX11_now_45 rfl ?_
        exact r_iret C E (pr1 hf) (pr2 hf) dX11_now_46
      · have hf := ifT c1 hf
        refine r_aload_n 33 3 C dX11_now_32 rfl rfl rfl ?_
        refine r_getN 36 kp0 4 C inX4 (wd_P ad u1 kp0a kp0b) rfl (by decide) tn_80 rfl rfl dX11_now_33 rfl ?_
        refine r_goto 43 C dX11_now_36 (by decide) ?_
        refine r_ldc (v := 50000) 45 C tw_460 dX11_now_43 rfl ?_
        refine r_iadd 46 C dX11_now_45 rfl ?_
        exact r_iret C E (pr1 hf) (pr2 hf) dX11_now_46
    · have hf := ifT c0 hf
      refine r_bipush (v := -3) 27 C dX11_now_25 (by decide) rfl ?_
      exact r_iret C E (pr1 hf) (pr2 hf) dX11_now_27
def f_X11_lean (v1 : Int32) (v2 : Int32) (v3 : Int32) (u : S2) : Option (Int32 × S2) := bd (f_X11_isSpeed v1 u) (fun r0 u0 => (if r0 = 0 then some ((-3 : Int32), u0) else bd (f_X11_isPlace v2 u0) (fun r1 u1 => (if r1 = 0 then some ((-3 : Int32), u1) else bd (f_X11_isHeading v3 u1) (fun r2 u2 => (if r2 = 0 then some ((-3 : Int32), u2) else bd (f_X11_leanOf v1 v2 v3 u2) (fun r3 u3 => some (r3 + (100000 : Int32), u3))))))))
set_option maxRecDepth 20000 in
theorem c_X11_lean (ad : Nat → Nat) (v1 : Int32) (v2 : Int32) (v3 : Int32)    (u : S2) (r : Int32) (w : S2) (hf : f_X11_lean v1 v2 v3 u = some (r, w)) : HI yX11_lean cX11_lean 4 (some .int) 3 58 ad [.ref (ad 0), .int v1, .int v2, .int v3] u r w := by
  refine HI_of (by decide) (Nat.le_of_ble_eq_true rfl) (fun K C hR E => ?_)
  refine r_sub [(0, .ref (ad 0)), (1, .int v1), (2, .int v2), (3, .int v3)] [0, 1, 2, 3] rfl ?_
  unfold f_X11_lean at hf
  refine r_iload_n 1 1 C dX11_lean_0 rfl rfl rfl ?_
  obtain ⟨r0, u0, h0, hf⟩ := bd_of hf
  refine r_cSI 4 [.int v1] C hR (c_X11_isSpeed ad v1  u r0 u0 h0) q_X11_isSpeed tw_359 tw_360 (Nat.le_of_ble_eq_true rfl) (Nat.le_of_ble_eq_true rfl) rfl rfl (Nat.le_of_ble_eq_true rfl) dX11_lean_1 rfl ?_
  refine r_if_eq 7 21 C dX11_lean_4 (by decide) rfl (fun c0 => ?_) (fun c0 => ?_)
  · have hf := ifT c0 hf
    refine r_bipush (v := -3) 23 C dX11_lean_21 (by decide) rfl ?_
    exact r_iret C E (pr1 hf) (pr2 hf) dX11_lean_23
  · have hf := ifF c0 hf
    refine r_iload_n 8 2 C dX11_lean_7 rfl rfl rfl ?_
    obtain ⟨r1, u1, h1, hf⟩ := bd_of hf
    refine r_cSI 11 [.int v2] C hR (c_X11_isPlace ad v2  u0 r1 u1 h1) q_X11_isPlace tw_353 tw_354 (Nat.le_of_ble_eq_true rfl) (Nat.le_of_ble_eq_true rfl) rfl rfl (Nat.le_of_ble_eq_true rfl) dX11_lean_8 rfl ?_
    refine r_if_eq 14 21 C dX11_lean_11 (by decide) rfl (fun c1 => ?_) (fun c1 => ?_)
    · have hf := ifT c1 hf
      refine r_bipush (v := -3) 23 C dX11_lean_21 (by decide) rfl ?_
      exact r_iret C E (pr1 hf) (pr2 hf) dX11_lean_23
    · have hf := ifF c1 hf
      refine r_iload_n 15 3 C dX11_lean_14 rfl rfl rfl ?_
      obtain ⟨r2, u2, h2, hf⟩ := bd_of hf
      refine r_cSI 18 [.int v3] C hR (c_X11_isHeading ad v3  u1 r2 u2 h2) q_X11_isHeading tw_366 tw_367 (Nat.le_of_ble_eq_true rfl) (Nat.le_of_ble_eq_true rfl) rfl rfl (Nat.le_of_ble_eq_true rfl) dX11_lean_15 rfl ?_
      refine r_if_ne 21 24 C dX11_lean_18 (by decide) rfl (fun c2 => ?_) (fun c2 => ?_)
      · have hf := ifF c2 hf
        refine r_iload_n 25 1 C dX11_lean_24 rfl rfl rfl ?_
        refine r_iload_n 26 2 C dX11_lean_25 rfl rfl rfl ?_
        refine r_iload_n 27 3 C dX11_lean_26 rfl rfl rfl ?_
        obtain ⟨r3, u3, h3, hf⟩ := bd_of hf
        refine r_cSI 30 [.int v1, .int v2, .int v3] C hR (c_X11_leanOf ad v1 v2 v3    u2 r3 u3 h3) q_X11_leanOf tw_465 tw_445 (Nat.le_of_ble_eq_true rfl) (Nat.le_of_ble_eq_true rfl) rfl rfl (Nat.le_of_ble_eq_true rfl) dX11_lean_27 rfl ?_
        refine r_ldc (v := 100000) 32 C tw_466 dX11_lean_30 rfl ?_
        refine r_iadd 33 C dX11_lean_32 rfl ?_
        exact r_iret C E (pr1 hf) (pr2 hf) dX11_lean_33
      · have hf := ifT c2 hf
        refine r_bipush (v := -3) 23 C dX11_lean_21 (by decide) rfl ?_
        exact r_iret C E (pr1 hf) (pr2 hf) dX11_lean_23
def f_X11_deviation (v1 : Int32) (u : S2) : Option (Int32 × S2) := bd (f_X11_isHeading v1 u) (fun r0 u0 => (if r0 = 0 then some ((-3 : Int32), u0) else bd (f_X3_deviationAt v1 u0) (fun r1 u1 => some (r1 + (50000 : Int32), u1))))
set_option maxRecDepth 20000 in
theorem c_X11_deviation (ad : Nat → Nat) (v1 : Int32)  (u : S2) (r : Int32) (w : S2) (hf : f_X11_deviation v1 u = some (r, w)) : HI yX11_deviation cX11_deviation 2 (some .int) 2 46 ad [.ref (ad 0), .int v1] u r w := by
  refine HI_of (by decide) (Nat.le_of_ble_eq_true rfl) (fun K C hR E => ?_)
  refine r_sub [(0, .ref (ad 0)), (1, .int v1)] [0, 1] rfl ?_
  unfold f_X11_deviation at hf
  refine r_iload_n 1 1 C dX11_deviation_0 rfl rfl rfl ?_
  obtain ⟨r0, u0, h0, hf⟩ := bd_of hf
  refine r_cSI 4 [.int v1] C hR (c_X11_isHeading ad v1  u r0 u0 h0) q_X11_isHeading tw_366 tw_367 (Nat.le_of_ble_eq_true rfl) (Nat.le_of_ble_eq_true rfl) rfl rfl (Nat.le_of_ble_eq_true rfl) dX11_deviation_1 rfl ?_
  refine r_if_ne 7 10 C dX11_deviation_4 (by decide) rfl (fun c0 => ?_) (fun c0 => ?_)
  · have hf := ifF c0 hf
    refine r_aload_n 11 0 C dX11_deviation_10 rfl rfl rfl ?_
    refine r_get 14 0 1 C inX11 (wd_0 ad u0) rfl (by decide) tw_319 rfl rfl dX11_deviation_11 rfl ?_
    refine r_iload_n 15 1 C dX11_deviation_14 rfl rfl rfl ?_
    obtain ⟨r1, u1, h1, hf⟩ := bd_of hf
    refine r_cVNI 18 [.int v1] C hR (c_X3_deviationAt ad v1   u0 r1 u1 h1) q_X3_deviationAt tn_471 (wd_3 ad u0) rfl rfl tw_434 tp_5 (Nat.le_of_ble_eq_true rfl) (Nat.le_of_ble_eq_true rfl) rfl rfl (Nat.le_of_ble_eq_true rfl) dX11_deviation_15 rfl ?_
    refine r_ldc (v := 50000) 20 C tw_460 dX11_deviation_18 rfl ?_
    refine r_iadd 21 C dX11_deviation_20 rfl ?_
    exact r_iret C E (pr1 hf) (pr2 hf) dX11_deviation_21
  · have hf := ifT c0 hf
    refine r_bipush (v := -3) 9 C dX11_deviation_7 (by decide) rfl ?_
    exact r_iret C E (pr1 hf) (pr2 hf) dX11_deviation_9
def f_X6_yawOf (v1 : Int32) (u : S2) : Option (Int32 × S2) := (if (1 : Int32) ≤ (u 1 1) then bd (f_J_floorMod v1 (u 1 1) u) (fun r0 u0 => ck (inb r0 24) (nm (u0 2 (Int32.toNatClampNeg r0)) (fun x0 => some (x0, u0)))) else some ((0 : Int32), u))
set_option maxRecDepth 20000 in
theorem c_X6_yawOf (ad : Nat → Nat) (v1 : Int32)  (u : S2) (r : Int32) (w : S2) (hf : f_X6_yawOf v1 u = some (r, w)) : HI yX6_yawOf cX6_yawOf 2 (some .int) 1 22 ad [.ref (ad 1), .int v1] u r w := by
  refine HI_of (by decide) (Nat.le_of_ble_eq_true rfl) (fun K C hR E => ?_)
  refine r_sub [(0, .ref (ad 1)), (1, .int v1)] [0, 1] rfl ?_
  unfold f_X6_yawOf at hf
  refine r_aload_n 1 0 C dX6_yawOf_0 rfl rfl rfl ?_
  refine r_get 4 1 1 C inX6 (wd_1 ad u) rfl (by decide) tw_35 rfl rfl dX6_yawOf_1 rfl ?_
  refine r_iconst (v := 1) 5 C dX6_yawOf_4 (by decide) rfl ?_
  refine r_icmp_ge 8 12 C dX6_yawOf_5 (by decide) rfl (fun c0 => ?_) (fun c0 => ?_)
  · have hf := ifT c0 hf
    refine r_aload_n 13 0 C dX6_yawOf_12 rfl rfl rfl ?_
    refine r_get 16 1 0 C inX6 (wd_1 ad u) rfl (by decide) tw_34 rfl rfl dX6_yawOf_13 rfl ?_
    refine r_iload_n 17 1 C dX6_yawOf_16 rfl rfl rfl ?_
    refine r_aload_n 18 0 C dX6_yawOf_17 rfl rfl rfl ?_
    refine r_get 21 1 1 C inX6 (wd_1 ad u) rfl (by decide) tw_35 rfl rfl dX6_yawOf_18 rfl ?_
    obtain ⟨r0, u0, h0, hf⟩ := bd_of hf
    refine r_cSI 24 [.int v1, .int (u 1 1)] C hR (c_J_floorMod ad v1 (u 1 1)   u r0 u0 h0) q_J9_floorMod_7cf53 tw_504 tw_437 (Nat.le_of_ble_eq_true rfl) (Nat.le_of_ble_eq_true rfl) rfl rfl (Nat.le_of_ble_eq_true rfl) dX6_yawOf_21 rfl ?_
    obtain ⟨hc0, hf⟩ := ck_of hf
    refine r_iaload 25 2 24 C (wd_2 ad u0) hc0 dX6_yawOf_24 rfl ?_
    obtain ⟨x0, ex0, hf⟩ := nm_of hf
    refine r_nm ex0 ?_
    exact r_iret C E (pr1 hf) (pr2 hf) dX6_yawOf_25
  · have hf := ifF c0 hf
    refine r_iconst (v := 0) 9 C dX6_yawOf_8 (by decide) rfl ?_
    refine r_goto 25 C dX6_yawOf_9 (by decide) ?_
    exact r_iret C E (pr1 hf) (pr2 hf) dX6_yawOf_25
def f_X11_asOff (v0 : Int32) (u : S2) : Option (Int32 × S2) := bd (f_J_floorMod (v0 + (18000 : Int32)) (36000 : Int32) u) (fun r0 u0 => some (r0 - (18000 : Int32), u0))
set_option maxRecDepth 20000 in
theorem c_X11_asOff (ad : Nat → Nat) (v0 : Int32)  (u : S2) (r : Int32) (w : S2) (hf : f_X11_asOff v0 u = some (r, w)) : HI yX11_asOff cX11_asOff 1 (some .int) 1 22 ad [.int v0] u r w := by
  refine HI_of (by decide) (Nat.le_of_ble_eq_true rfl) (fun K C hR E => ?_)
  refine r_sub [(0, .int v0)] [0] rfl ?_
  unfold f_X11_asOff at hf
  refine r_iload_n 1 0 C dX11_asOff_0 rfl rfl rfl ?_
  refine r_sipush (v := 18000) 4 C dX11_asOff_1 (by decide) rfl ?_
  refine r_iadd 5 C dX11_asOff_4 rfl ?_
  refine r_ldcw (v := 36000) 8 C tw_442 dX11_asOff_5 rfl ?_
  obtain ⟨r0, u0, h0, hf⟩ := bd_of hf
  refine r_cSI 11 [.int (v0 + (18000 : Int32)), .int (36000 : Int32)] C hR (c_J_floorMod ad (v0 + (18000 : Int32)) (36000 : Int32)   u r0 u0 h0) q_J9_floorMod_7cf53 tw_443 tw_437 (Nat.le_of_ble_eq_true rfl) (Nat.le_of_ble_eq_true rfl) rfl rfl (Nat.le_of_ble_eq_true rfl) dX11_asOff_8 rfl ?_
  refine r_sipush (v := 18000) 14 C dX11_asOff_11 (by decide) rfl ?_
  refine r_isub 15 C dX11_asOff_14 rfl ?_
  exact r_iret C E (pr1 hf) (pr2 hf) dX11_asOff_15
def f_X11_bounded (v0 : Int32) (v1 : Int32) (u : S2) : Option (Int32 × S2) := nm (jmin v1 v0) (fun x0 => nm (jmax (-v1) x0) (fun x1 => some (x1, u)))
set_option maxRecDepth 20000 in
theorem c_X11_bounded (ad : Nat → Nat) (v0 : Int32) (v1 : Int32)   (u : S2) (r : Int32) (w : S2) (hf : f_X11_bounded v0 v1 u = some (r, w)) : HI yX11_bounded cX11_bounded 2 (some .int) 1 14 ad [.int v0, .int v1] u r w := by
  refine HI_of (by decide) (Nat.le_of_ble_eq_true rfl) (fun K C hR E => ?_)
  refine r_sub [(0, .int v0), (1, .int v1)] [0, 1] rfl ?_
  unfold f_X11_bounded at hf
  refine r_iload_n 1 1 C dX11_bounded_0 rfl rfl rfl ?_
  refine r_ineg 2 C dX11_bounded_1 rfl ?_
  refine r_iload_n 3 1 C dX11_bounded_2 rfl rfl rfl ?_
  refine r_iload_n 4 0 C dX11_bounded_3 rfl rfl rfl ?_
  refine r_mmin 7 C hR tw_453 tw_454 tw_15 tw_455 (Nat.le_of_ble_eq_true rfl) (Nat.le_of_ble_eq_true rfl) dX11_bounded_4 rfl ?_
  obtain ⟨x0, ex0, hf⟩ := nm_of hf
  refine r_nm ex0 ?_
  refine r_mmax 10 C hR tw_493 tw_494 tw_15 tw_495 (Nat.le_of_ble_eq_true rfl) (Nat.le_of_ble_eq_true rfl) dX11_bounded_7 rfl ?_
  obtain ⟨x1, ex1, hf⟩ := nm_of hf
  refine r_nm ex1 ?_
  exact r_iret C E (pr1 hf) (pr2 hf) dX11_bounded_10
def f_X4_sway_65  (k0 : Nat) (u : S2) : Option (S2) := bd (f_X11_bounded (u k0 5) (9999 : Int32) u) (fun r0 u0 => nm (wr u0 k0 5 r0) (fun u1 => bd (f_X11_asOff ((u1 k0 4) + (u1 k0 5)) u1) (fun r1 u2 => nm (wr u2 k0 4 r1) (fun u3 => some u3))))
set_option maxRecDepth 20000 in
theorem w_X4_sway_65 {K : Ctx} {ad : Nat → Nat} (C : Cx K ad cX4_sway 5 yX4_sway.cls none) (hR : Rm K 2 42) {w : S2} (E : EV K ad w)  (k0 : Nat) (k0a : 10 ≤ k0) (k0b : k0 < 18) (u : S2) (hf : f_X4_sway_65  k0 u = some w) : RW K ad 5 65 [(0, .ref (ad k0))] [] u := by
  unfold f_X4_sway_65 at hf
  refine r_aload_n 66 0 C dX4_sway_65 rfl rfl rfl ?_
  refine r_aload_n 67 0 C dX4_sway_66 rfl rfl rfl ?_
  refine r_get 70 k0 5 C inX4 (wd_P ad u k0a k0b) rfl (by decide) tw_81 rfl rfl dX4_sway_67 rfl ?_
  refine r_sipush (v := 9999) 73 C dX4_sway_70 (by decide) rfl ?_
  obtain ⟨r0, u0, h0, hf⟩ := bd_of hf
  refine r_cSNI 76 [.int (u k0 5), .int (9999 : Int32)] C hR (c_X11_bounded ad (u k0 5) (9999 : Int32)   u r0 u0 h0) q_X11_bounded tn_516 tw_491 (Nat.le_of_ble_eq_true rfl) (Nat.le_of_ble_eq_true rfl) rfl rfl (Nat.le_of_ble_eq_true rfl) dX4_sway_73 rfl ?_
  refine r_put 79 k0 5 C inX4 tyX4_ok nmX4 (wd_P ad u0 k0a k0b) (sP_5 ad u0 k0a k0b r0) rfl (by decide) tw_81 rfl rfl (tyX4_ok 5 (by decide)) rfl rfl (Nat.le_of_ble_eq_true rfl) dX4_sway_76 rfl ?_
  obtain ⟨u1, eu1, hf⟩ := nm_of hf
  refine r_st eu1 ?_
  refine r_aload_n 80 0 C dX4_sway_79 rfl rfl rfl ?_
  refine r_aload_n 81 0 C dX4_sway_80 rfl rfl rfl ?_
  refine r_get 84 k0 4 C inX4 (wd_P ad u1 k0a k0b) rfl (by decide) tw_77 rfl rfl dX4_sway_81 rfl ?_
  refine r_aload_n 85 0 C dX4_sway_84 rfl rfl rfl ?_
  refine r_get 88 k0 5 C inX4 (wd_P ad u1 k0a k0b) rfl (by decide) tw_81 rfl rfl dX4_sway_85 rfl ?_
  refine r_iadd 89 C dX4_sway_88 rfl ?_
  obtain ⟨r1, u2, h1, hf⟩ := bd_of hf
  refine r_cSNI 92 [.int ((u1 k0 4) + (u1 k0 5))] C hR (c_X11_asOff ad ((u1 k0 4) + (u1 k0 5))  u1 r1 u2 h1) q_X11_asOff tn_510 tw_483 (Nat.le_of_ble_eq_true rfl) (Nat.le_of_ble_eq_true rfl) rfl rfl (Nat.le_of_ble_eq_true rfl) dX4_sway_89 rfl ?_
  refine r_put 95 k0 4 C inX4 tyX4_ok nmX4 (wd_P ad u2 k0a k0b) (sP_4 ad u2 k0a k0b r1) rfl (by decide) tw_77 rfl rfl (tyX4_ok 4 (by decide)) rfl rfl (Nat.le_of_ble_eq_true rfl) dX4_sway_92 rfl ?_
  obtain ⟨u3, eu3, hf⟩ := nm_of hf
  refine r_st eu3 ?_
  exact r_vret C E (so_of hf) dX4_sway_95
def f_X4_sway (k0 : Nat) (v1 : Int32) (v2 : Int32) (v3 : Int32) (v4 : Int32) (u : S2) : Option (S2) := nm ((u k0 5) - ((((u k0 1) * v1) * v2) / (9000 : Int32))) (fun x0 => nm (wr u k0 5 x0) (fun u0 => (if v4 = 0 then f_X4_sway_65   k0 u0 else nm ((u0 k0 5) - (((u0 k0 5) * (u0 k0 2)) / (100 : Int32))) (fun x1 => nm (wr u0 k0 5 x1) (fun u1 => nm ((u1 k0 5) + ((v3 * (u1 k0 3)) / (100 : Int32))) (fun x2 => nm (wr u1 k0 5 x2) (fun u2 => f_X4_sway_65   k0 u2)))))))
set_option maxRecDepth 20000 in
theorem c_X4_sway (ad : Nat → Nat) (k0 : Nat) (v1 : Int32) (v2 : Int32) (v3 : Int32) (v4 : Int32) (k0a : 10 ≤ k0) (k0b : k0 < 18)     (u : S2) (w : S2) (hf : f_X4_sway k0 v1 v2 v3 v4 u = some w) : HV yX4_sway cX4_sway 5 none 2 42 ad [.ref (ad k0), .int v1, .int v2, .int v3, .int v4] u w := by
  refine HV_of (by decide) (Nat.le_of_ble_eq_true rfl) (fun K C hR E => ?_)
  refine r_sub [(0, .ref (ad k0)), (1, .int v1), (2, .int v2), (3, .int v3), (4, .int v4)] [0, 1, 2, 3, 4] rfl ?_
  unfold f_X4_sway at hf
  refine r_aload_n 1 0 C dX4_sway_0 rfl rfl rfl ?_
  refine r_dup 2 C dX4_sway_1 rfl rfl ?_
  refine r_get 5 k0 5 C inX4 (wd_P ad u k0a k0b) rfl (by decide) tw_81 rfl rfl dX4_sway_2 rfl ?_
  refine r_aload_n 6 0 C dX4_sway_5 rfl rfl rfl ?_
  refine r_get 9 k0 1 C inX4 (wd_P ad u k0a k0b) rfl (by decide) tw_70 rfl rfl dX4_sway_6 rfl ?_
  refine r_iload_n 10 1 C dX4_sway_9 rfl rfl rfl ?_
  refine r_imul 11 C dX4_sway_10 rfl ?_
  refine r_iload_n 12 2 C dX4_sway_11 rfl rfl rfl ?_
  refine r_imul 13 C dX4_sway_12 rfl ?_
  refine r_sipush (v := 9000) 16 C dX4_sway_13 (by decide) rfl ?_
  refine r_idiv 17 C dX4_sway_16 (by decide) rfl ?_
  refine r_isub 18 C dX4_sway_17 rfl ?_
  obtain ⟨x0, ex0, hf⟩ := nm_of hf
  refine r_nm ex0 ?_
  refine r_put 21 k0 5 C inX4 tyX4_ok nmX4 (wd_P ad u k0a k0b) (sP_5 ad u k0a k0b x0) rfl (by decide) tw_81 rfl rfl (tyX4_ok 5 (by decide)) rfl rfl (Nat.le_of_ble_eq_true rfl) dX4_sway_18 rfl ?_
  obtain ⟨u0, eu0, hf⟩ := nm_of hf
  refine r_st eu0 ?_
  refine r_iload 23 4 C dX4_sway_21 rfl rfl ?_
  refine r_if_eq 26 65 C dX4_sway_23 (by decide) rfl (fun c0 => ?_) (fun c0 => ?_)
  · have hf := ifT c0 hf
    refine r_sub [(0, .ref (ad k0))] [0] rfl ?_
    exact w_X4_sway_65 C hR E   k0 k0a k0b u0 hf
  · have hf := ifF c0 hf
    refine r_aload_n 27 0 C dX4_sway_26 rfl rfl rfl ?_
    refine r_dup 28 C dX4_sway_27 rfl rfl ?_
    refine r_get 31 k0 5 C inX4 (wd_P ad u0 k0a k0b) rfl (by decide) tw_81 rfl rfl dX4_sway_28 rfl ?_
    refine r_aload_n 32 0 C dX4_sway_31 rfl rfl rfl ?_
    refine r_get 35 k0 5 C inX4 (wd_P ad u0 k0a k0b) rfl (by decide) tw_81 rfl rfl dX4_sway_32 rfl ?_
    refine r_aload_n 36 0 C dX4_sway_35 rfl rfl rfl ?_
    refine r_get 39 k0 2 C inX4 (wd_P ad u0 k0a k0b) rfl (by decide) tw_74 rfl rfl dX4_sway_36 rfl ?_
    refine r_imul 40 C dX4_sway_39 rfl ?_
    refine r_bipush (v := 100) 42 C dX4_sway_40 (by decide) rfl ?_
    refine r_idiv 43 C dX4_sway_42 (by decide) rfl ?_
    refine r_isub 44 C dX4_sway_43 rfl ?_
    obtain ⟨x1, ex1, hf⟩ := nm_of hf
    refine r_nm ex1 ?_
    refine r_put 47 k0 5 C inX4 tyX4_ok nmX4 (wd_P ad u0 k0a k0b) (sP_5 ad u0 k0a k0b x1) rfl (by decide) tw_81 rfl rfl (tyX4_ok 5 (by decide)) rfl rfl (Nat.le_of_ble_eq_true rfl) dX4_sway_44 rfl ?_
    obtain ⟨u1, eu1, hf⟩ := nm_of hf
    refine r_st eu1 ?_
    refine r_aload_n 48 0 C dX4_sway_47 rfl rfl rfl ?_
    refine r_dup 49 C dX4_sway_48 rfl rfl ?_
    refine r_get 52 k0 5 C inX4 (wd_P ad u1 k0a k0b) rfl (by decide) tw_81 rfl rfl dX4_sway_49 rfl ?_
    refine r_iload_n 53 3 C dX4_sway_52 rfl rfl rfl ?_
    refine r_aload_n 54 0 C dX4_sway_53 rfl rfl rfl ?_
    refine r_get 57 k0 3 C inX4 (wd_P ad u1 k0a k0b) rfl (by decide) tw_76 rfl rfl dX4_sway_54 rfl ?_
    refine r_imul 58 C dX4_sway_57 rfl ?_
    refine r_bipush (v := 100) 60 C dX4_sway_58 (by decide) rfl ?_
    refine r_idiv 61 C dX4_sway_60 (by decide) rfl ?_
    refine r_iadd 62 C dX4_sway_61 rfl ?_
    obtain ⟨x2, ex2, hf⟩ := nm_of hf
    refine r_nm ex2 ?_
    refine r_put 65 k0 5 C inX4 tyX4_ok nmX4 (wd_P ad u1 k0a k0b) (sP_5 ad u1 k0a k0b x2) rfl (by decide) tw_81 rfl rfl (tyX4_ok 5 (by decide)) rfl rfl (Nat.le_of_ble_eq_true rfl) dX4_sway_62 rfl ?_
    obtain ⟨u2, eu2, hf⟩ := nm_of hf
    refine r_st eu2 ?_
    refine r_sub [(0, .ref (ad k0))] [0] rfl ?_
    exact w_X4_sway_65 C hR E   k0 k0a k0b u2 hf
def f_X4_tickIn_5_77  (k0 : Nat) (v2 : Int32) (u : S2) : Option (S2) := bd (f_X11_leanOf (u 5 5) (u 5 3) (u 5 4) u) (fun r0 u0 => bd (f_X11_holdOf (u0 5 3) u0) (fun r1 u1 => bd (f_X11_asOff ((u1 k0 4) - r0) u1) (fun r2 u2 => bv (f_X4_sway k0 r1 r2 v2 (1 : Int32) u2) (fun u3 => some u3))))
set_option maxRecDepth 20000 in
theorem w_X4_tickIn_5_77 {K : Ctx} {ad : Nat → Nat} (C : Cx K ad cX4_tickIn 4 yX4_tickIn.cls none) (hR : Rm K 3 66) {w : S2} (E : EV K ad w)  (k0 : Nat) (v2 : Int32) (k0a : 10 ≤ k0) (k0b : k0 < 18)  (u : S2) (hf : f_X4_tickIn_5_77  k0 v2 u = some w) : RW K ad 4 77 [(0, .ref (ad k0)), (1, .ref (ad 5)), (2, .int v2)] [] u := by
  unfold f_X4_tickIn_5_77 at hf
  refine r_aload_n 78 1 C dX4_tickIn_77 rfl rfl rfl ?_
  refine r_getN 81 5 5 C inX7 (wd_5 ad u) rfl (by decide) tn_118 rfl rfl dX4_tickIn_78 rfl ?_
  refine r_aload_n 82 1 C dX4_tickIn_81 rfl rfl rfl ?_
  refine r_getN 85 5 3 C inX7 (wd_5 ad u) rfl (by decide) tn_110 rfl rfl dX4_tickIn_82 rfl ?_
  refine r_aload_n 86 1 C dX4_tickIn_85 rfl rfl rfl ?_
  refine r_getN 89 5 4 C inX7 (wd_5 ad u) rfl (by decide) tn_115 rfl rfl dX4_tickIn_86 rfl ?_
  obtain ⟨r0, u0, h0, hf⟩ := bd_of hf
  refine r_cSNI 92 [.int (u 5 5), .int (u 5 3), .int (u 5 4)] C hR (c_X11_leanOf ad (u 5 5) (u 5 3) (u 5 4)    u r0 u0 h0) q_X11_leanOf tn_444 tw_445 (Nat.le_of_ble_eq_true rfl) (Nat.le_of_ble_eq_true rfl) rfl rfl (Nat.le_of_ble_eq_true rfl) dX4_tickIn_89 rfl ?_
  refine r_istore_n 93 [(0, .ref (ad k0)), (1, .ref (ad 5)), (2, .int v2), (3, .int r0)] [1, 2, 3, 0] C dX4_tickIn_92 rfl (by decide) rfl rfl ?_
  refine r_aload_n 94 0 C dX4_tickIn_93 rfl rfl rfl ?_
  refine r_aload_n 95 1 C dX4_tickIn_94 rfl rfl rfl ?_
  refine r_getN 98 5 3 C inX7 (wd_5 ad u0) rfl (by decide) tn_110 rfl rfl dX4_tickIn_95 rfl ?_
  obtain ⟨r1, u1, h1, hf⟩ := bd_of hf
  refine r_cSNI 101 [.int (u0 5 3)] C hR (c_X11_holdOf ad (u0 5 3)  u0 r1 u1 h1) q_X11_holdOf tn_511 tw_448 (Nat.le_of_ble_eq_true rfl) (Nat.le_of_ble_eq_true rfl) rfl rfl (Nat.le_of_ble_eq_true rfl) dX4_tickIn_98 rfl ?_
  refine r_aload_n 102 0 C dX4_tickIn_101 rfl rfl rfl ?_
  refine r_get 105 k0 4 C inX4 (wd_P ad u1 k0a k0b) rfl (by decide) tw_77 rfl rfl dX4_tickIn_102 rfl ?_
  refine r_iload_n 106 3 C dX4_tickIn_105 rfl rfl rfl ?_
  refine r_isub 107 C dX4_tickIn_106 rfl ?_
  obtain ⟨r2, u2, h2, hf⟩ := bd_of hf
  refine r_cSNI 110 [.int ((u1 k0 4) - r0)] C hR (c_X11_asOff ad ((u1 k0 4) - r0)  u1 r2 u2 h2) q_X11_asOff tn_510 tw_483 (Nat.le_of_ble_eq_true rfl) (Nat.le_of_ble_eq_true rfl) rfl rfl (Nat.le_of_ble_eq_true rfl) dX4_tickIn_107 rfl ?_
  refine r_iload_n 111 2 C dX4_tickIn_110 rfl rfl rfl ?_
  refine r_iconst (v := 1) 112 C dX4_tickIn_111 (by decide) rfl ?_
  obtain ⟨u3, h3, hf⟩ := bv_of hf
  refine r_cVV 115 [.int r1, .int r2, .int v2, .int (1 : Int32)] C hR (c_X4_sway ad k0 r1 r2 v2 (1 : Int32) k0a k0b     u2 u3 h3) q_X4_sway tw_512 (wd_P ad u2 k0a k0b) rfl rfl tw_514 tp_11 (Nat.le_of_ble_eq_true rfl) (Nat.le_of_ble_eq_true rfl) rfl rfl (Nat.le_of_ble_eq_true rfl) dX4_tickIn_112 rfl ?_
  exact r_vret C E (so_of hf) dX4_tickIn_115
def f_X4_tickIn_5 (k0 : Nat) (v2 : Int32) (u : S2) : Option (S2) := (if (u k0 0) = (1 : Int32) then bd (f_X11_asOff ((u k0 4) - (((25 : Int32) * (u 5 3)) / (90 : Int32))) u) (fun r1 u2 => nm (wr u2 k0 4 r1) (fun u3 => some u3)) else (if (u k0 0) = (2 : Int32) then bd (f_X11_holdOf (u 5 3) u) (fun r0 u0 => bv (f_X4_sway k0 r0 (u0 k0 4) v2 (0 : Int32) u0) (fun u1 => some u1)) else (if (u k0 0) = (3 : Int32) then f_X4_tickIn_5_77   k0 v2 u else (if (u k0 0) = (4 : Int32) then f_X4_tickIn_5_77   k0 v2 u else some u))))
set_option maxRecDepth 20000 in
theorem c_X4_tickIn_5 (ad : Nat → Nat) (k0 : Nat) (v2 : Int32) (k0a : 10 ≤ k0) (k0b : k0 < 18)  (u : S2) (w : S2) (hf : f_X4_tickIn_5 k0 v2 u = some w) : HV yX4_tickIn cX4_tickIn 4 none 3 66 ad [.ref (ad k0), .ref (ad 5), .int v2] u w := by
  refine HV_of (by decide) (Nat.le_of_ble_eq_true rfl) (fun K C hR E => ?_)
  refine r_sub [(0, .ref (ad k0)), (1, .ref (ad 5)), (2, .int v2)] [0, 1, 2] rfl ?_
  unfold f_X4_tickIn_5 at hf
  refine r_aload_n 1 0 C dX4_tickIn_0 rfl rfl rfl ?_
  refine r_get 4 k0 0 C inX4 (wd_P ad u k0a k0b) rfl (by decide) tw_67 rfl rfl dX4_tickIn_1 rfl ?_
  refine r_iconst (v := 1) 5 C dX4_tickIn_4 (by decide) rfl ?_
  refine r_icmp_ne 8 33 C dX4_tickIn_5 (by decide) rfl (fun c0 => ?_) (fun c0 => ?_)
  · have hf := ifF c0 hf
    refine r_aload_n 34 0 C dX4_tickIn_33 rfl rfl rfl ?_
    refine r_get 37 k0 0 C inX4 (wd_P ad u k0a k0b) rfl (by decide) tw_67 rfl rfl dX4_tickIn_34 rfl ?_
    refine r_iconst (v := 2) 38 C dX4_tickIn_37 (by decide) rfl ?_
    refine r_icmp_ne 41 61 C dX4_tickIn_38 (by decide) rfl (fun c1 => ?_) (fun c1 => ?_)
    · have hf := ifF c1 hf
      refine r_aload_n 62 0 C dX4_tickIn_61 rfl rfl rfl ?_
      refine r_get 65 k0 0 C inX4 (wd_P ad u k0a k0b) rfl (by decide) tw_67 rfl rfl dX4_tickIn_62 rfl ?_
      refine r_iconst (v := 3) 66 C dX4_tickIn_65 (by decide) rfl ?_
      refine r_icmp_eq 69 77 C dX4_tickIn_66 (by decide) rfl (fun c2 => ?_) (fun c2 => ?_)
      · have hf := ifT c2 hf
        refine r_sub [(0, .ref (ad k0)), (1, .ref (ad 5)), (2, .int v2)] [0, 1, 2] rfl ?_
        exact w_X4_tickIn_5_77 C hR E   k0 v2 k0a k0b  u hf
      · have hf := ifF c2 hf
        refine r_aload_n 70 0 C dX4_tickIn_69 rfl rfl rfl ?_
        refine r_get 73 k0 0 C inX4 (wd_P ad u k0a k0b) rfl (by decide) tw_67 rfl rfl dX4_tickIn_70 rfl ?_
        refine r_iconst (v := 4) 74 C dX4_tickIn_73 (by decide) rfl ?_
        refine r_icmp_ne 77 115 C dX4_tickIn_74 (by decide) rfl (fun c3 => ?_) (fun c3 => ?_)
        · have hf := ifF c3 hf
          exact r_vret C E (so_of hf) dX4_tickIn_115
        · have hf := ifT c3 hf
          refine r_sub [(0, .ref (ad k0)), (1, .ref (ad 5)), (2, .int v2)] [0, 1, 2] rfl ?_
          exact w_X4_tickIn_5_77 C hR E   k0 v2 k0a k0b  u hf
    · have hf := ifT c1 hf
      refine r_aload_n 42 0 C dX4_tickIn_41 rfl rfl rfl ?_
      refine r_aload_n 43 1 C dX4_tickIn_42 rfl rfl rfl ?_
      refine r_getN 46 5 3 C inX7 (wd_5 ad u) rfl (by decide) tn_110 rfl rfl dX4_tickIn_43 rfl ?_
      obtain ⟨r0, u0, h0, hf⟩ := bd_of hf
      refine r_cSNI 49 [.int (u 5 3)] C hR (c_X11_holdOf ad (u 5 3)  u r0 u0 h0) q_X11_holdOf tn_511 tw_448 (Nat.le_of_ble_eq_true rfl) (Nat.le_of_ble_eq_true rfl) rfl rfl (Nat.le_of_ble_eq_true rfl) dX4_tickIn_46 rfl ?_
      refine r_aload_n 50 0 C dX4_tickIn_49 rfl rfl rfl ?_
      refine r_get 53 k0 4 C inX4 (wd_P ad u0 k0a k0b) rfl (by decide) tw_77 rfl rfl dX4_tickIn_50 rfl ?_
      refine r_iload_n 54 2 C dX4_tickIn_53 rfl rfl rfl ?_
      refine r_iconst (v := 0) 55 C dX4_tickIn_54 (by decide) rfl ?_
      obtain ⟨u1, h1, hf⟩ := bv_of hf
      refine r_cVV 58 [.int r0, .int (u0 k0 4), .int v2, .int (0 : Int32)] C hR (c_X4_sway ad k0 r0 (u0 k0 4) v2 (0 : Int32) k0a k0b     u0 u1 h1) q_X4_sway tw_512 (wd_P ad u0 k0a k0b) rfl rfl tw_514 tp_11 (Nat.le_of_ble_eq_true rfl) (Nat.le_of_ble_eq_true rfl) rfl rfl (Nat.le_of_ble_eq_true rfl) dX4_tickIn_55 rfl ?_
      refine r_goto 115 C dX4_tickIn_58 (by decide) ?_
      exact r_vret C E (so_of hf) dX4_tickIn_115
  · have hf := ifT c0 hf
    refine r_aload_n 9 0 C dX4_tickIn_8 rfl rfl rfl ?_
    refine r_aload_n 10 0 C dX4_tickIn_9 rfl rfl rfl ?_
    refine r_get 13 k0 4 C inX4 (wd_P ad u k0a k0b) rfl (by decide) tw_77 rfl rfl dX4_tickIn_10 rfl ?_
    refine r_bipush (v := 25) 15 C dX4_tickIn_13 (by decide) rfl ?_
    refine r_aload_n 16 1 C dX4_tickIn_15 rfl rfl rfl ?_
    refine r_getN 19 5 3 C inX7 (wd_5 ad u) rfl (by decide) tn_110 rfl rfl dX4_tickIn_16 rfl ?_
    refine r_imul 20 C dX4_tickIn_19 rfl ?_
    refine r_bipush (v := 90) 22 C dX4_tickIn_20 (by decide) rfl ?_
    refine r_idiv 23 C dX4_tickIn_22 (by decide) rfl ?_
    refine r_isub 24 C dX4_tickIn_23 rfl ?_
    obtain ⟨r1, u2, h2, hf⟩ := bd_of hf
    refine r_cSNI 27 [.int ((u k0 4) - (((25 : Int32) * (u 5 3)) / (90 : Int32)))] C hR (c_X11_asOff ad ((u k0 4) - (((25 : Int32) * (u 5 3)) / (90 : Int32)))  u r1 u2 h2) q_X11_asOff tn_510 tw_483 (Nat.le_of_ble_eq_true rfl) (Nat.le_of_ble_eq_true rfl) rfl rfl (Nat.le_of_ble_eq_true rfl) dX4_tickIn_24 rfl ?_
    refine r_put 30 k0 4 C inX4 tyX4_ok nmX4 (wd_P ad u2 k0a k0b) (sP_4 ad u2 k0a k0b r1) rfl (by decide) tw_77 rfl rfl (tyX4_ok 4 (by decide)) rfl rfl (Nat.le_of_ble_eq_true rfl) dX4_tickIn_27 rfl ?_
    obtain ⟨u3, eu3, hf⟩ := nm_of hf
    refine r_st eu3 ?_
    refine r_goto 115 C dX4_tickIn_30 (by decide) ?_
    exact r_vret C E (so_of hf) dX4_tickIn_115
def f_X7_tick_5_59   (u : S2) : Option (S2) := nm ((u 5 8) + (1 : Int32)) (fun x0 => nm (wr u 5 8 x0) (fun u0 => some u0))
set_option maxRecDepth 20000 in
theorem w_X7_tick_5_59 {K : Ctx} {ad : Nat → Nat} (C : Cx K ad cX7_tick 3 yX7_tick.cls none) (hR : Rm K 4 89) {w : S2} (E : EV K ad w)    (u : S2) (hf : f_X7_tick_5_59   u = some w) : RW K ad 3 59 [(0, .ref (ad 5))] [] u := by
  unfold f_X7_tick_5_59 at hf
  refine r_aload_n 60 0 C dX7_tick_59 rfl rfl rfl ?_
  refine r_dup 61 C dX7_tick_60 rfl rfl ?_
  refine r_get 64 5 8 C inX7 (wd_5 ad u) rfl (by decide) tw_125 rfl rfl dX7_tick_61 rfl ?_
  refine r_iconst (v := 1) 65 C dX7_tick_64 (by decide) rfl ?_
  refine r_iadd 66 C dX7_tick_65 rfl ?_
  obtain ⟨x0, ex0, hf⟩ := nm_of hf
  refine r_nm ex0 ?_
  refine r_put 69 5 8 C inX7 tyX7_ok nmX7 (wd_5 ad u) (sF_5_8 ad u x0) rfl (by decide) tw_125 rfl rfl (tyX7_ok 8 (by decide)) rfl rfl (Nat.le_of_ble_eq_true rfl) dX7_tick_66 rfl ?_
  obtain ⟨u0, eu0, hf⟩ := nm_of hf
  refine r_st eu0 ?_
  exact r_vret C E (so_of hf) dX7_tick_69
def f_X7_tick_5_37  : Nat → Int32 → Int32 → S2 → Option (S2)
  | 0, _, _, _ => none
  | n + 1, v1, v2, u => (if (3 : Int32) ≤ v2 then f_X7_tick_5_59    u else ck (inb v2 3) (nm (10 + Int32.toNatClampNeg v2) (fun kp0 => bv (f_X4_tickIn_5 kp0 v1 u) (fun u0 => nm (v2 + (1 : Int32)) (fun x0 => f_X7_tick_5_37  n v1 x0 u0)))))
theorem f_X7_tick_5_37_e  (n : Nat) (v1 : Int32) (v2 : Int32) (u : S2) : f_X7_tick_5_37  (n + 1) v1 v2 u = (if (3 : Int32) ≤ v2 then f_X7_tick_5_59    u else ck (inb v2 3) (nm (10 + Int32.toNatClampNeg v2) (fun kp0 => bv (f_X4_tickIn_5 kp0 v1 u) (fun u0 => nm (v2 + (1 : Int32)) (fun x0 => f_X7_tick_5_37  n v1 x0 u0))))) := rfl
set_option maxRecDepth 20000 in
theorem w_X7_tick_5_37 {K : Ctx} {ad : Nat → Nat} (C : Cx K ad cX7_tick 3 yX7_tick.cls none) (hR : Rm K 4 89) {w : S2} (E : EV K ad w)  : ∀ (n : Nat) (v1 : Int32) (v2 : Int32)   (u : S2) (hf : f_X7_tick_5_37  n v1 v2 u = some w), RW K ad 3 37 [(0, .ref (ad 5)), (1, .int v1), (2, .int v2)] [] u := by
  intro n
  induction n with
  | zero => intro v1 v2   u hf; cases hf
  | succ n ih =>
    intro v1 v2   u hf
    rw [f_X7_tick_5_37_e] at hf
    refine r_iload_n 38 2 C dX7_tick_37 rfl rfl rfl ?_
    refine r_iconst (v := 3) 39 C dX7_tick_38 (by decide) rfl ?_
    refine r_icmp_ge 42 59 C dX7_tick_39 (by decide) rfl (fun c0 => ?_) (fun c0 => ?_)
    · have hf := ifT c0 hf
      refine r_sub [(0, .ref (ad 5))] [0] rfl ?_
      exact w_X7_tick_5_59 C hR E     u hf
    · have hf := ifF c0 hf
      refine r_aload_n 43 0 C dX7_tick_42 rfl rfl rfl ?_
      refine r_get 46 5 2 C inX7 (wd_5 ad u) rfl (by decide) tw_107 rfl rfl dX7_tick_43 rfl ?_
      refine r_iload_n 47 2 C dX7_tick_46 rfl rfl rfl ?_
      obtain ⟨hc0, hf⟩ := ck_of hf
      refine r_aaload_6 48 C hc0 dX7_tick_47 rfl ?_
      obtain ⟨kp0, ekp0, hf⟩ := nm_of hf
      obtain ⟨kp0a, kp0b⟩ := pt_10 ekp0 hc0
      refine r_nmR ekp0 ?_
      refine r_aload_n 49 0 C dX7_tick_48 rfl rfl rfl ?_
      refine r_iload_n 50 1 C dX7_tick_49 rfl rfl rfl ?_
      obtain ⟨u0, h0, hf⟩ := bv_of hf
      refine r_cVNV 53 [.ref (ad 5), .int v1] C hR (c_X4_tickIn_5 ad kp0 v1 kp0a kp0b   u u0 h0) q_X4_tickIn tn_506 (wd_P ad u kp0a kp0b) rfl rfl tw_508 tp_10 (Nat.le_of_ble_eq_true rfl) (Nat.le_of_ble_eq_true rfl) rfl rfl (Nat.le_of_ble_eq_true rfl) dX7_tick_50 rfl ?_
      obtain ⟨x0, ex0, hf⟩ := nm_of hf
      refine r_iinc (v := x0) 56 2 [(0, .ref (ad 5)), (1, .int v1), (2, .int x0)] [1, 2, 0] C dX7_tick_53 rfl (by rw [ex0]; rfl) (by decide) rfl rfl ?_
      refine r_goto 37 C dX7_tick_56 (by decide) ?_
      refine r_sub [(0, .ref (ad 5)), (1, .int v1), (2, .int x0)] [0, 1, 2] rfl ?_
      exact ih v1 x0   u0 hf
def f_X7_tick_5  (u : S2) : Option (S2) := bd (f_X6_yawOf (u 5 8) u) (fun r0 u0 => nm (((u 5 6) * (u 5 7)) + r0) (fun x0 => bd (f_X11_asHeading ((u0 5 4) + x0) u0) (fun r1 u1 => nm (wr u1 5 4 r1) (fun u2 => f_X7_tick_5_37  FUEL x0 (0 : Int32) u2))))
set_option maxRecDepth 20000 in
theorem c_X7_tick_5 (ad : Nat → Nat)   (u : S2) (w : S2) (hf : f_X7_tick_5  u = some w) : HV yX7_tick cX7_tick 3 none 4 89 ad [.ref (ad 5)] u w := by
  refine HV_of (by decide) (Nat.le_of_ble_eq_true rfl) (fun K C hR E => ?_)
  refine r_sub [(0, .ref (ad 5))] [0] rfl ?_
  unfold f_X7_tick_5 at hf
  refine r_aload_n 1 0 C dX7_tick_0 rfl rfl rfl ?_
  refine r_get 4 5 6 C inX7 (wd_5 ad u) rfl (by decide) tw_119 rfl rfl dX7_tick_1 rfl ?_
  refine r_aload_n 5 0 C dX7_tick_4 rfl rfl rfl ?_
  refine r_get 8 5 7 C inX7 (wd_5 ad u) rfl (by decide) tw_123 rfl rfl dX7_tick_5 rfl ?_
  refine r_imul 9 C dX7_tick_8 rfl ?_
  refine r_aload_n 10 0 C dX7_tick_9 rfl rfl rfl ?_
  refine r_get 13 5 0 C inX7 (wd_5 ad u) rfl (by decide) tw_104 rfl rfl dX7_tick_10 rfl ?_
  refine r_aload_n 14 0 C dX7_tick_13 rfl rfl rfl ?_
  refine r_get 17 5 8 C inX7 (wd_5 ad u) rfl (by decide) tw_125 rfl rfl dX7_tick_14 rfl ?_
  obtain ⟨r0, u0, h0, hf⟩ := bd_of hf
  refine r_cVNI 20 [.int (u 5 8)] C hR (c_X6_yawOf ad (u 5 8)   u r0 u0 h0) q_X6_yawOf tn_500 (wd_1 ad u) rfl rfl tw_502 tp_9 (Nat.le_of_ble_eq_true rfl) (Nat.le_of_ble_eq_true rfl) rfl rfl (Nat.le_of_ble_eq_true rfl) dX7_tick_17 rfl ?_
  refine r_iadd 21 C dX7_tick_20 rfl ?_
  obtain ⟨x0, ex0, hf⟩ := nm_of hf
  refine r_nm ex0 ?_
  refine r_istore_n 22 [(0, .ref (ad 5)), (1, .int x0)] [1, 0] C dX7_tick_21 rfl (by decide) rfl rfl ?_
  refine r_aload_n 23 0 C dX7_tick_22 rfl rfl rfl ?_
  refine r_aload_n 24 0 C dX7_tick_23 rfl rfl rfl ?_
  refine r_get 27 5 4 C inX7 (wd_5 ad u0) rfl (by decide) tw_111 rfl rfl dX7_tick_24 rfl ?_
  refine r_iload_n 28 1 C dX7_tick_27 rfl rfl rfl ?_
  refine r_iadd 29 C dX7_tick_28 rfl ?_
  obtain ⟨r1, u1, h1, hf⟩ := bd_of hf
  refine r_cSNI 32 [.int ((u0 5 4) + x0)] C hR (c_X11_asHeading ad ((u0 5 4) + x0)  u0 r1 u1 h1) q_X11_asHeading tn_505 tw_440 (Nat.le_of_ble_eq_true rfl) (Nat.le_of_ble_eq_true rfl) rfl rfl (Nat.le_of_ble_eq_true rfl) dX7_tick_29 rfl ?_
  refine r_put 35 5 4 C inX7 tyX7_ok nmX7 (wd_5 ad u1) (sF_5_4 ad u1 r1) rfl (by decide) tw_111 rfl rfl (tyX7_ok 4 (by decide)) rfl rfl (Nat.le_of_ble_eq_true rfl) dX7_tick_32 rfl ?_
  obtain ⟨u2, eu2, hf⟩ := nm_of hf
  refine r_st eu2 ?_
  refine r_iconst (v := 0) 36 C dX7_tick_35 (by decide) rfl ?_
  refine r_istore_n 37 [(0, .ref (ad 5)), (1, .int x0), (2, .int (0 : Int32))] [1, 2, 0] C dX7_tick_36 rfl (by decide) rfl rfl ?_
  refine r_sub [(0, .ref (ad 5)), (1, .int x0), (2, .int (0 : Int32))] [0, 1, 2] rfl ?_
  exact w_X7_tick_5_37 C hR E  FUEL x0 (0 : Int32)   u2 hf
def f_X0_answerTo_9 (v1 : Int32) (v2 : Int32) (u : S2) : Option (Int32 × S2) := nm (u 18 1) (fun x0 => nm (u 18 2) (fun x1 => nm (u 18 3) (fun x2 => bd (f_X11_bounded (((v1 * x0) / (10000 : Int32)) - ((v2 * x1) / (10000 : Int32))) x2 u) (fun r0 u0 => some (r0, u0)))))
set_option maxRecDepth 20000 in
theorem c_X0_answerTo_9 (ad : Nat → Nat) (v1 : Int32) (v2 : Int32)   (u : S2) (r : Int32) (w : S2) (hf : f_X0_answerTo_9 v1 v2 u = some (r, w)) : HI yX0_answerTo cX0_answerTo 3 (some .int) 2 35 ad [.ref (ad 9), .int v1, .int v2] u r w := by
  refine HI_of (by decide) (Nat.le_of_ble_eq_true rfl) (fun K C hR E => ?_)
  refine r_sub [(0, .ref (ad 9)), (1, .int v1), (2, .int v2)] [0, 1, 2] rfl ?_
  unfold f_X0_answerTo_9 at hf
  refine r_iload_n 1 1 C dX0_answerTo_0 rfl rfl rfl ?_
  refine r_aload_n 2 0 C dX0_answerTo_1 rfl rfl rfl ?_
  refine r_get 5 9 0 C inX0 (wd_9 ad u) rfl (by decide) tw_158 rfl rfl dX0_answerTo_2 rfl ?_
  refine r_iconst (v := 1) 6 C dX0_answerTo_5 (by decide) rfl ?_
  refine r_iaload 7 18 6 C (wd_18 ad u) (by decide) dX0_answerTo_6 rfl ?_
  obtain ⟨x0, ex0, hf⟩ := nm_of hf
  refine r_nm ex0 ?_
  refine r_imul 8 C dX0_answerTo_7 rfl ?_
  refine r_sipush (v := 10000) 11 C dX0_answerTo_8 (by decide) rfl ?_
  refine r_idiv 12 C dX0_answerTo_11 (by decide) rfl ?_
  refine r_iload_n 13 2 C dX0_answerTo_12 rfl rfl rfl ?_
  refine r_aload_n 14 0 C dX0_answerTo_13 rfl rfl rfl ?_
  refine r_get 17 9 0 C inX0 (wd_9 ad u) rfl (by decide) tw_158 rfl rfl dX0_answerTo_14 rfl ?_
  refine r_iconst (v := 2) 18 C dX0_answerTo_17 (by decide) rfl ?_
  refine r_iaload 19 18 6 C (wd_18 ad u) (by decide) dX0_answerTo_18 rfl ?_
  obtain ⟨x1, ex1, hf⟩ := nm_of hf
  refine r_nm ex1 ?_
  refine r_imul 20 C dX0_answerTo_19 rfl ?_
  refine r_sipush (v := 10000) 23 C dX0_answerTo_20 (by decide) rfl ?_
  refine r_idiv 24 C dX0_answerTo_23 (by decide) rfl ?_
  refine r_isub 25 C dX0_answerTo_24 rfl ?_
  refine r_aload_n 26 0 C dX0_answerTo_25 rfl rfl rfl ?_
  refine r_get 29 9 0 C inX0 (wd_9 ad u) rfl (by decide) tw_158 rfl rfl dX0_answerTo_26 rfl ?_
  refine r_iconst (v := 3) 30 C dX0_answerTo_29 (by decide) rfl ?_
  refine r_iaload 31 18 6 C (wd_18 ad u) (by decide) dX0_answerTo_30 rfl ?_
  obtain ⟨x2, ex2, hf⟩ := nm_of hf
  refine r_nm ex2 ?_
  obtain ⟨r0, u0, h0, hf⟩ := bd_of hf
  refine r_cSNI 34 [.int (((v1 * x0) / (10000 : Int32)) - ((v2 * x1) / (10000 : Int32))), .int x2] C hR (c_X11_bounded ad (((v1 * x0) / (10000 : Int32)) - ((v2 * x1) / (10000 : Int32))) x2   u r0 u0 h0) q_X11_bounded tn_490 tw_491 (Nat.le_of_ble_eq_true rfl) (Nat.le_of_ble_eq_true rfl) rfl rfl (Nat.le_of_ble_eq_true rfl) dX0_answerTo_31 rfl ?_
  exact r_iret C E (pr1 hf) (pr2 hf) dX0_answerTo_34
def f_X0_steerShip_9_5_127  (t1 : Int32) (u : S2) : Option (S2) := nm (wr u 5 6 t1) (fun u0 => some u0)
set_option maxRecDepth 20000 in
theorem w_X0_steerShip_9_5_127 {K : Ctx} {ad : Nat → Nat} (C : Cx K ad cX0_steerShip 7 yX0_steerShip.cls none) (hR : Rm K 4 81) {w : S2} (E : EV K ad w)  (t1 : Int32)  (u : S2) (hf : f_X0_steerShip_9_5_127  t1 u = some w) : RW K ad 7 127 [] [.int t1, .ref (ad 5)] u := by
  unfold f_X0_steerShip_9_5_127 at hf
  refine r_putN 130 5 6 C inX7 tyX7_ok nmX7 (wd_5 ad u) (sF_5_6 ad u t1) rfl (by decide) tn_122 rfl rfl (tyX7_ok 6 (by decide)) rfl rfl (Nat.le_of_ble_eq_true rfl) dX0_steerShip_127 rfl ?_
  obtain ⟨u0, eu0, hf⟩ := nm_of hf
  refine r_st eu0 ?_
  exact r_vret C E (so_of hf) dX0_steerShip_130
def f_X0_steerShip_9_5_84  (v4 : Int32) (v5 : Int32) (t0 : Int32) (u : S2) : Option (S2) := nm (wr u 9 2 (1 : Int32)) (fun u0 => nm (wr u0 9 3 v4) (fun u1 => nm (jabs v5) (fun x0 => nm (u1 18 0) (fun x1 => (if ((10 : Int32) * x1) < x0 then bd (f_X0_answerTo_9 v5 t0 u1) (fun r0 u2 => f_X0_steerShip_9_5_127   r0 u2) else f_X0_steerShip_9_5_127   (0 : Int32) u1)))))
set_option maxRecDepth 20000 in
theorem w_X0_steerShip_9_5_84 {K : Ctx} {ad : Nat → Nat} (C : Cx K ad cX0_steerShip 7 yX0_steerShip.cls none) (hR : Rm K 4 81) {w : S2} (E : EV K ad w)  (v4 : Int32) (v5 : Int32) (t0 : Int32)    (u : S2) (hf : f_X0_steerShip_9_5_84  v4 v5 t0 u = some w) : RW K ad 7 84 [(0, .ref (ad 9)), (1, .ref (ad 5)), (4, .int v4), (5, .int v5)] [.int t0] u := by
  unfold f_X0_steerShip_9_5_84 at hf
  refine r_istore 86 [(0, .ref (ad 9)), (1, .ref (ad 5)), (4, .int v4), (5, .int v5), (6, .int t0)] [1, 2, 3, 4, 0] C dX0_steerShip_84 (by decide) rfl rfl ?_
  refine r_aload_n 87 0 C dX0_steerShip_86 rfl rfl rfl ?_
  refine r_iconst (v := 1) 88 C dX0_steerShip_87 (by decide) rfl ?_
  refine r_put 91 9 2 C inX0 tyX0_ok nmX0 (wd_9 ad u) (sF_9_2 ad u (1 : Int32)) rfl (by decide) tw_164 rfl rfl (tyX0_ok 2 (by decide)) rfl rfl (Nat.le_of_ble_eq_true rfl) dX0_steerShip_88 rfl ?_
  obtain ⟨u0, eu0, hf⟩ := nm_of hf
  refine r_st eu0 ?_
  refine r_aload_n 92 0 C dX0_steerShip_91 rfl rfl rfl ?_
  refine r_iload 94 2 C dX0_steerShip_92 rfl rfl ?_
  refine r_put 97 9 3 C inX0 tyX0_ok nmX0 (wd_9 ad u0) (sF_9_3 ad u0 v4) rfl (by decide) tw_165 rfl rfl (tyX0_ok 3 (by decide)) rfl rfl (Nat.le_of_ble_eq_true rfl) dX0_steerShip_94 rfl ?_
  obtain ⟨u1, eu1, hf⟩ := nm_of hf
  refine r_st eu1 ?_
  refine r_aload_n 98 1 C dX0_steerShip_97 rfl rfl rfl ?_
  refine r_iload 100 3 C dX0_steerShip_98 rfl rfl ?_
  refine r_mabs 103 C hR tw_485 tw_451 tw_15 tw_452 (Nat.le_of_ble_eq_true rfl) (Nat.le_of_ble_eq_true rfl) dX0_steerShip_100 rfl ?_
  obtain ⟨x0, ex0, hf⟩ := nm_of hf
  refine r_nm ex0 ?_
  refine r_bipush (v := 10) 105 C dX0_steerShip_103 (by decide) rfl ?_
  refine r_aload_n 106 0 C dX0_steerShip_105 rfl rfl rfl ?_
  refine r_get 109 9 0 C inX0 (wd_9 ad u1) rfl (by decide) tw_158 rfl rfl dX0_steerShip_106 rfl ?_
  refine r_iconst (v := 0) 110 C dX0_steerShip_109 (by decide) rfl ?_
  refine r_iaload 111 18 6 C (wd_18 ad u1) (by decide) dX0_steerShip_110 rfl ?_
  obtain ⟨x1, ex1, hf⟩ := nm_of hf
  refine r_nm ex1 ?_
  refine r_imul 112 C dX0_steerShip_111 rfl ?_
  refine r_icmp_gt 115 119 C dX0_steerShip_112 (by decide) rfl (fun c0 => ?_) (fun c0 => ?_)
  · have hf := ifT c0 hf
    refine r_aload_n 120 0 C dX0_steerShip_119 rfl rfl rfl ?_
    refine r_iload 122 3 C dX0_steerShip_120 rfl rfl ?_
    refine r_iload 124 4 C dX0_steerShip_122 rfl rfl ?_
    obtain ⟨r0, u2, h0, hf⟩ := bd_of hf
    refine r_cVI 127 [.int v5, .int t0] C hR (c_X0_answerTo_9 ad v5 t0    u1 r0 u2 h0) q_X0_answerTo tw_486 (wd_9 ad u1) rfl rfl tw_488 tp_7 (Nat.le_of_ble_eq_true rfl) (Nat.le_of_ble_eq_true rfl) rfl rfl (Nat.le_of_ble_eq_true rfl) dX0_steerShip_124 rfl ?_
    refine r_sub [] [] rfl ?_
    exact w_X0_steerShip_9_5_127 C hR E   r0  u2 hf
  · have hf := ifF c0 hf
    refine r_iconst (v := 0) 116 C dX0_steerShip_115 (by decide) rfl ?_
    refine r_goto 127 C dX0_steerShip_116 (by decide) ?_
    refine r_sub [] [] rfl ?_
    exact w_X0_steerShip_9_5_127 C hR E   (0 : Int32)  u1 hf
def f_X0_steerShip_9_5  (u : S2) : Option (S2) := nm (u 18 4) (fun x0 => nm (u 18 5) (fun x1 => bq (f_X7_pointerAt_5 x1 u) (fun p0 u0 => match p0 with | none => (if x0 < (1 : Int32) then some u0 else ck (nz x0) (nm ((u0 5 8) - (u0 5 8) / x0 * x0) (fun x2 => (if x2 = 0 then some u0 else some u0)))) | some kp0 => (if x0 < (1 : Int32) then some u0 else ck (nz x0) (nm ((u0 5 8) - (u0 5 8) / x0 * x0) (fun x3 => (if x3 = 0 then bd (f_X4_shownAt kp0 (u0 5 4) u0) (fun r0 u1 => bd (f_X11_asOff ((u1 9 1) - r0) u1) (fun r1 u2 => (if (u2 9 2) = 0 then f_X0_steerShip_9_5_84   r0 r1 (0 : Int32) u2 else bd (f_X11_asOff (r0 - (u2 9 3)) u2) (fun r2 u3 => f_X0_steerShip_9_5_84   r0 r1 r2 u3)))) else some u0)))))))
set_option maxRecDepth 20000 in
theorem c_X0_steerShip_9_5 (ad : Nat → Nat)   (u : S2) (w : S2) (hf : f_X0_steerShip_9_5  u = some w) : HV yX0_steerShip cX0_steerShip 7 none 4 81 ad [.ref (ad 9), .ref (ad 5)] u w := by
  refine HV_of (by decide) (Nat.le_of_ble_eq_true rfl) (fun K C hR E => ?_)
  refine r_sub [(0, .ref (ad 9)), (1, .ref (ad 5))] [0, 1] rfl ?_
  unfold f_X0_steerShip_9_5 at hf
  refine r_aload_n 1 0 C dX0_steerShip_0 rfl rfl rfl ?_
  refine r_get 4 9 0 C inX0 (wd_9 ad u) rfl (by decide) tw_158 rfl rfl dX0_steerShip_1 rfl ?_
  refine r_iconst (v := 4) 5 C dX0_steerShip_4 (by decide) rfl ?_
  refine r_iaload 6 18 6 C (wd_18 ad u) (by decide) dX0_steerShip_5 rfl ?_
  obtain ⟨x0, ex0, hf⟩ := nm_of hf
  refine r_nm ex0 ?_
  refine r_istore_n 7 [(0, .ref (ad 9)), (1, .ref (ad 5)), (2, .int x0)] [1, 2, 0] C dX0_steerShip_6 rfl (by decide) rfl rfl ?_
  refine r_aload_n 8 1 C dX0_steerShip_7 rfl rfl rfl ?_
  refine r_aload_n 9 0 C dX0_steerShip_8 rfl rfl rfl ?_
  refine r_get 12 9 0 C inX0 (wd_9 ad u) rfl (by decide) tw_158 rfl rfl dX0_steerShip_9 rfl ?_
  refine r_iconst (v := 5) 13 C dX0_steerShip_12 (by decide) rfl ?_
  refine r_iaload 14 18 6 C (wd_18 ad u) (by decide) dX0_steerShip_13 rfl ?_
  obtain ⟨x1, ex1, hf⟩ := nm_of hf
  refine r_nm ex1 ?_
  obtain ⟨p0, u0, h0, hf⟩ := bq_of hf
  refine r_cVNQ 17 [.int x1] C hR (c_X7_pointerAt_5 ad x1   u p0 u0 h0) q_X7_pointerAt tn_480 (wd_5 ad u) rfl rfl tw_391 tp_1 (Nat.le_of_ble_eq_true rfl) (Nat.le_of_ble_eq_true rfl) rfl rfl (Nat.le_of_ble_eq_true rfl) dX0_steerShip_14 rfl ?_
  cases p0 with
  | none =>
    refine r_astore_nN 18 [(0, .ref (ad 9)), (1, .ref (ad 5)), (2, .int x0), (3, .null)] [1, 2, 3, 0] C dX0_steerShip_17 rfl (by decide) rfl rfl ?_
    refine r_iload_n 19 2 C dX0_steerShip_18 rfl rfl rfl ?_
    refine r_iconst (v := 1) 20 C dX0_steerShip_19 (by decide) rfl ?_
    refine r_icmp_lt 23 36 C dX0_steerShip_20 (by decide) rfl (fun c0 => ?_) (fun c0 => ?_)
    · have hf := ifT c0 hf
      exact r_vret C E (so_of hf) dX0_steerShip_36
    · have hf := ifF c0 hf
      refine r_aload_n 24 1 C dX0_steerShip_23 rfl rfl rfl ?_
      refine r_getN 27 5 8 C inX7 (wd_5 ad u0) rfl (by decide) tn_126 rfl rfl dX0_steerShip_24 rfl ?_
      refine r_iload_n 28 2 C dX0_steerShip_27 rfl rfl rfl ?_
      obtain ⟨hc0, hf⟩ := ck_of hf
      refine r_irem 29 C dX0_steerShip_28 (nz_ne hc0) rfl ?_
      obtain ⟨x2, ex2, hf⟩ := nm_of hf
      refine r_nm ex2 ?_
      refine r_if_ne 32 36 C dX0_steerShip_29 (by decide) rfl (fun c1 => ?_) (fun c1 => ?_)
      · have hf := ifF c1 hf
        exact r_vret C E (so_of hf) dX0_steerShip_36
      · have hf := ifT c1 hf
        refine r_aload_nN 33 3 C dX0_steerShip_32 rfl rfl rfl ?_
        refine r_ifnonnullN 36 C dX0_steerShip_33 rfl ?_
        exact r_vret C E (so_of hf) dX0_steerShip_36
  | some kp0 =>
    obtain ⟨kp0a, kp0b⟩ := pa_X7_pointerAt_5 h0
    refine r_astore_n 18 [(0, .ref (ad 9)), (1, .ref (ad 5)), (2, .int x0), (3, .ref (ad kp0))] [1, 2, 3, 0] C dX0_steerShip_17 rfl (by decide) rfl rfl ?_
    refine r_iload_n 19 2 C dX0_steerShip_18 rfl rfl rfl ?_
    refine r_iconst (v := 1) 20 C dX0_steerShip_19 (by decide) rfl ?_
    refine r_icmp_lt 23 36 C dX0_steerShip_20 (by decide) rfl (fun c2 => ?_) (fun c2 => ?_)
    · have hf := ifT c2 hf
      exact r_vret C E (so_of hf) dX0_steerShip_36
    · have hf := ifF c2 hf
      refine r_aload_n 24 1 C dX0_steerShip_23 rfl rfl rfl ?_
      refine r_getN 27 5 8 C inX7 (wd_5 ad u0) rfl (by decide) tn_126 rfl rfl dX0_steerShip_24 rfl ?_
      refine r_iload_n 28 2 C dX0_steerShip_27 rfl rfl rfl ?_
      obtain ⟨hc1, hf⟩ := ck_of hf
      refine r_irem 29 C dX0_steerShip_28 (nz_ne hc1) rfl ?_
      obtain ⟨x3, ex3, hf⟩ := nm_of hf
      refine r_nm ex3 ?_
      refine r_if_ne 32 36 C dX0_steerShip_29 (by decide) rfl (fun c3 => ?_) (fun c3 => ?_)
      · have hf := ifF c3 hf
        exact r_vret C E (so_of hf) dX0_steerShip_36
      · have hf := ifT c3 hf
        refine r_aload_n 33 3 C dX0_steerShip_32 rfl rfl rfl ?_
        refine r_ifnonnull 37 C dX0_steerShip_33 (by decide) ?_
        refine r_aload_n 38 3 C dX0_steerShip_37 rfl rfl rfl ?_
        refine r_aload_n 39 1 C dX0_steerShip_38 rfl rfl rfl ?_
        refine r_getN 42 5 4 C inX7 (wd_5 ad u0) rfl (by decide) tn_114 rfl rfl dX0_steerShip_39 rfl ?_
        refine r_aload_n 43 1 C dX0_steerShip_42 rfl rfl rfl ?_
        refine r_getN 46 5 1 C inX7 (wd_5 ad u0) rfl (by decide) tn_106 rfl rfl dX0_steerShip_43 rfl ?_
        obtain ⟨r0, u1, h1, hf⟩ := bd_of hf
        refine r_cVNI 49 [.int (u0 5 4), .ref (ad 3)] C hR (c_X4_shownAt ad kp0 (u0 5 4) kp0a kp0b   u0 r0 u1 h1) q_X4_shownAt tn_481 (wd_P ad u0 kp0a kp0b) rfl rfl tw_430 tp_4 (Nat.le_of_ble_eq_true rfl) (Nat.le_of_ble_eq_true rfl) rfl rfl (Nat.le_of_ble_eq_true rfl) dX0_steerShip_46 rfl ?_
        refine r_istore 51 [(0, .ref (ad 9)), (1, .ref (ad 5)), (2, .int x0), (3, .ref (ad kp0)), (4, .int r0)] [1, 2, 3, 4, 0] C dX0_steerShip_49 (by decide) rfl rfl ?_
        refine r_aload_n 52 0 C dX0_steerShip_51 rfl rfl rfl ?_
        refine r_get 55 9 1 C inX0 (wd_9 ad u1) rfl (by decide) tw_161 rfl rfl dX0_steerShip_52 rfl ?_
        refine r_iload 57 4 C dX0_steerShip_55 rfl rfl ?_
        refine r_isub 58 C dX0_steerShip_57 rfl ?_
        obtain ⟨r1, u2, h2, hf⟩ := bd_of hf
        refine r_cSNI 61 [.int ((u1 9 1) - r0)] C hR (c_X11_asOff ad ((u1 9 1) - r0)  u1 r1 u2 h2) q_X11_asOff tn_482 tw_483 (Nat.le_of_ble_eq_true rfl) (Nat.le_of_ble_eq_true rfl) rfl rfl (Nat.le_of_ble_eq_true rfl) dX0_steerShip_58 rfl ?_
        refine r_istore 63 [(0, .ref (ad 9)), (1, .ref (ad 5)), (2, .int x0), (3, .ref (ad kp0)), (4, .int r0), (5, .int r1)] [1, 2, 3, 4, 5, 0] C dX0_steerShip_61 (by decide) rfl rfl ?_
        refine r_aload_n 64 0 C dX0_steerShip_63 rfl rfl rfl ?_
        refine r_get 67 9 2 C inX0 (wd_9 ad u2) rfl (by decide) tw_164 rfl rfl dX0_steerShip_64 rfl ?_
        refine r_if_eq 70 83 C dX0_steerShip_67 (by decide) rfl (fun c4 => ?_) (fun c4 => ?_)
        · have hf := ifT c4 hf
          refine r_iconst (v := 0) 84 C dX0_steerShip_83 (by decide) rfl ?_
          refine r_sub [(0, .ref (ad 9)), (1, .ref (ad 5)), (4, .int r0), (5, .int r1)] [0, 1, 4, 5] rfl ?_
          exact w_X0_steerShip_9_5_84 C hR E   r0 r1 (0 : Int32)    u2 hf
        · have hf := ifF c4 hf
          refine r_iload 72 4 C dX0_steerShip_70 rfl rfl ?_
          refine r_aload_n 73 0 C dX0_steerShip_72 rfl rfl rfl ?_
          refine r_get 76 9 3 C inX0 (wd_9 ad u2) rfl (by decide) tw_165 rfl rfl dX0_steerShip_73 rfl ?_
          refine r_isub 77 C dX0_steerShip_76 rfl ?_
          obtain ⟨r2, u3, h3, hf⟩ := bd_of hf
          refine r_cSNI 80 [.int (r0 - (u2 9 3))] C hR (c_X11_asOff ad (r0 - (u2 9 3))  u2 r2 u3 h3) q_X11_asOff tn_482 tw_483 (Nat.le_of_ble_eq_true rfl) (Nat.le_of_ble_eq_true rfl) rfl rfl (Nat.le_of_ble_eq_true rfl) dX0_steerShip_77 rfl ?_
          refine r_goto 84 C dX0_steerShip_80 (by decide) ?_
          refine r_sub [(0, .ref (ad 9)), (1, .ref (ad 5)), (4, .int r0), (5, .int r1)] [0, 1, 4, 5] rfl ?_
          exact w_X0_steerShip_9_5_84 C hR E   r0 r1 r2    u3 hf
def f_X11_run_64   (u : S2) : Option (Int32 × S2) := some (u 5 4, u)
set_option maxRecDepth 20000 in
theorem w_X11_run_64 {K : Ctx} {ad : Nat → Nat} (C : Cx K ad cX11_run 4 yX11_run.cls (some .int)) (hR : Rm K 5 111) {r : Int32} {w : S2} (E : EI K ad r w)    (u : S2) (hf : f_X11_run_64   u = some (r, w)) : RW K ad 4 64 [(0, .ref (ad 0))] [] u := by
  unfold f_X11_run_64 at hf
  refine r_aload_n 65 0 C dX11_run_64 rfl rfl rfl ?_
  refine r_get 68 0 2 C inX11 (wd_0 ad u) rfl (by decide) tw_320 rfl rfl dX11_run_65 rfl ?_
  refine r_getN 71 5 4 C inX7 (wd_5 ad u) rfl (by decide) tn_113 rfl rfl dX11_run_68 rfl ?_
  exact r_iret C E (pr1 hf) (pr2 hf) dX11_run_71
def f_X11_run_51 (z31 : Int32 → Int32 → Int32 → S2 → Option (Int32 × S2)) (v1 : Int32) (v2 : Int32) (v3 : Int32) (u : S2) : Option (Int32 × S2) := bv (f_X7_tick_5  u) (fun u0 => nm (v3 + (1 : Int32)) (fun x0 => z31 v1 v2 x0 u0))
set_option maxRecDepth 20000 in
theorem w_X11_run_51 {K : Ctx} {ad : Nat → Nat} (C : Cx K ad cX11_run 4 yX11_run.cls (some .int)) (hR : Rm K 5 111) {r : Int32} {w : S2} (E : EI K ad r w) (z31 : Int32 → Int32 → Int32 → S2 → Option (Int32 × S2)) (hz31 : ∀ (v1 : Int32) (v2 : Int32) (v3 : Int32)    (u : S2), z31 v1 v2 v3 u = some (r, w) → RW K ad 4 31 [(0, .ref (ad 0)), (1, .int v1), (2, .int v2), (3, .int v3)] [] u) (v1 : Int32) (v2 : Int32) (v3 : Int32)    (u : S2) (hf : f_X11_run_51 z31 v1 v2 v3 u = some (r, w)) : RW K ad 4 51 [(0, .ref (ad 0)), (1, .int v1), (2, .int v2), (3, .int v3)] [] u := by
  unfold f_X11_run_51 at hf
  refine r_aload_n 52 0 C dX11_run_51 rfl rfl rfl ?_
  refine r_get 55 0 2 C inX11 (wd_0 ad u) rfl (by decide) tw_320 rfl rfl dX11_run_52 rfl ?_
  obtain ⟨u0, h0, hf⟩ := bv_of hf
  refine r_cVNV 58 [] C hR (c_X7_tick_5 ad   u u0 h0) q_X7_tick tn_496 (wd_5 ad u) rfl rfl tw_498 tp_8 (Nat.le_of_ble_eq_true rfl) (Nat.le_of_ble_eq_true rfl) rfl rfl (Nat.le_of_ble_eq_true rfl) dX11_run_55 rfl ?_
  obtain ⟨x0, ex0, hf⟩ := nm_of hf
  refine r_iinc (v := x0) 61 3 [(0, .ref (ad 0)), (1, .int v1), (2, .int v2), (3, .int x0)] [1, 2, 3, 0] C dX11_run_58 rfl (by rw [ex0]; rfl) (by decide) rfl rfl ?_
  refine r_goto 31 C dX11_run_61 (by decide) ?_
  refine r_sub [(0, .ref (ad 0)), (1, .int v1), (2, .int v2), (3, .int x0)] [0, 1, 2, 3] rfl ?_
  exact hz31 v1 v2 x0    u0 hf
def f_X11_run_31  : Nat → Int32 → Int32 → Int32 → S2 → Option (Int32 × S2)
  | 0, _, _, _, _ => none
  | n + 1, v1, v2, v3, u => (if v1 ≤ v3 then f_X11_run_64    u else (if v2 = 0 then f_X11_run_51 (fun v1 v2 v3 u => f_X11_run_31  n v1 v2 v3 u)  v1 v2 v3 u else bv (f_X0_steerShip_9_5  u) (fun u0 => f_X11_run_51 (fun v1 v2 v3 u => f_X11_run_31  n v1 v2 v3 u)  v1 v2 v3 u0)))
theorem f_X11_run_31_e  (n : Nat) (v1 : Int32) (v2 : Int32) (v3 : Int32) (u : S2) : f_X11_run_31  (n + 1) v1 v2 v3 u = (if v1 ≤ v3 then f_X11_run_64    u else (if v2 = 0 then f_X11_run_51 (fun v1 v2 v3 u => f_X11_run_31  n v1 v2 v3 u)  v1 v2 v3 u else bv (f_X0_steerShip_9_5  u) (fun u0 => f_X11_run_51 (fun v1 v2 v3 u => f_X11_run_31  n v1 v2 v3 u)  v1 v2 v3 u0))) := rfl
set_option maxRecDepth 20000 in
theorem w_X11_run_31 {K : Ctx} {ad : Nat → Nat} (C : Cx K ad cX11_run 4 yX11_run.cls (some .int)) (hR : Rm K 5 111) {r : Int32} {w : S2} (E : EI K ad r w)  : ∀ (n : Nat) (v1 : Int32) (v2 : Int32) (v3 : Int32)    (u : S2) (hf : f_X11_run_31  n v1 v2 v3 u = some (r, w)), RW K ad 4 31 [(0, .ref (ad 0)), (1, .int v1), (2, .int v2), (3, .int v3)] [] u := by
  intro n
  induction n with
  | zero => intro v1 v2 v3    u hf; cases hf
  | succ n ih =>
    intro v1 v2 v3    u hf
    rw [f_X11_run_31_e] at hf
    refine r_iload_n 32 3 C dX11_run_31 rfl rfl rfl ?_
    refine r_iload_n 33 1 C dX11_run_32 rfl rfl rfl ?_
    refine r_icmp_ge 36 64 C dX11_run_33 (by decide) rfl (fun c0 => ?_) (fun c0 => ?_)
    · have hf := ifT c0 hf
      refine r_sub [(0, .ref (ad 0))] [0] rfl ?_
      exact w_X11_run_64 C hR E     u hf
    · have hf := ifF c0 hf
      refine r_iload_n 37 2 C dX11_run_36 rfl rfl rfl ?_
      refine r_if_eq 40 51 C dX11_run_37 (by decide) rfl (fun c1 => ?_) (fun c1 => ?_)
      · have hf := ifT c1 hf
        refine r_sub [(0, .ref (ad 0)), (1, .int v1), (2, .int v2), (3, .int v3)] [0, 1, 2, 3] rfl ?_
        exact w_X11_run_51 C hR E (fun v1 v2 v3 u => f_X11_run_31  n v1 v2 v3 u) (fun v1 v2 v3    u h => ih v1 v2 v3    u h)  v1 v2 v3    u hf
      · have hf := ifF c1 hf
        refine r_aload_n 41 0 C dX11_run_40 rfl rfl rfl ?_
        refine r_get 44 0 3 C inX11 (wd_0 ad u) rfl (by decide) tw_321 rfl rfl dX11_run_41 rfl ?_
        refine r_aload_n 45 0 C dX11_run_44 rfl rfl rfl ?_
        refine r_get 48 0 2 C inX11 (wd_0 ad u) rfl (by decide) tw_320 rfl rfl dX11_run_45 rfl ?_
        obtain ⟨u0, h0, hf⟩ := bv_of hf
        refine r_cVNV 51 [.ref (ad 5)] C hR (c_X0_steerShip_9_5 ad    u u0 h0) q_X0_steerShip tn_476 (wd_9 ad u) rfl rfl tw_478 tp_6 (Nat.le_of_ble_eq_true rfl) (Nat.le_of_ble_eq_true rfl) rfl rfl (Nat.le_of_ble_eq_true rfl) dX11_run_48 rfl ?_
        refine r_sub [(0, .ref (ad 0)), (1, .int v1), (2, .int v2), (3, .int v3)] [0, 1, 2, 3] rfl ?_
        exact w_X11_run_51 C hR E (fun v1 v2 v3 u => f_X11_run_31  n v1 v2 v3 u) (fun v1 v2 v3    u h => ih v1 v2 v3    u h)  v1 v2 v3    u0 hf
def f_X11_run (v1 : Int32) (v2 : Int32) (u : S2) : Option (Int32 × S2) := bd (f_X11_isWithin v1 (1 : Int32) (500 : Int32) u) (fun r0 u0 => (if r0 = 0 then some ((-3 : Int32), u0) else (if ((u0 5 8) + v1) ≤ (5000 : Int32) then f_X11_run_31  FUEL v1 v2 (0 : Int32) u0 else some ((-3 : Int32), u0))))
set_option maxRecDepth 20000 in
theorem c_X11_run (ad : Nat → Nat) (v1 : Int32) (v2 : Int32)   (u : S2) (r : Int32) (w : S2) (hf : f_X11_run v1 v2 u = some (r, w)) : HI yX11_run cX11_run 4 (some .int) 5 111 ad [.ref (ad 0), .int v1, .int v2] u r w := by
  refine HI_of (by decide) (Nat.le_of_ble_eq_true rfl) (fun K C hR E => ?_)
  refine r_sub [(0, .ref (ad 0)), (1, .int v1), (2, .int v2)] [0, 1, 2] rfl ?_
  unfold f_X11_run at hf
  refine r_iload_n 1 1 C dX11_run_0 rfl rfl rfl ?_
  refine r_iconst (v := 1) 2 C dX11_run_1 (by decide) rfl ?_
  refine r_sipush (v := 500) 5 C dX11_run_2 (by decide) rfl ?_
  obtain ⟨r0, u0, h0, hf⟩ := bd_of hf
  refine r_cSI 8 [.int v1, .int (1 : Int32), .int (500 : Int32)] C hR (c_X11_isWithin ad v1 (1 : Int32) (500 : Int32)    u r0 u0 h0) q_X11_isWithin tw_356 tw_357 (Nat.le_of_ble_eq_true rfl) (Nat.le_of_ble_eq_true rfl) rfl rfl (Nat.le_of_ble_eq_true rfl) dX11_run_5 rfl ?_
  refine r_if_eq 11 26 C dX11_run_8 (by decide) rfl (fun c0 => ?_) (fun c0 => ?_)
  · have hf := ifT c0 hf
    refine r_bipush (v := -3) 28 C dX11_run_26 (by decide) rfl ?_
    exact r_iret C E (pr1 hf) (pr2 hf) dX11_run_28
  · have hf := ifF c0 hf
    refine r_aload_n 12 0 C dX11_run_11 rfl rfl rfl ?_
    refine r_get 15 0 2 C inX11 (wd_0 ad u0) rfl (by decide) tw_320 rfl rfl dX11_run_12 rfl ?_
    refine r_getN 18 5 8 C inX7 (wd_5 ad u0) rfl (by decide) tn_127 rfl rfl dX11_run_15 rfl ?_
    refine r_iload_n 19 1 C dX11_run_18 rfl rfl rfl ?_
    refine r_iadd 20 C dX11_run_19 rfl ?_
    refine r_sipush (v := 5000) 23 C dX11_run_20 (by decide) rfl ?_
    refine r_icmp_le 26 29 C dX11_run_23 (by decide) rfl (fun c1 => ?_) (fun c1 => ?_)
    · have hf := ifT c1 hf
      refine r_iconst (v := 0) 30 C dX11_run_29 (by decide) rfl ?_
      refine r_istore_n 31 [(0, .ref (ad 0)), (1, .int v1), (2, .int v2), (3, .int (0 : Int32))] [1, 2, 3, 0] C dX11_run_30 rfl (by decide) rfl rfl ?_
      refine r_sub [(0, .ref (ad 0)), (1, .int v1), (2, .int v2), (3, .int (0 : Int32))] [0, 1, 2, 3] rfl ?_
      exact w_X11_run_31 C hR E  FUEL v1 v2 (0 : Int32)    u0 hf
    · have hf := ifF c1 hf
      refine r_bipush (v := -3) 28 C dX11_run_26 (by decide) rfl ?_
      exact r_iret C E (pr1 hf) (pr2 hf) dX11_run_28
def f_X5_append_54  (v3 : Int32) (u : S2) : Option (Int32 × S2) := nm ((u 21 1) + v3) (fun x0 => nm (wr u 21 1 x0) (fun u0 => some (u0 21 1, u0)))
set_option maxRecDepth 20000 in
theorem w_X5_append_54 {K : Ctx} {ad : Nat → Nat} (C : Cx K ad cX5_append 5 yX5_append.cls (some .int)) (hR : Rm K 0 0) {r : Int32} {w : S2} (E : EI K ad r w)  (v3 : Int32)  (u : S2) (hf : f_X5_append_54  v3 u = some (r, w)) : RW K ad 5 54 [(0, .ref (ad 21)), (3, .int v3)] [] u := by
  unfold f_X5_append_54 at hf
  refine r_aload_n 55 0 C dX5_append_54 rfl rfl rfl ?_
  refine r_dup 56 C dX5_append_55 rfl rfl ?_
  refine r_get 59 21 1 C inX5 (wd_21 ad u) rfl (by decide) tw_182 rfl rfl dX5_append_56 rfl ?_
  refine r_iload_n 60 1 C dX5_append_59 rfl rfl rfl ?_
  refine r_iadd 61 C dX5_append_60 rfl ?_
  obtain ⟨x0, ex0, hf⟩ := nm_of hf
  refine r_nm ex0 ?_
  refine r_put 64 21 1 C inX5 tyX5_ok nmX5 (wd_21 ad u) (sF_21_1 ad u x0) rfl (by decide) tw_182 rfl rfl (tyX5_ok 1 (by decide)) rfl rfl (Nat.le_of_ble_eq_true rfl) dX5_append_61 rfl ?_
  obtain ⟨u0, eu0, hf⟩ := nm_of hf
  refine r_st eu0 ?_
  refine r_aload_n 65 0 C dX5_append_64 rfl rfl rfl ?_
  refine r_get 68 21 1 C inX5 (wd_21 ad u0) rfl (by decide) tw_182 rfl rfl dX5_append_65 rfl ?_
  exact r_iret C E (pr1 hf) (pr2 hf) dX5_append_68
def f_X5_append_18  : Nat → Int64 → Int32 → Int32 → S2 → Option (Int32 × S2)
  | 0, _, _, _, _ => none
  | n + 1, v1, v3, v4, u => (if v3 ≤ v4 then f_X5_append_54   v3 u else nm (Int64.toInt32 (((v1 >>> (Int32.toInt64 ((8 : Int32) * v4) &&& 63)) &&& (255 : Int64)))) (fun x0 => ck (inb ((u 21 1) + v4) 160) (nm (wr u 22 (Int32.toNatClampNeg ((u 21 1) + v4)) x0) (fun u0 => nm (v4 + (1 : Int32)) (fun x1 => f_X5_append_18  n v1 v3 x1 u0)))))
theorem f_X5_append_18_e  (n : Nat) (v1 : Int64) (v3 : Int32) (v4 : Int32) (u : S2) : f_X5_append_18  (n + 1) v1 v3 v4 u = (if v3 ≤ v4 then f_X5_append_54   v3 u else nm (Int64.toInt32 (((v1 >>> (Int32.toInt64 ((8 : Int32) * v4) &&& 63)) &&& (255 : Int64)))) (fun x0 => ck (inb ((u 21 1) + v4) 160) (nm (wr u 22 (Int32.toNatClampNeg ((u 21 1) + v4)) x0) (fun u0 => nm (v4 + (1 : Int32)) (fun x1 => f_X5_append_18  n v1 v3 x1 u0))))) := rfl
set_option maxRecDepth 20000 in
theorem w_X5_append_18 {K : Ctx} {ad : Nat → Nat} (C : Cx K ad cX5_append 5 yX5_append.cls (some .int)) (hR : Rm K 0 0) {r : Int32} {w : S2} (E : EI K ad r w)  : ∀ (n : Nat) (v1 : Int64) (v3 : Int32) (v4 : Int32)    (u : S2) (hf : f_X5_append_18  n v1 v3 v4 u = some (r, w)), RW K ad 5 18 [(0, .ref (ad 21)), (1, .long v1), (3, .int v3), (4, .int v4)] [] u := by
  intro n
  induction n with
  | zero => intro v1 v3 v4    u hf; cases hf
  | succ n ih =>
    intro v1 v3 v4    u hf
    rw [f_X5_append_18_e] at hf
    refine r_iload 20 3 C dX5_append_18 rfl rfl ?_
    refine r_iload_n 21 2 C dX5_append_20 rfl rfl rfl ?_
    refine r_icmp_ge 24 54 C dX5_append_21 (by decide) rfl (fun c0 => ?_) (fun c0 => ?_)
    · have hf := ifT c0 hf
      refine r_sub [(0, .ref (ad 21)), (3, .int v3)] [0, 2] rfl ?_
      exact w_X5_append_54 C hR E   v3  u hf
    · have hf := ifF c0 hf
      refine r_aload_n 25 0 C dX5_append_24 rfl rfl rfl ?_
      refine r_get 28 21 0 C inX5 (wd_21 ad u) rfl (by decide) tw_181 rfl rfl dX5_append_25 rfl ?_
      refine r_aload_n 29 0 C dX5_append_28 rfl rfl rfl ?_
      refine r_get 32 21 1 C inX5 (wd_21 ad u) rfl (by decide) tw_182 rfl rfl dX5_append_29 rfl ?_
      refine r_iload 34 3 C dX5_append_32 rfl rfl ?_
      refine r_iadd 35 C dX5_append_34 rfl ?_
      refine r_lload_n 36 1 C dX5_append_35 rfl rfl rfl ?_
      refine r_bipush (v := 8) 38 C dX5_append_36 (by decide) rfl ?_
      refine r_iload 40 3 C dX5_append_38 rfl rfl ?_
      refine r_imul 41 C dX5_append_40 rfl ?_
      refine r_lshr 42 C dX5_append_41 rfl ?_
      refine r_ldc2 (v := 255) 45 C tw_525 dX5_append_42 rfl ?_
      refine r_land 46 C dX5_append_45 rfl ?_
      refine r_l2i 47 C dX5_append_46 rfl ?_
      obtain ⟨x0, ex0, hf⟩ := nm_of hf
      refine r_nm ex0 ?_
      obtain ⟨hc0, hf⟩ := ck_of hf
      refine r_iastore 48 22 160 C (wd_22 ad u) (sA_22 ad u) hc0 dX5_append_47 rfl ?_
      obtain ⟨u0, eu0, hf⟩ := nm_of hf
      refine r_st eu0 ?_
      obtain ⟨x1, ex1, hf⟩ := nm_of hf
      refine r_iinc (v := x1) 51 3 [(0, .ref (ad 21)), (1, .long v1), (3, .int v3), (4, .int x1)] [1, 2, 3, 0] C dX5_append_48 rfl (by rw [ex1]; rfl) (by decide) rfl rfl ?_
      refine r_goto 18 C dX5_append_51 (by decide) ?_
      refine r_sub [(0, .ref (ad 21)), (1, .long v1), (3, .int v3), (4, .int x1)] [0, 1, 2, 3] rfl ?_
      exact ih v1 v3 x1    u0 hf
def f_X5_append (v1 : Int64) (v3 : Int32) (u : S2) : Option (Int32 × S2) := (if ((u 21 1) + v3) ≤ (160 : Int32) then f_X5_append_18  FUEL v1 v3 (0 : Int32) u else some ((-5 : Int32), u))
set_option maxRecDepth 20000 in
theorem c_X5_append (ad : Nat → Nat) (v1 : Int64) (v3 : Int32)   (u : S2) (r : Int32) (w : S2) (hf : f_X5_append v1 v3 u = some (r, w)) : HI yX5_append cX5_append 5 (some .int) 0 0 ad [.ref (ad 21), .long v1, .int v3] u r w := by
  refine HI_of (by decide) (Nat.le_of_ble_eq_true rfl) (fun K C hR E => ?_)
  refine r_sub [(0, .ref (ad 21)), (1, .long v1), (3, .int v3)] [0, 1, 2] rfl ?_
  unfold f_X5_append at hf
  refine r_aload_n 1 0 C dX5_append_0 rfl rfl rfl ?_
  refine r_get 4 21 1 C inX5 (wd_21 ad u) rfl (by decide) tw_182 rfl rfl dX5_append_1 rfl ?_
  refine r_iload_n 5 2 C dX5_append_4 rfl rfl rfl ?_
  refine r_iadd 6 C dX5_append_5 rfl ?_
  refine r_sipush (v := 160) 9 C dX5_append_6 (by decide) rfl ?_
  refine r_icmp_le 12 15 C dX5_append_9 (by decide) rfl (fun c0 => ?_) (fun c0 => ?_)
  · have hf := ifT c0 hf
    refine r_iconst (v := 0) 16 C dX5_append_15 (by decide) rfl ?_
    refine r_istore 18 [(0, .ref (ad 21)), (1, .long v1), (3, .int v3), (4, .int (0 : Int32))] [1, 2, 3, 0] C dX5_append_16 (by decide) rfl rfl ?_
    refine r_sub [(0, .ref (ad 21)), (1, .long v1), (3, .int v3), (4, .int (0 : Int32))] [0, 1, 2, 3] rfl ?_
    exact w_X5_append_18 C hR E  FUEL v1 v3 (0 : Int32)    u hf
  · have hf := ifF c0 hf
    refine r_bipush (v := -5) 14 C dX5_append_12 (by decide) rfl ?_
    exact r_iret C E (pr1 hf) (pr2 hf) dX5_append_14
def f_X11_write (v1 : Int64) (v3 : Int32) (u : S2) : Option (Int32 × S2) := bd (f_X11_isWithin v3 (1 : Int32) (8 : Int32) u) (fun r0 u0 => (if r0 = 0 then some ((-3 : Int32), u0) else bd (f_X5_append v1 v3 u0) (fun r1 u1 => some (r1, u1))))
set_option maxRecDepth 20000 in
theorem c_X11_write (ad : Nat → Nat) (v1 : Int64) (v3 : Int32)   (u : S2) (r : Int32) (w : S2) (hf : f_X11_write v1 v3 u = some (r, w)) : HI yX11_write cX11_write 4 (some .int) 1 24 ad [.ref (ad 0), .long v1, .int v3] u r w := by
  refine HI_of (by decide) (Nat.le_of_ble_eq_true rfl) (fun K C hR E => ?_)
  refine r_sub [(0, .ref (ad 0)), (1, .long v1), (3, .int v3)] [0, 1, 2] rfl ?_
  unfold f_X11_write at hf
  refine r_iload_n 1 2 C dX11_write_0 rfl rfl rfl ?_
  refine r_iconst (v := 1) 2 C dX11_write_1 (by decide) rfl ?_
  refine r_bipush (v := 8) 4 C dX11_write_2 (by decide) rfl ?_
  obtain ⟨r0, u0, h0, hf⟩ := bd_of hf
  refine r_cSI 7 [.int v3, .int (1 : Int32), .int (8 : Int32)] C hR (c_X11_isWithin ad v3 (1 : Int32) (8 : Int32)    u r0 u0 h0) q_X11_isWithin tw_356 tw_357 (Nat.le_of_ble_eq_true rfl) (Nat.le_of_ble_eq_true rfl) rfl rfl (Nat.le_of_ble_eq_true rfl) dX11_write_4 rfl ?_
  refine r_if_ne 10 13 C dX11_write_7 (by decide) rfl (fun c0 => ?_) (fun c0 => ?_)
  · have hf := ifF c0 hf
    refine r_aload_n 14 0 C dX11_write_13 rfl rfl rfl ?_
    refine r_get 17 0 4 C inX11 (wd_0 ad u0) rfl (by decide) tw_322 rfl rfl dX11_write_14 rfl ?_
    refine r_lload_n 18 1 C dX11_write_17 rfl rfl rfl ?_
    refine r_iload_n 19 2 C dX11_write_18 rfl rfl rfl ?_
    obtain ⟨r1, u1, h1, hf⟩ := bd_of hf
    refine r_cVNI 22 [.long v1, .int v3] C hR (c_X5_append ad v1 v3    u0 r1 u1 h1) q_X5_append tn_521 (wd_21 ad u0) rfl rfl tw_523 tp_12 (Nat.le_of_ble_eq_true rfl) (Nat.le_of_ble_eq_true rfl) rfl rfl (Nat.le_of_ble_eq_true rfl) dX11_write_19 rfl ?_
    exact r_iret C E (pr1 hf) (pr2 hf) dX11_write_22
  · have hf := ifT c0 hf
    refine r_bipush (v := -3) 12 C dX11_write_10 (by decide) rfl ?_
    exact r_iret C E (pr1 hf) (pr2 hf) dX11_write_12
def f_X11_erase  (u : S2) : Option (Int32 × S2) := nm (u 21 1) (fun x0 => nm (wr u 21 1 (0 : Int32)) (fun u0 => some (x0, u0)))
set_option maxRecDepth 20000 in
theorem c_X11_erase (ad : Nat → Nat)   (u : S2) (r : Int32) (w : S2) (hf : f_X11_erase  u = some (r, w)) : HI yX11_erase cX11_erase 2 (some .int) 0 0 ad [.ref (ad 0)] u r w := by
  refine HI_of (by decide) (Nat.le_of_ble_eq_true rfl) (fun K C hR E => ?_)
  refine r_sub [(0, .ref (ad 0))] [0] rfl ?_
  unfold f_X11_erase at hf
  refine r_aload_n 1 0 C dX11_erase_0 rfl rfl rfl ?_
  refine r_get 4 0 4 C inX11 (wd_0 ad u) rfl (by decide) tw_322 rfl rfl dX11_erase_1 rfl ?_
  refine r_getN 7 21 1 C inX5 (wd_21 ad u) rfl (by decide) tn_183 rfl rfl dX11_erase_4 rfl ?_
  obtain ⟨x0, ex0, hf⟩ := nm_of hf
  refine r_nm ex0 ?_
  refine r_istore_n 8 [(0, .ref (ad 0)), (1, .int x0)] [1, 0] C dX11_erase_7 rfl (by decide) rfl rfl ?_
  refine r_aload_n 9 0 C dX11_erase_8 rfl rfl rfl ?_
  refine r_get 12 0 4 C inX11 (wd_0 ad u) rfl (by decide) tw_322 rfl rfl dX11_erase_9 rfl ?_
  refine r_iconst (v := 0) 13 C dX11_erase_12 (by decide) rfl ?_
  refine r_putN 16 21 1 C inX5 tyX5_ok nmX5 (wd_21 ad u) (sF_21_1 ad u (0 : Int32)) rfl (by decide) tn_183 rfl rfl (tyX5_ok 1 (by decide)) rfl rfl (Nat.le_of_ble_eq_true rfl) dX11_erase_13 rfl ?_
  obtain ⟨u0, eu0, hf⟩ := nm_of hf
  refine r_st eu0 ?_
  refine r_iload_n 17 1 C dX11_erase_16 rfl rfl rfl ?_
  exact r_iret C E (pr1 hf) (pr2 hf) dX11_erase_17
def f_X5_behindBlanks_2  : Nat → Int32 → S2 → Option (Int32 × S2)
  | 0, _, _ => none
  | n + 1, v2, u => (if (u 21 1) ≤ v2 then some (v2, u) else ck (inb v2 160) (nm (u 22 (Int32.toNatClampNeg v2)) (fun x0 => (if x0 = (32 : Int32) then nm (v2 + (1 : Int32)) (fun x1 => f_X5_behindBlanks_2  n x1 u) else some (v2, u)))))
theorem f_X5_behindBlanks_2_e  (n : Nat) (v2 : Int32) (u : S2) : f_X5_behindBlanks_2  (n + 1) v2 u = (if (u 21 1) ≤ v2 then some (v2, u) else ck (inb v2 160) (nm (u 22 (Int32.toNatClampNeg v2)) (fun x0 => (if x0 = (32 : Int32) then nm (v2 + (1 : Int32)) (fun x1 => f_X5_behindBlanks_2  n x1 u) else some (v2, u))))) := rfl
set_option maxRecDepth 20000 in
theorem w_X5_behindBlanks_2 {K : Ctx} {ad : Nat → Nat} (C : Cx K ad cX5_behindBlanks 3 yX5_behindBlanks.cls (some .int)) (hR : Rm K 0 0) {r : Int32} {w : S2} (E : EI K ad r w)  : ∀ (n : Nat) (v2 : Int32)  (u : S2) (hf : f_X5_behindBlanks_2  n v2 u = some (r, w)), RW K ad 3 2 [(0, .ref (ad 21)), (2, .int v2)] [] u := by
  intro n
  induction n with
  | zero => intro v2  u hf; cases hf
  | succ n ih =>
    intro v2  u hf
    rw [f_X5_behindBlanks_2_e] at hf
    refine r_iload_n 3 1 C dX5_behindBlanks_2 rfl rfl rfl ?_
    refine r_aload_n 4 0 C dX5_behindBlanks_3 rfl rfl rfl ?_
    refine r_get 7 21 1 C inX5 (wd_21 ad u) rfl (by decide) tw_182 rfl rfl dX5_behindBlanks_4 rfl ?_
    refine r_icmp_ge 10 27 C dX5_behindBlanks_7 (by decide) rfl (fun c0 => ?_) (fun c0 => ?_)
    · have hf := ifT c0 hf
      refine r_iload_n 28 1 C dX5_behindBlanks_27 rfl rfl rfl ?_
      exact r_iret C E (pr1 hf) (pr2 hf) dX5_behindBlanks_28
    · have hf := ifF c0 hf
      refine r_aload_n 11 0 C dX5_behindBlanks_10 rfl rfl rfl ?_
      refine r_get 14 21 0 C inX5 (wd_21 ad u) rfl (by decide) tw_181 rfl rfl dX5_behindBlanks_11 rfl ?_
      refine r_iload_n 15 1 C dX5_behindBlanks_14 rfl rfl rfl ?_
      obtain ⟨hc0, hf⟩ := ck_of hf
      refine r_iaload 16 22 160 C (wd_22 ad u) hc0 dX5_behindBlanks_15 rfl ?_
      obtain ⟨x0, ex0, hf⟩ := nm_of hf
      refine r_nm ex0 ?_
      refine r_bipush (v := 32) 18 C dX5_behindBlanks_16 (by decide) rfl ?_
      refine r_icmp_ne 21 27 C dX5_behindBlanks_18 (by decide) rfl (fun c1 => ?_) (fun c1 => ?_)
      · have hf := ifF c1 hf
        refine r_iload_n 28 1 C dX5_behindBlanks_27 rfl rfl rfl ?_
        exact r_iret C E (pr1 hf) (pr2 hf) dX5_behindBlanks_28
      · have hf := ifT c1 hf
        obtain ⟨x1, ex1, hf⟩ := nm_of hf
        refine r_iinc (v := x1) 24 1 [(0, .ref (ad 21)), (2, .int x1)] [1, 0] C dX5_behindBlanks_21 rfl (by rw [ex1]; rfl) (by decide) rfl rfl ?_
        refine r_goto 2 C dX5_behindBlanks_24 (by decide) ?_
        refine r_sub [(0, .ref (ad 21)), (2, .int x1)] [0, 1] rfl ?_
        exact ih x1  u hf
def f_X5_behindBlanks (v1 : Int32) (u : S2) : Option (Int32 × S2) := f_X5_behindBlanks_2  FUEL v1 u
set_option maxRecDepth 20000 in
theorem c_X5_behindBlanks (ad : Nat → Nat) (v1 : Int32)  (u : S2) (r : Int32) (w : S2) (hf : f_X5_behindBlanks v1 u = some (r, w)) : HI yX5_behindBlanks cX5_behindBlanks 3 (some .int) 0 0 ad [.ref (ad 21), .int v1] u r w := by
  refine HI_of (by decide) (Nat.le_of_ble_eq_true rfl) (fun K C hR E => ?_)
  refine r_sub [(0, .ref (ad 21)), (1, .int v1)] [0, 1] rfl ?_
  unfold f_X5_behindBlanks at hf
  refine r_iload_n 1 1 C dX5_behindBlanks_0 rfl rfl rfl ?_
  refine r_istore_n 2 [(0, .ref (ad 21)), (1, .int v1), (2, .int v1)] [1, 2, 0] C dX5_behindBlanks_1 rfl (by decide) rfl rfl ?_
  refine r_sub [(0, .ref (ad 21)), (2, .int v1)] [0, 2] rfl ?_
  exact w_X5_behindBlanks_2 C hR E  FUEL v1  u hf
def f_X5_isLetter (v0 : Int32) (u : S2) : Option (Int32 × S2) := (if v0 < (97 : Int32) then some ((0 : Int32), u) else (if (122 : Int32) < v0 then some ((0 : Int32), u) else some ((1 : Int32), u)))
set_option maxRecDepth 20000 in
theorem c_X5_isLetter (ad : Nat → Nat) (v0 : Int32)  (u : S2) (r : Int32) (w : S2) (hf : f_X5_isLetter v0 u = some (r, w)) : HI yX5_isLetter cX5_isLetter 1 (some .boolean) 0 0 ad [.int v0] u r w := by
  refine HI_of (by decide) (Nat.le_of_ble_eq_true rfl) (fun K C hR E => ?_)
  refine r_sub [(0, .int v0)] [0] rfl ?_
  unfold f_X5_isLetter at hf
  refine r_iload_n 1 0 C dX5_isLetter_0 rfl rfl rfl ?_
  refine r_bipush (v := 97) 3 C dX5_isLetter_1 (by decide) rfl ?_
  refine r_icmp_lt 6 16 C dX5_isLetter_3 (by decide) rfl (fun c0 => ?_) (fun c0 => ?_)
  · have hf := ifT c0 hf
    refine r_iconst (v := 0) 17 C dX5_isLetter_16 (by decide) rfl ?_
    exact r_zret C E rfl (pr1 hf) (pr2 hf) dX5_isLetter_17
  · have hf := ifF c0 hf
    refine r_iload_n 7 0 C dX5_isLetter_6 rfl rfl rfl ?_
    refine r_bipush (v := 122) 9 C dX5_isLetter_7 (by decide) rfl ?_
    refine r_icmp_gt 12 16 C dX5_isLetter_9 (by decide) rfl (fun c1 => ?_) (fun c1 => ?_)
    · have hf := ifT c1 hf
      refine r_iconst (v := 0) 17 C dX5_isLetter_16 (by decide) rfl ?_
      exact r_zret C E rfl (pr1 hf) (pr2 hf) dX5_isLetter_17
    · have hf := ifF c1 hf
      refine r_iconst (v := 1) 13 C dX5_isLetter_12 (by decide) rfl ?_
      refine r_goto 17 C dX5_isLetter_13 (by decide) ?_
      exact r_zret C E rfl (pr1 hf) (pr2 hf) dX5_isLetter_17
def f_X5_isDigit (v0 : Int32) (u : S2) : Option (Int32 × S2) := (if v0 < (48 : Int32) then some ((0 : Int32), u) else (if (57 : Int32) < v0 then some ((0 : Int32), u) else some ((1 : Int32), u)))
set_option maxRecDepth 20000 in
theorem c_X5_isDigit (ad : Nat → Nat) (v0 : Int32)  (u : S2) (r : Int32) (w : S2) (hf : f_X5_isDigit v0 u = some (r, w)) : HI yX5_isDigit cX5_isDigit 1 (some .boolean) 0 0 ad [.int v0] u r w := by
  refine HI_of (by decide) (Nat.le_of_ble_eq_true rfl) (fun K C hR E => ?_)
  refine r_sub [(0, .int v0)] [0] rfl ?_
  unfold f_X5_isDigit at hf
  refine r_iload_n 1 0 C dX5_isDigit_0 rfl rfl rfl ?_
  refine r_bipush (v := 48) 3 C dX5_isDigit_1 (by decide) rfl ?_
  refine r_icmp_lt 6 16 C dX5_isDigit_3 (by decide) rfl (fun c0 => ?_) (fun c0 => ?_)
  · have hf := ifT c0 hf
    refine r_iconst (v := 0) 17 C dX5_isDigit_16 (by decide) rfl ?_
    exact r_zret C E rfl (pr1 hf) (pr2 hf) dX5_isDigit_17
  · have hf := ifF c0 hf
    refine r_iload_n 7 0 C dX5_isDigit_6 rfl rfl rfl ?_
    refine r_bipush (v := 57) 9 C dX5_isDigit_7 (by decide) rfl ?_
    refine r_icmp_gt 12 16 C dX5_isDigit_9 (by decide) rfl (fun c1 => ?_) (fun c1 => ?_)
    · have hf := ifT c1 hf
      refine r_iconst (v := 0) 17 C dX5_isDigit_16 (by decide) rfl ?_
      exact r_zret C E rfl (pr1 hf) (pr2 hf) dX5_isDigit_17
    · have hf := ifF c1 hf
      refine r_iconst (v := 1) 13 C dX5_isDigit_12 (by decide) rfl ?_
      refine r_goto 17 C dX5_isDigit_13 (by decide) ?_
      exact r_zret C E rfl (pr1 hf) (pr2 hf) dX5_isDigit_17
def f_X5_tokenEnd_81 (z38 : Int32 → Int32 → Int32 → S2 → Option (Int32 × S2)) (v2 : Int32) (v3 : Int32) (v4 : Int32) (u : S2) : Option (Int32 × S2) := nm (v4 + (1 : Int32)) (fun x0 => z38 v2 v3 x0 u)
set_option maxRecDepth 20000 in
theorem w_X5_tokenEnd_81 {K : Ctx} {ad : Nat → Nat} (C : Cx K ad cX5_tokenEnd 5 yX5_tokenEnd.cls (some .int)) (hR : Rm K 1 20) {r : Int32} {w : S2} (E : EI K ad r w) (z38 : Int32 → Int32 → Int32 → S2 → Option (Int32 × S2)) (hz38 : ∀ (v2 : Int32) (v3 : Int32) (v4 : Int32)    (u : S2), z38 v2 v3 v4 u = some (r, w) → RW K ad 5 38 [(0, .ref (ad 21)), (2, .int v2), (3, .int v3), (4, .int v4)] [] u) (v2 : Int32) (v3 : Int32) (v4 : Int32)    (u : S2) (hf : f_X5_tokenEnd_81 z38 v2 v3 v4 u = some (r, w)) : RW K ad 5 81 [(0, .ref (ad 21)), (2, .int v2), (3, .int v3), (4, .int v4)] [] u := by
  unfold f_X5_tokenEnd_81 at hf
  obtain ⟨x0, ex0, hf⟩ := nm_of hf
  refine r_iinc (v := x0) 84 3 [(0, .ref (ad 21)), (2, .int v2), (3, .int v3), (4, .int x0)] [1, 2, 3, 0] C dX5_tokenEnd_81 rfl (by rw [ex0]; rfl) (by decide) rfl rfl ?_
  refine r_goto 38 C dX5_tokenEnd_84 (by decide) ?_
  refine r_sub [(0, .ref (ad 21)), (2, .int v2), (3, .int v3), (4, .int x0)] [0, 1, 2, 3] rfl ?_
  exact hz38 v2 v3 x0    u hf
def f_X5_tokenEnd_64 (z38 : Int32 → Int32 → Int32 → S2 → Option (Int32 × S2)) (v2 : Int32) (v3 : Int32) (v4 : Int32) (u : S2) : Option (Int32 × S2) := (if v3 = 0 then some (v4, u) else ck (inb v4 160) (nm (u 22 (Int32.toNatClampNeg v4)) (fun x0 => bd (f_X5_isDigit x0 u) (fun r0 u0 => (if r0 = 0 then some (v4, u0) else f_X5_tokenEnd_81 z38  v2 v3 v4 u0)))))
set_option maxRecDepth 20000 in
theorem w_X5_tokenEnd_64 {K : Ctx} {ad : Nat → Nat} (C : Cx K ad cX5_tokenEnd 5 yX5_tokenEnd.cls (some .int)) (hR : Rm K 1 20) {r : Int32} {w : S2} (E : EI K ad r w) (z38 : Int32 → Int32 → Int32 → S2 → Option (Int32 × S2)) (hz38 : ∀ (v2 : Int32) (v3 : Int32) (v4 : Int32)    (u : S2), z38 v2 v3 v4 u = some (r, w) → RW K ad 5 38 [(0, .ref (ad 21)), (2, .int v2), (3, .int v3), (4, .int v4)] [] u) (v2 : Int32) (v3 : Int32) (v4 : Int32)    (u : S2) (hf : f_X5_tokenEnd_64 z38 v2 v3 v4 u = some (r, w)) : RW K ad 5 64 [(0, .ref (ad 21)), (2, .int v2), (3, .int v3), (4, .int v4)] [] u := by
  unfold f_X5_tokenEnd_64 at hf
  refine r_iload_n 65 2 C dX5_tokenEnd_64 rfl rfl rfl ?_
  refine r_if_eq 68 87 C dX5_tokenEnd_65 (by decide) rfl (fun c0 => ?_) (fun c0 => ?_)
  · have hf := ifT c0 hf
    refine r_iload 89 3 C dX5_tokenEnd_87 rfl rfl ?_
    exact r_iret C E (pr1 hf) (pr2 hf) dX5_tokenEnd_89
  · have hf := ifF c0 hf
    refine r_aload_n 69 0 C dX5_tokenEnd_68 rfl rfl rfl ?_
    refine r_get 72 21 0 C inX5 (wd_21 ad u) rfl (by decide) tw_181 rfl rfl dX5_tokenEnd_69 rfl ?_
    refine r_iload 74 3 C dX5_tokenEnd_72 rfl rfl ?_
    obtain ⟨hc0, hf⟩ := ck_of hf
    refine r_iaload 75 22 160 C (wd_22 ad u) hc0 dX5_tokenEnd_74 rfl ?_
    obtain ⟨x0, ex0, hf⟩ := nm_of hf
    refine r_nm ex0 ?_
    obtain ⟨r0, u0, h0, hf⟩ := bd_of hf
    refine r_cSI 78 [.int x0] C hR (c_X5_isDigit ad x0  u r0 u0 h0) q_X5_isDigit tw_555 tw_556 (Nat.le_of_ble_eq_true rfl) (Nat.le_of_ble_eq_true rfl) rfl rfl (Nat.le_of_ble_eq_true rfl) dX5_tokenEnd_75 rfl ?_
    refine r_if_eq 81 87 C dX5_tokenEnd_78 (by decide) rfl (fun c1 => ?_) (fun c1 => ?_)
    · have hf := ifT c1 hf
      refine r_iload 89 3 C dX5_tokenEnd_87 rfl rfl ?_
      exact r_iret C E (pr1 hf) (pr2 hf) dX5_tokenEnd_89
    · have hf := ifF c1 hf
      refine r_sub [(0, .ref (ad 21)), (2, .int v2), (3, .int v3), (4, .int v4)] [0, 1, 2, 3] rfl ?_
      exact w_X5_tokenEnd_81 C hR E z38 hz38  v2 v3 v4    u0 hf
def f_X5_tokenEnd_38  : Nat → Int32 → Int32 → Int32 → S2 → Option (Int32 × S2)
  | 0, _, _, _, _ => none
  | n + 1, v2, v3, v4, u => (if (u 21 1) ≤ v4 then some (v4, u) else (if v2 = 0 then f_X5_tokenEnd_64 (fun v2 v3 v4 u => f_X5_tokenEnd_38  n v2 v3 v4 u)  v2 v3 v4 u else ck (inb v4 160) (nm (u 22 (Int32.toNatClampNeg v4)) (fun x0 => bd (f_X5_isLetter x0 u) (fun r0 u0 => (if r0 = 0 then f_X5_tokenEnd_64 (fun v2 v3 v4 u => f_X5_tokenEnd_38  n v2 v3 v4 u)  v2 v3 v4 u0 else f_X5_tokenEnd_81 (fun v2 v3 v4 u => f_X5_tokenEnd_38  n v2 v3 v4 u)  v2 v3 v4 u0))))))
theorem f_X5_tokenEnd_38_e  (n : Nat) (v2 : Int32) (v3 : Int32) (v4 : Int32) (u : S2) : f_X5_tokenEnd_38  (n + 1) v2 v3 v4 u = (if (u 21 1) ≤ v4 then some (v4, u) else (if v2 = 0 then f_X5_tokenEnd_64 (fun v2 v3 v4 u => f_X5_tokenEnd_38  n v2 v3 v4 u)  v2 v3 v4 u else ck (inb v4 160) (nm (u 22 (Int32.toNatClampNeg v4)) (fun x0 => bd (f_X5_isLetter x0 u) (fun r0 u0 => (if r0 = 0 then f_X5_tokenEnd_64 (fun v2 v3 v4 u => f_X5_tokenEnd_38  n v2 v3 v4 u)  v2 v3 v4 u0 else f_X5_tokenEnd_81 (fun v2 v3 v4 u => f_X5_tokenEnd_38  n v2 v3 v4 u)  v2 v3 v4 u0)))))) := rfl
set_option maxRecDepth 20000 in
theorem w_X5_tokenEnd_38 {K : Ctx} {ad : Nat → Nat} (C : Cx K ad cX5_tokenEnd 5 yX5_tokenEnd.cls (some .int)) (hR : Rm K 1 20) {r : Int32} {w : S2} (E : EI K ad r w)  : ∀ (n : Nat) (v2 : Int32) (v3 : Int32) (v4 : Int32)    (u : S2) (hf : f_X5_tokenEnd_38  n v2 v3 v4 u = some (r, w)), RW K ad 5 38 [(0, .ref (ad 21)), (2, .int v2), (3, .int v3), (4, .int v4)] [] u := by
  intro n
  induction n with
  | zero => intro v2 v3 v4    u hf; cases hf
  | succ n ih =>
    intro v2 v3 v4    u hf
    rw [f_X5_tokenEnd_38_e] at hf
    refine r_iload 40 3 C dX5_tokenEnd_38 rfl rfl ?_
    refine r_aload_n 41 0 C dX5_tokenEnd_40 rfl rfl rfl ?_
    refine r_get 44 21 1 C inX5 (wd_21 ad u) rfl (by decide) tw_182 rfl rfl dX5_tokenEnd_41 rfl ?_
    refine r_icmp_ge 47 87 C dX5_tokenEnd_44 (by decide) rfl (fun c0 => ?_) (fun c0 => ?_)
    · have hf := ifT c0 hf
      refine r_iload 89 3 C dX5_tokenEnd_87 rfl rfl ?_
      exact r_iret C E (pr1 hf) (pr2 hf) dX5_tokenEnd_89
    · have hf := ifF c0 hf
      refine r_iload_n 48 1 C dX5_tokenEnd_47 rfl rfl rfl ?_
      refine r_if_eq 51 64 C dX5_tokenEnd_48 (by decide) rfl (fun c1 => ?_) (fun c1 => ?_)
      · have hf := ifT c1 hf
        refine r_sub [(0, .ref (ad 21)), (2, .int v2), (3, .int v3), (4, .int v4)] [0, 1, 2, 3] rfl ?_
        exact w_X5_tokenEnd_64 C hR E (fun v2 v3 v4 u => f_X5_tokenEnd_38  n v2 v3 v4 u) (fun v2 v3 v4    u h => ih v2 v3 v4    u h)  v2 v3 v4    u hf
      · have hf := ifF c1 hf
        refine r_aload_n 52 0 C dX5_tokenEnd_51 rfl rfl rfl ?_
        refine r_get 55 21 0 C inX5 (wd_21 ad u) rfl (by decide) tw_181 rfl rfl dX5_tokenEnd_52 rfl ?_
        refine r_iload 57 3 C dX5_tokenEnd_55 rfl rfl ?_
        obtain ⟨hc0, hf⟩ := ck_of hf
        refine r_iaload 58 22 160 C (wd_22 ad u) hc0 dX5_tokenEnd_57 rfl ?_
        obtain ⟨x0, ex0, hf⟩ := nm_of hf
        refine r_nm ex0 ?_
        obtain ⟨r0, u0, h0, hf⟩ := bd_of hf
        refine r_cSI 61 [.int x0] C hR (c_X5_isLetter ad x0  u r0 u0 h0) q_X5_isLetter tw_552 tw_553 (Nat.le_of_ble_eq_true rfl) (Nat.le_of_ble_eq_true rfl) rfl rfl (Nat.le_of_ble_eq_true rfl) dX5_tokenEnd_58 rfl ?_
        refine r_if_ne 64 81 C dX5_tokenEnd_61 (by decide) rfl (fun c2 => ?_) (fun c2 => ?_)
        · have hf := ifF c2 hf
          refine r_sub [(0, .ref (ad 21)), (2, .int v2), (3, .int v3), (4, .int v4)] [0, 1, 2, 3] rfl ?_
          exact w_X5_tokenEnd_81 C hR E (fun v2 v3 v4 u => f_X5_tokenEnd_38  n v2 v3 v4 u) (fun v2 v3 v4    u h => ih v2 v3 v4    u h)  v2 v3 v4    u0 hf
        · have hf := ifT c2 hf
          refine r_sub [(0, .ref (ad 21)), (2, .int v2), (3, .int v3), (4, .int v4)] [0, 1, 2, 3] rfl ?_
          exact w_X5_tokenEnd_64 C hR E (fun v2 v3 v4 u => f_X5_tokenEnd_38  n v2 v3 v4 u) (fun v2 v3 v4    u h => ih v2 v3 v4    u h)  v2 v3 v4    u0 hf
def f_X5_tokenEnd (v1 : Int32) (u : S2) : Option (Int32 × S2) := (if v1 < (u 21 1) then ck (inb v1 160) (nm (u 22 (Int32.toNatClampNeg v1)) (fun x0 => bd (f_X5_isLetter x0 u) (fun r0 u0 => ck (inb v1 160) (nm (u0 22 (Int32.toNatClampNeg v1)) (fun x1 => bd (f_X5_isDigit x1 u0) (fun r1 u1 => nm (v1 + (1 : Int32)) (fun x2 => f_X5_tokenEnd_38  FUEL r0 r1 x2 u1))))))) else some (u 21 1, u))
set_option maxRecDepth 20000 in
theorem c_X5_tokenEnd (ad : Nat → Nat) (v1 : Int32)  (u : S2) (r : Int32) (w : S2) (hf : f_X5_tokenEnd v1 u = some (r, w)) : HI yX5_tokenEnd cX5_tokenEnd 5 (some .int) 1 20 ad [.ref (ad 21), .int v1] u r w := by
  refine HI_of (by decide) (Nat.le_of_ble_eq_true rfl) (fun K C hR E => ?_)
  refine r_sub [(0, .ref (ad 21)), (1, .int v1)] [0, 1] rfl ?_
  unfold f_X5_tokenEnd at hf
  refine r_iload_n 1 1 C dX5_tokenEnd_0 rfl rfl rfl ?_
  refine r_aload_n 2 0 C dX5_tokenEnd_1 rfl rfl rfl ?_
  refine r_get 5 21 1 C inX5 (wd_21 ad u) rfl (by decide) tw_182 rfl rfl dX5_tokenEnd_2 rfl ?_
  refine r_icmp_lt 8 13 C dX5_tokenEnd_5 (by decide) rfl (fun c0 => ?_) (fun c0 => ?_)
  · have hf := ifT c0 hf
    refine r_aload_n 14 0 C dX5_tokenEnd_13 rfl rfl rfl ?_
    refine r_get 17 21 0 C inX5 (wd_21 ad u) rfl (by decide) tw_181 rfl rfl dX5_tokenEnd_14 rfl ?_
    refine r_iload_n 18 1 C dX5_tokenEnd_17 rfl rfl rfl ?_
    obtain ⟨hc0, hf⟩ := ck_of hf
    refine r_iaload 19 22 160 C (wd_22 ad u) hc0 dX5_tokenEnd_18 rfl ?_
    obtain ⟨x0, ex0, hf⟩ := nm_of hf
    refine r_nm ex0 ?_
    obtain ⟨r0, u0, h0, hf⟩ := bd_of hf
    refine r_cSI 22 [.int x0] C hR (c_X5_isLetter ad x0  u r0 u0 h0) q_X5_isLetter tw_552 tw_553 (Nat.le_of_ble_eq_true rfl) (Nat.le_of_ble_eq_true rfl) rfl rfl (Nat.le_of_ble_eq_true rfl) dX5_tokenEnd_19 rfl ?_
    refine r_istore_n 23 [(0, .ref (ad 21)), (1, .int v1), (2, .int r0)] [1, 2, 0] C dX5_tokenEnd_22 rfl (by decide) rfl rfl ?_
    refine r_aload_n 24 0 C dX5_tokenEnd_23 rfl rfl rfl ?_
    refine r_get 27 21 0 C inX5 (wd_21 ad u0) rfl (by decide) tw_181 rfl rfl dX5_tokenEnd_24 rfl ?_
    refine r_iload_n 28 1 C dX5_tokenEnd_27 rfl rfl rfl ?_
    obtain ⟨hc1, hf⟩ := ck_of hf
    refine r_iaload 29 22 160 C (wd_22 ad u0) hc1 dX5_tokenEnd_28 rfl ?_
    obtain ⟨x1, ex1, hf⟩ := nm_of hf
    refine r_nm ex1 ?_
    obtain ⟨r1, u1, h1, hf⟩ := bd_of hf
    refine r_cSI 32 [.int x1] C hR (c_X5_isDigit ad x1  u0 r1 u1 h1) q_X5_isDigit tw_555 tw_556 (Nat.le_of_ble_eq_true rfl) (Nat.le_of_ble_eq_true rfl) rfl rfl (Nat.le_of_ble_eq_true rfl) dX5_tokenEnd_29 rfl ?_
    refine r_istore_n 33 [(0, .ref (ad 21)), (1, .int v1), (2, .int r0), (3, .int r1)] [1, 2, 3, 0] C dX5_tokenEnd_32 rfl (by decide) rfl rfl ?_
    refine r_iload_n 34 1 C dX5_tokenEnd_33 rfl rfl rfl ?_
    refine r_iconst (v := 1) 35 C dX5_tokenEnd_34 (by decide) rfl ?_
    refine r_iadd 36 C dX5_tokenEnd_35 rfl ?_
    obtain ⟨x2, ex2, hf⟩ := nm_of hf
    refine r_nm ex2 ?_
    refine r_istore 38 [(0, .ref (ad 21)), (1, .int v1), (2, .int r0), (3, .int r1), (4, .int x2)] [1, 2, 3, 4, 0] C dX5_tokenEnd_36 (by decide) rfl rfl ?_
    refine r_sub [(0, .ref (ad 21)), (2, .int r0), (3, .int r1), (4, .int x2)] [0, 2, 3, 4] rfl ?_
    exact w_X5_tokenEnd_38 C hR E  FUEL r0 r1 x2    u1 hf
  · have hf := ifF c0 hf
    refine r_aload_n 9 0 C dX5_tokenEnd_8 rfl rfl rfl ?_
    refine r_get 12 21 1 C inX5 (wd_21 ad u) rfl (by decide) tw_182 rfl rfl dX5_tokenEnd_9 rfl ?_
    exact r_iret C E (pr1 hf) (pr2 hf) dX5_tokenEnd_12
def f_X5_numberAt_40  : Nat → Int32 → Int32 → Int32 → S2 → Option (Int32 × S2)
  | 0, _, _, _, _ => none
  | n + 1, v2, v3, v4, u => (if v2 ≤ v4 then some (v3, u) else ck (inb v4 160) (nm (u 22 (Int32.toNatClampNeg v4)) (fun x0 => nm (((v3 * (10 : Int32)) + x0) - (48 : Int32)) (fun x1 => nm (v4 + (1 : Int32)) (fun x2 => f_X5_numberAt_40  n v2 x1 x2 u)))))
theorem f_X5_numberAt_40_e  (n : Nat) (v2 : Int32) (v3 : Int32) (v4 : Int32) (u : S2) : f_X5_numberAt_40  (n + 1) v2 v3 v4 u = (if v2 ≤ v4 then some (v3, u) else ck (inb v4 160) (nm (u 22 (Int32.toNatClampNeg v4)) (fun x0 => nm (((v3 * (10 : Int32)) + x0) - (48 : Int32)) (fun x1 => nm (v4 + (1 : Int32)) (fun x2 => f_X5_numberAt_40  n v2 x1 x2 u))))) := rfl
set_option maxRecDepth 20000 in
theorem w_X5_numberAt_40 {K : Ctx} {ad : Nat → Nat} (C : Cx K ad cX5_numberAt 5 yX5_numberAt.cls (some .int)) (hR : Rm K 2 44) {r : Int32} {w : S2} (E : EI K ad r w)  : ∀ (n : Nat) (v2 : Int32) (v3 : Int32) (v4 : Int32)    (u : S2) (hf : f_X5_numberAt_40  n v2 v3 v4 u = some (r, w)), RW K ad 5 40 [(0, .ref (ad 21)), (2, .int v2), (3, .int v3), (4, .int v4)] [] u := by
  intro n
  induction n with
  | zero => intro v2 v3 v4    u hf; cases hf
  | succ n ih =>
    intro v2 v3 v4    u hf
    rw [f_X5_numberAt_40_e] at hf
    refine r_iload 42 3 C dX5_numberAt_40 rfl rfl ?_
    refine r_iload_n 43 1 C dX5_numberAt_42 rfl rfl rfl ?_
    refine r_icmp_ge 46 68 C dX5_numberAt_43 (by decide) rfl (fun c0 => ?_) (fun c0 => ?_)
    · have hf := ifT c0 hf
      refine r_iload_n 69 2 C dX5_numberAt_68 rfl rfl rfl ?_
      exact r_iret C E (pr1 hf) (pr2 hf) dX5_numberAt_69
    · have hf := ifF c0 hf
      refine r_iload_n 47 2 C dX5_numberAt_46 rfl rfl rfl ?_
      refine r_bipush (v := 10) 49 C dX5_numberAt_47 (by decide) rfl ?_
      refine r_imul 50 C dX5_numberAt_49 rfl ?_
      refine r_aload_n 51 0 C dX5_numberAt_50 rfl rfl rfl ?_
      refine r_get 54 21 0 C inX5 (wd_21 ad u) rfl (by decide) tw_181 rfl rfl dX5_numberAt_51 rfl ?_
      refine r_iload 56 3 C dX5_numberAt_54 rfl rfl ?_
      obtain ⟨hc0, hf⟩ := ck_of hf
      refine r_iaload 57 22 160 C (wd_22 ad u) hc0 dX5_numberAt_56 rfl ?_
      obtain ⟨x0, ex0, hf⟩ := nm_of hf
      refine r_nm ex0 ?_
      refine r_iadd 58 C dX5_numberAt_57 rfl ?_
      refine r_bipush (v := 48) 60 C dX5_numberAt_58 (by decide) rfl ?_
      refine r_isub 61 C dX5_numberAt_60 rfl ?_
      obtain ⟨x1, ex1, hf⟩ := nm_of hf
      refine r_nm ex1 ?_
      refine r_istore_n 62 [(0, .ref (ad 21)), (2, .int v2), (3, .int x1), (4, .int v4)] [1, 2, 0, 3] C dX5_numberAt_61 rfl (by decide) rfl rfl ?_
      obtain ⟨x2, ex2, hf⟩ := nm_of hf
      refine r_iinc (v := x2) 65 3 [(0, .ref (ad 21)), (2, .int v2), (3, .int x1), (4, .int x2)] [1, 2, 3, 0] C dX5_numberAt_62 rfl (by rw [ex2]; rfl) (by decide) rfl rfl ?_
      refine r_goto 40 C dX5_numberAt_65 (by decide) ?_
      refine r_sub [(0, .ref (ad 21)), (2, .int v2), (3, .int x1), (4, .int x2)] [0, 1, 2, 3] rfl ?_
      exact ih v2 x1 x2    u hf
def f_X5_numberAt (v1 : Int32) (u : S2) : Option (Int32 × S2) := bd (f_X5_tokenEnd v1 u) (fun r0 u0 => (if (u0 21 1) ≤ v1 then some ((-1 : Int32), u0) else ck (inb v1 160) (nm (u0 22 (Int32.toNatClampNeg v1)) (fun x0 => bd (f_X5_isDigit x0 u0) (fun r1 u1 => (if r1 = 0 then some ((-1 : Int32), u1) else (if (r0 - v1) ≤ (3 : Int32) then f_X5_numberAt_40  FUEL r0 (0 : Int32) v1 u1 else some ((-1 : Int32), u1))))))))
set_option maxRecDepth 20000 in
theorem c_X5_numberAt (ad : Nat → Nat) (v1 : Int32)  (u : S2) (r : Int32) (w : S2) (hf : f_X5_numberAt v1 u = some (r, w)) : HI yX5_numberAt cX5_numberAt 5 (some .int) 2 44 ad [.ref (ad 21), .int v1] u r w := by
  refine HI_of (by decide) (Nat.le_of_ble_eq_true rfl) (fun K C hR E => ?_)
  refine r_sub [(0, .ref (ad 21)), (1, .int v1)] [0, 1] rfl ?_
  unfold f_X5_numberAt at hf
  refine r_aload_n 1 0 C dX5_numberAt_0 rfl rfl rfl ?_
  refine r_iload_n 2 1 C dX5_numberAt_1 rfl rfl rfl ?_
  obtain ⟨r0, u0, h0, hf⟩ := bd_of hf
  refine r_cVI 5 [.int v1] C hR (c_X5_tokenEnd ad v1   u r0 u0 h0) q_X5_tokenEnd tw_548 (wd_21 ad u) rfl rfl tw_550 tp_16 (Nat.le_of_ble_eq_true rfl) (Nat.le_of_ble_eq_true rfl) rfl rfl (Nat.le_of_ble_eq_true rfl) dX5_numberAt_2 rfl ?_
  refine r_istore_n 6 [(0, .ref (ad 21)), (1, .int v1), (2, .int r0)] [1, 2, 0] C dX5_numberAt_5 rfl (by decide) rfl rfl ?_
  refine r_iload_n 7 1 C dX5_numberAt_6 rfl rfl rfl ?_
  refine r_aload_n 8 0 C dX5_numberAt_7 rfl rfl rfl ?_
  refine r_get 11 21 1 C inX5 (wd_21 ad u0) rfl (by decide) tw_182 rfl rfl dX5_numberAt_8 rfl ?_
  refine r_icmp_ge 14 33 C dX5_numberAt_11 (by decide) rfl (fun c0 => ?_) (fun c0 => ?_)
  · have hf := ifT c0 hf
    refine r_iconst (v := -1) 34 C dX5_numberAt_33 (by decide) rfl ?_
    exact r_iret C E (pr1 hf) (pr2 hf) dX5_numberAt_34
  · have hf := ifF c0 hf
    refine r_aload_n 15 0 C dX5_numberAt_14 rfl rfl rfl ?_
    refine r_get 18 21 0 C inX5 (wd_21 ad u0) rfl (by decide) tw_181 rfl rfl dX5_numberAt_15 rfl ?_
    refine r_iload_n 19 1 C dX5_numberAt_18 rfl rfl rfl ?_
    obtain ⟨hc0, hf⟩ := ck_of hf
    refine r_iaload 20 22 160 C (wd_22 ad u0) hc0 dX5_numberAt_19 rfl ?_
    obtain ⟨x0, ex0, hf⟩ := nm_of hf
    refine r_nm ex0 ?_
    obtain ⟨r1, u1, h1, hf⟩ := bd_of hf
    refine r_cSI 23 [.int x0] C hR (c_X5_isDigit ad x0  u0 r1 u1 h1) q_X5_isDigit tw_555 tw_556 (Nat.le_of_ble_eq_true rfl) (Nat.le_of_ble_eq_true rfl) rfl rfl (Nat.le_of_ble_eq_true rfl) dX5_numberAt_20 rfl ?_
    refine r_if_eq 26 33 C dX5_numberAt_23 (by decide) rfl (fun c1 => ?_) (fun c1 => ?_)
    · have hf := ifT c1 hf
      refine r_iconst (v := -1) 34 C dX5_numberAt_33 (by decide) rfl ?_
      exact r_iret C E (pr1 hf) (pr2 hf) dX5_numberAt_34
    · have hf := ifF c1 hf
      refine r_iload_n 27 2 C dX5_numberAt_26 rfl rfl rfl ?_
      refine r_iload_n 28 1 C dX5_numberAt_27 rfl rfl rfl ?_
      refine r_isub 29 C dX5_numberAt_28 rfl ?_
      refine r_iconst (v := 3) 30 C dX5_numberAt_29 (by decide) rfl ?_
      refine r_icmp_le 33 35 C dX5_numberAt_30 (by decide) rfl (fun c2 => ?_) (fun c2 => ?_)
      · have hf := ifT c2 hf
        refine r_iconst (v := 0) 36 C dX5_numberAt_35 (by decide) rfl ?_
        refine r_istore_n 37 [(0, .ref (ad 21)), (1, .int v1), (2, .int r0), (3, .int (0 : Int32))] [1, 2, 3, 0] C dX5_numberAt_36 rfl (by decide) rfl rfl ?_
        refine r_iload_n 38 1 C dX5_numberAt_37 rfl rfl rfl ?_
        refine r_istore 40 [(0, .ref (ad 21)), (1, .int v1), (2, .int r0), (3, .int (0 : Int32)), (4, .int v1)] [1, 2, 3, 4, 0] C dX5_numberAt_38 (by decide) rfl rfl ?_
        refine r_sub [(0, .ref (ad 21)), (2, .int r0), (3, .int (0 : Int32)), (4, .int v1)] [0, 2, 3, 4] rfl ?_
        exact w_X5_numberAt_40 C hR E  FUEL r0 (0 : Int32) v1    u1 hf
      · have hf := ifF c2 hf
        refine r_iconst (v := -1) 34 C dX5_numberAt_33 (by decide) rfl ?_
        exact r_iret C E (pr1 hf) (pr2 hf) dX5_numberAt_34
def f_X0_become_9  (u : S2) : Option (S2) := nm (va_up u 18 (va_cpy (u 23) (u 18) 0 0 6)) (fun u0 => nm (wr u0 9 2 (0 : Int32)) (fun u1 => some u1))
set_option maxRecDepth 20000 in
theorem c_X0_become_9 (ad : Nat → Nat)   (u : S2) (w : S2) (hf : f_X0_become_9  u = some w) : HV yX0_become cX0_become 2 none 1 40 ad [.ref (ad 9), .ref (ad 23)] u w := by
  refine HV_of (by decide) (Nat.le_of_ble_eq_true rfl) (fun K C hR E => ?_)
  refine r_sub [(0, .ref (ad 9)), (1, .ref (ad 23))] [0, 1] rfl ?_
  unfold f_X0_become_9 at hf
  refine r_aload_n 1 1 C dX0_become_0 rfl rfl rfl ?_
  refine r_iconst (v := 0) 2 C dX0_become_1 (by decide) rfl ?_
  refine r_aload_n 3 0 C dX0_become_2 rfl rfl rfl ?_
  refine r_get 6 9 0 C inX0 (wd_9 ad u) rfl (by decide) tw_158 rfl rfl dX0_become_3 rfl ?_
  refine r_iconst (v := 0) 7 C dX0_become_6 (by decide) rfl ?_
  refine r_bipush (v := 6) 9 C dX0_become_7 (by decide) rfl ?_
  refine r_copy6 12 23 18 C hR tw_155 (wd_23 ad u) (wd_18 ad u) (sA_18 ad u) (Nat.le_of_ble_eq_true rfl) (Nat.le_of_ble_eq_true rfl) dX0_become_9 rfl ?_
  obtain ⟨u0, eu0, hf⟩ := nm_of hf
  refine r_st eu0 ?_
  refine r_aload_n 13 0 C dX0_become_12 rfl rfl rfl ?_
  refine r_iconst (v := 0) 14 C dX0_become_13 (by decide) rfl ?_
  refine r_put 17 9 2 C inX0 tyX0_ok nmX0 (wd_9 ad u0) (sF_9_2 ad u0 (0 : Int32)) rfl (by decide) tw_164 rfl rfl (tyX0_ok 2 (by decide)) rfl rfl (Nat.le_of_ble_eq_true rfl) dX0_become_14 rfl ?_
  obtain ⟨u1, eu1, hf⟩ := nm_of hf
  refine r_st eu1 ?_
  exact r_vret C E (so_of hf) dX0_become_17
def f_X11_steers (v1 : Int32) (u : S2) : Option (Int32 × S2) := bd (f_X11_isWithin v1 (0 : Int32) (5 : Int32) u) (fun r0 u0 => (if r0 = 0 then some ((-3 : Int32), u0) else ck (inb v1 6) (nm (u0 18 (Int32.toNatClampNeg v1)) (fun x0 => some (x0, u0)))))
set_option maxRecDepth 20000 in
theorem c_X11_steers (ad : Nat → Nat) (v1 : Int32)  (u : S2) (r : Int32) (w : S2) (hf : f_X11_steers v1 u = some (r, w)) : HI yX11_steers cX11_steers 2 (some .int) 1 22 ad [.ref (ad 0), .int v1] u r w := by
  refine HI_of (by decide) (Nat.le_of_ble_eq_true rfl) (fun K C hR E => ?_)
  refine r_sub [(0, .ref (ad 0)), (1, .int v1)] [0, 1] rfl ?_
  unfold f_X11_steers at hf
  refine r_iload_n 1 1 C dX11_steers_0 rfl rfl rfl ?_
  refine r_iconst (v := 0) 2 C dX11_steers_1 (by decide) rfl ?_
  refine r_iconst (v := 5) 3 C dX11_steers_2 (by decide) rfl ?_
  obtain ⟨r0, u0, h0, hf⟩ := bd_of hf
  refine r_cSI 6 [.int v1, .int (0 : Int32), .int (5 : Int32)] C hR (c_X11_isWithin ad v1 (0 : Int32) (5 : Int32)    u r0 u0 h0) q_X11_isWithin tw_356 tw_357 (Nat.le_of_ble_eq_true rfl) (Nat.le_of_ble_eq_true rfl) rfl rfl (Nat.le_of_ble_eq_true rfl) dX11_steers_3 rfl ?_
  refine r_if_eq 9 21 C dX11_steers_6 (by decide) rfl (fun c0 => ?_) (fun c0 => ?_)
  · have hf := ifT c0 hf
    refine r_bipush (v := -3) 23 C dX11_steers_21 (by decide) rfl ?_
    exact r_iret C E (pr1 hf) (pr2 hf) dX11_steers_23
  · have hf := ifF c0 hf
    refine r_aload_n 10 0 C dX11_steers_9 rfl rfl rfl ?_
    refine r_get 13 0 3 C inX11 (wd_0 ad u0) rfl (by decide) tw_321 rfl rfl dX11_steers_10 rfl ?_
    refine r_getN 16 9 0 C inX0 (wd_9 ad u0) rfl (by decide) tn_160 rfl rfl dX11_steers_13 rfl ?_
    refine r_iload_n 17 1 C dX11_steers_16 rfl rfl rfl ?_
    obtain ⟨hc0, hf⟩ := ck_of hf
    refine r_iaload 18 18 6 C (wd_18 ad u0) hc0 dX11_steers_17 rfl ?_
    obtain ⟨x0, ex0, hf⟩ := nm_of hf
    refine r_nm ex0 ?_
    refine r_goto 23 C dX11_steers_18 (by decide) ?_
    exact r_iret C E (pr1 hf) (pr2 hf) dX11_steers_23
def f_X0_steerFor_9 (v1 : Int32) (u : S2) : Option (S2) := nm (wr u 9 1 v1) (fun u0 => nm (wr u0 9 2 (0 : Int32)) (fun u1 => some u1))
set_option maxRecDepth 20000 in
theorem c_X0_steerFor_9 (ad : Nat → Nat) (v1 : Int32)  (u : S2) (w : S2) (hf : f_X0_steerFor_9 v1 u = some w) : HV yX0_steerFor cX0_steerFor 2 none 0 0 ad [.ref (ad 9), .int v1] u w := by
  refine HV_of (by decide) (Nat.le_of_ble_eq_true rfl) (fun K C hR E => ?_)
  refine r_sub [(0, .ref (ad 9)), (1, .int v1)] [0, 1] rfl ?_
  unfold f_X0_steerFor_9 at hf
  refine r_aload_n 1 0 C dX0_steerFor_0 rfl rfl rfl ?_
  refine r_iload_n 2 1 C dX0_steerFor_1 rfl rfl rfl ?_
  refine r_put 5 9 1 C inX0 tyX0_ok nmX0 (wd_9 ad u) (sF_9_1 ad u v1) rfl (by decide) tw_161 rfl rfl (tyX0_ok 1 (by decide)) rfl rfl (Nat.le_of_ble_eq_true rfl) dX0_steerFor_2 rfl ?_
  obtain ⟨u0, eu0, hf⟩ := nm_of hf
  refine r_st eu0 ?_
  refine r_aload_n 6 0 C dX0_steerFor_5 rfl rfl rfl ?_
  refine r_iconst (v := 0) 7 C dX0_steerFor_6 (by decide) rfl ?_
  refine r_put 10 9 2 C inX0 tyX0_ok nmX0 (wd_9 ad u0) (sF_9_2 ad u0 (0 : Int32)) rfl (by decide) tw_164 rfl rfl (tyX0_ok 2 (by decide)) rfl rfl (Nat.le_of_ble_eq_true rfl) dX0_steerFor_7 rfl ?_
  obtain ⟨u1, eu1, hf⟩ := nm_of hf
  refine r_st eu1 ?_
  exact r_vret C E (so_of hf) dX0_steerFor_10
def f_X11_course (v1 : Int32) (u : S2) : Option (Int32 × S2) := bd (f_X11_isHeading v1 u) (fun r0 u0 => (if r0 = 0 then some ((-3 : Int32), u0) else nm (u0 9 1) (fun x0 => bv (f_X0_steerFor_9 v1 u0) (fun u1 => some (x0, u1)))))
set_option maxRecDepth 20000 in
theorem c_X11_course (ad : Nat → Nat) (v1 : Int32)  (u : S2) (r : Int32) (w : S2) (hf : f_X11_course v1 u = some (r, w)) : HI yX11_course cX11_course 3 (some .int) 2 42 ad [.ref (ad 0), .int v1] u r w := by
  refine HI_of (by decide) (Nat.le_of_ble_eq_true rfl) (fun K C hR E => ?_)
  refine r_sub [(0, .ref (ad 0)), (1, .int v1)] [0, 1] rfl ?_
  unfold f_X11_course at hf
  refine r_iload_n 1 1 C dX11_course_0 rfl rfl rfl ?_
  obtain ⟨r0, u0, h0, hf⟩ := bd_of hf
  refine r_cSI 4 [.int v1] C hR (c_X11_isHeading ad v1  u r0 u0 h0) q_X11_isHeading tw_366 tw_367 (Nat.le_of_ble_eq_true rfl) (Nat.le_of_ble_eq_true rfl) rfl rfl (Nat.le_of_ble_eq_true rfl) dX11_course_1 rfl ?_
  refine r_if_ne 7 10 C dX11_course_4 (by decide) rfl (fun c0 => ?_) (fun c0 => ?_)
  · have hf := ifF c0 hf
    refine r_aload_n 11 0 C dX11_course_10 rfl rfl rfl ?_
    refine r_get 14 0 3 C inX11 (wd_0 ad u0) rfl (by decide) tw_321 rfl rfl dX11_course_11 rfl ?_
    refine r_getN 17 9 1 C inX0 (wd_9 ad u0) rfl (by decide) tn_163 rfl rfl dX11_course_14 rfl ?_
    obtain ⟨x0, ex0, hf⟩ := nm_of hf
    refine r_nm ex0 ?_
    refine r_istore_n 18 [(0, .ref (ad 0)), (1, .int v1), (2, .int x0)] [1, 2, 0] C dX11_course_17 rfl (by decide) rfl rfl ?_
    refine r_aload_n 19 0 C dX11_course_18 rfl rfl rfl ?_
    refine r_get 22 0 3 C inX11 (wd_0 ad u0) rfl (by decide) tw_321 rfl rfl dX11_course_19 rfl ?_
    refine r_iload_n 23 1 C dX11_course_22 rfl rfl rfl ?_
    obtain ⟨u1, h1, hf⟩ := bv_of hf
    refine r_cVNV 26 [.int v1] C hR (c_X0_steerFor_9 ad v1   u0 u1 h1) q_X0_steerFor tn_645 (wd_9 ad u0) rfl rfl tw_647 tp_20 (Nat.le_of_ble_eq_true rfl) (Nat.le_of_ble_eq_true rfl) rfl rfl (Nat.le_of_ble_eq_true rfl) dX11_course_23 rfl ?_
    refine r_iload_n 27 2 C dX11_course_26 rfl rfl rfl ?_
    exact r_iret C E (pr1 hf) (pr2 hf) dX11_course_27
  · have hf := ifT c0 hf
    refine r_bipush (v := -3) 9 C dX11_course_7 (by decide) rfl ?_
    exact r_iret C E (pr1 hf) (pr2 hf) dX11_course_9
def f_X4_copyFrom (k0 : Nat) (k1 : Nat) (u : S2) : Option (S2) := nm (u k1 0) (fun x0 => nm (wr u k0 0 x0) (fun u0 => nm (u0 k1 1) (fun x1 => nm (wr u0 k0 1 x1) (fun u1 => nm (u1 k1 2) (fun x2 => nm (wr u1 k0 2 x2) (fun u2 => nm (u2 k1 3) (fun x3 => nm (wr u2 k0 3 x3) (fun u3 => nm (u3 k1 4) (fun x4 => nm (wr u3 k0 4 x4) (fun u4 => nm (u4 k1 5) (fun x5 => nm (wr u4 k0 5 x5) (fun u5 => nm (u5 k1 6) (fun x6 => nm (wr u5 k0 6 x6) (fun u6 => nm (u6 k1 7) (fun x7 => nm (wr u6 k0 7 x7) (fun u7 => some u7))))))))))))))))
set_option maxRecDepth 20000 in
theorem c_X4_copyFrom (ad : Nat → Nat) (k0 : Nat) (k1 : Nat) (k0a : 10 ≤ k0) (k0b : k0 < 18) (k1a : 10 ≤ k1) (k1b : k1 < 18) (u : S2) (w : S2) (hf : f_X4_copyFrom k0 k1 u = some w) : HV yX4_copyFrom cX4_copyFrom 2 none 0 0 ad [.ref (ad k0), .ref (ad k1)] u w := by
  refine HV_of (by decide) (Nat.le_of_ble_eq_true rfl) (fun K C hR E => ?_)
  refine r_sub [(0, .ref (ad k0)), (1, .ref (ad k1))] [0, 1] rfl ?_
  unfold f_X4_copyFrom at hf
  refine r_aload_n 1 0 C dX4_copyFrom_0 rfl rfl rfl ?_
  refine r_aload_n 2 1 C dX4_copyFrom_1 rfl rfl rfl ?_
  refine r_get 5 k1 0 C inX4 (wd_P ad u k1a k1b) rfl (by decide) tw_67 rfl rfl dX4_copyFrom_2 rfl ?_
  obtain ⟨x0, ex0, hf⟩ := nm_of hf
  refine r_nm ex0 ?_
  refine r_put 8 k0 0 C inX4 tyX4_ok nmX4 (wd_P ad u k0a k0b) (sP_0 ad u k0a k0b x0) rfl (by decide) tw_67 rfl rfl (tyX4_ok 0 (by decide)) rfl rfl (Nat.le_of_ble_eq_true rfl) dX4_copyFrom_5 rfl ?_
  obtain ⟨u0, eu0, hf⟩ := nm_of hf
  refine r_st eu0 ?_
  refine r_aload_n 9 0 C dX4_copyFrom_8 rfl rfl rfl ?_
  refine r_aload_n 10 1 C dX4_copyFrom_9 rfl rfl rfl ?_
  refine r_get 13 k1 1 C inX4 (wd_P ad u0 k1a k1b) rfl (by decide) tw_70 rfl rfl dX4_copyFrom_10 rfl ?_
  obtain ⟨x1, ex1, hf⟩ := nm_of hf
  refine r_nm ex1 ?_
  refine r_put 16 k0 1 C inX4 tyX4_ok nmX4 (wd_P ad u0 k0a k0b) (sP_1 ad u0 k0a k0b x1) rfl (by decide) tw_70 rfl rfl (tyX4_ok 1 (by decide)) rfl rfl (Nat.le_of_ble_eq_true rfl) dX4_copyFrom_13 rfl ?_
  obtain ⟨u1, eu1, hf⟩ := nm_of hf
  refine r_st eu1 ?_
  refine r_aload_n 17 0 C dX4_copyFrom_16 rfl rfl rfl ?_
  refine r_aload_n 18 1 C dX4_copyFrom_17 rfl rfl rfl ?_
  refine r_get 21 k1 2 C inX4 (wd_P ad u1 k1a k1b) rfl (by decide) tw_74 rfl rfl dX4_copyFrom_18 rfl ?_
  obtain ⟨x2, ex2, hf⟩ := nm_of hf
  refine r_nm ex2 ?_
  refine r_put 24 k0 2 C inX4 tyX4_ok nmX4 (wd_P ad u1 k0a k0b) (sP_2 ad u1 k0a k0b x2) rfl (by decide) tw_74 rfl rfl (tyX4_ok 2 (by decide)) rfl rfl (Nat.le_of_ble_eq_true rfl) dX4_copyFrom_21 rfl ?_
  obtain ⟨u2, eu2, hf⟩ := nm_of hf
  refine r_st eu2 ?_
  refine r_aload_n 25 0 C dX4_copyFrom_24 rfl rfl rfl ?_
  refine r_aload_n 26 1 C dX4_copyFrom_25 rfl rfl rfl ?_
  refine r_get 29 k1 3 C inX4 (wd_P ad u2 k1a k1b) rfl (by decide) tw_76 rfl rfl dX4_copyFrom_26 rfl ?_
  obtain ⟨x3, ex3, hf⟩ := nm_of hf
  refine r_nm ex3 ?_
  refine r_put 32 k0 3 C inX4 tyX4_ok nmX4 (wd_P ad u2 k0a k0b) (sP_3 ad u2 k0a k0b x3) rfl (by decide) tw_76 rfl rfl (tyX4_ok 3 (by decide)) rfl rfl (Nat.le_of_ble_eq_true rfl) dX4_copyFrom_29 rfl ?_
  obtain ⟨u3, eu3, hf⟩ := nm_of hf
  refine r_st eu3 ?_
  refine r_aload_n 33 0 C dX4_copyFrom_32 rfl rfl rfl ?_
  refine r_aload_n 34 1 C dX4_copyFrom_33 rfl rfl rfl ?_
  refine r_get 37 k1 4 C inX4 (wd_P ad u3 k1a k1b) rfl (by decide) tw_77 rfl rfl dX4_copyFrom_34 rfl ?_
  obtain ⟨x4, ex4, hf⟩ := nm_of hf
  refine r_nm ex4 ?_
  refine r_put 40 k0 4 C inX4 tyX4_ok nmX4 (wd_P ad u3 k0a k0b) (sP_4 ad u3 k0a k0b x4) rfl (by decide) tw_77 rfl rfl (tyX4_ok 4 (by decide)) rfl rfl (Nat.le_of_ble_eq_true rfl) dX4_copyFrom_37 rfl ?_
  obtain ⟨u4, eu4, hf⟩ := nm_of hf
  refine r_st eu4 ?_
  refine r_aload_n 41 0 C dX4_copyFrom_40 rfl rfl rfl ?_
  refine r_aload_n 42 1 C dX4_copyFrom_41 rfl rfl rfl ?_
  refine r_get 45 k1 5 C inX4 (wd_P ad u4 k1a k1b) rfl (by decide) tw_81 rfl rfl dX4_copyFrom_42 rfl ?_
  obtain ⟨x5, ex5, hf⟩ := nm_of hf
  refine r_nm ex5 ?_
  refine r_put 48 k0 5 C inX4 tyX4_ok nmX4 (wd_P ad u4 k0a k0b) (sP_5 ad u4 k0a k0b x5) rfl (by decide) tw_81 rfl rfl (tyX4_ok 5 (by decide)) rfl rfl (Nat.le_of_ble_eq_true rfl) dX4_copyFrom_45 rfl ?_
  obtain ⟨u5, eu5, hf⟩ := nm_of hf
  refine r_st eu5 ?_
  refine r_aload_n 49 0 C dX4_copyFrom_48 rfl rfl rfl ?_
  refine r_aload_n 50 1 C dX4_copyFrom_49 rfl rfl rfl ?_
  refine r_get 53 k1 6 C inX4 (wd_P ad u5 k1a k1b) rfl (by decide) tw_83 rfl rfl dX4_copyFrom_50 rfl ?_
  obtain ⟨x6, ex6, hf⟩ := nm_of hf
  refine r_nm ex6 ?_
  refine r_put 56 k0 6 C inX4 tyX4_ok nmX4 (wd_P ad u5 k0a k0b) (sP_6 ad u5 k0a k0b x6) rfl (by decide) tw_83 rfl rfl (tyX4_ok 6 (by decide)) rfl rfl (Nat.le_of_ble_eq_true rfl) dX4_copyFrom_53 rfl ?_
  obtain ⟨u6, eu6, hf⟩ := nm_of hf
  refine r_st eu6 ?_
  refine r_aload_n 57 0 C dX4_copyFrom_56 rfl rfl rfl ?_
  refine r_aload_n 58 1 C dX4_copyFrom_57 rfl rfl rfl ?_
  refine r_get 61 k1 7 C inX4 (wd_P ad u6 k1a k1b) rfl (by decide) tw_85 rfl rfl dX4_copyFrom_58 rfl ?_
  obtain ⟨x7, ex7, hf⟩ := nm_of hf
  refine r_nm ex7 ?_
  refine r_put 64 k0 7 C inX4 tyX4_ok nmX4 (wd_P ad u6 k0a k0b) (sP_7 ad u6 k0a k0b x7) rfl (by decide) tw_85 rfl rfl (tyX4_ok 7 (by decide)) rfl rfl (Nat.le_of_ble_eq_true rfl) dX4_copyFrom_61 rfl ?_
  obtain ⟨u7, eu7, hf⟩ := nm_of hf
  refine r_st eu7 ?_
  exact r_vret C E (so_of hf) dX4_copyFrom_64
def f_X8_noteRest (v1 : Int32) (u : S2) : Option (S2) := nm (jabs (u 16 4)) (fun x0 => (if x0 ≤ (100 : Int32) then (if (u 24 3) = (-1 : Int32) then nm (wr u 24 3 v1) (fun u0 => some u0) else some u) else nm (wr u 24 3 (-1 : Int32)) (fun u1 => some u1)))
set_option maxRecDepth 20000 in
theorem c_X8_noteRest (ad : Nat → Nat) (v1 : Int32)  (u : S2) (w : S2) (hf : f_X8_noteRest v1 u = some w) : HV yX8_noteRest cX8_noteRest 2 none 1 13 ad [.ref (ad 24), .int v1] u w := by
  refine HV_of (by decide) (Nat.le_of_ble_eq_true rfl) (fun K C hR E => ?_)
  refine r_sub [(0, .ref (ad 24)), (1, .int v1)] [0, 1] rfl ?_
  unfold f_X8_noteRest at hf
  refine r_aload_n 1 0 C dX8_noteRest_0 rfl rfl rfl ?_
  refine r_get 4 24 0 C inX8 (wd_24 ad u) rfl (by decide) tw_205 rfl rfl dX8_noteRest_1 rfl ?_
  refine r_getN 7 16 4 C inX4 (wd_P ad u (by decide) (by decide)) rfl (by decide) tn_78 rfl rfl dX8_noteRest_4 rfl ?_
  refine r_mabs 10 C hR tw_666 tw_451 tw_15 tw_452 (Nat.le_of_ble_eq_true rfl) (Nat.le_of_ble_eq_true rfl) dX8_noteRest_7 rfl ?_
  obtain ⟨x0, ex0, hf⟩ := nm_of hf
  refine r_nm ex0 ?_
  refine r_bipush (v := 100) 12 C dX8_noteRest_10 (by decide) rfl ?_
  refine r_icmp_le 15 23 C dX8_noteRest_12 (by decide) rfl (fun c0 => ?_) (fun c0 => ?_)
  · have hf := ifT c0 hf
    refine r_aload_n 24 0 C dX8_noteRest_23 rfl rfl rfl ?_
    refine r_get 27 24 3 C inX8 (wd_24 ad u) rfl (by decide) tw_210 rfl rfl dX8_noteRest_24 rfl ?_
    refine r_iconst (v := -1) 28 C dX8_noteRest_27 (by decide) rfl ?_
    refine r_icmp_ne 31 36 C dX8_noteRest_28 (by decide) rfl (fun c1 => ?_) (fun c1 => ?_)
    · have hf := ifF c1 hf
      exact r_vret C E (so_of hf) dX8_noteRest_36
    · have hf := ifT c1 hf
      refine r_aload_n 32 0 C dX8_noteRest_31 rfl rfl rfl ?_
      refine r_iload_n 33 1 C dX8_noteRest_32 rfl rfl rfl ?_
      refine r_put 36 24 3 C inX8 tyX8_ok nmX8 (wd_24 ad u) (sF_24_3 ad u v1) rfl (by decide) tw_210 rfl rfl (tyX8_ok 3 (by decide)) rfl rfl (Nat.le_of_ble_eq_true rfl) dX8_noteRest_33 rfl ?_
      obtain ⟨u0, eu0, hf⟩ := nm_of hf
      refine r_st eu0 ?_
      exact r_vret C E (so_of hf) dX8_noteRest_36
  · have hf := ifF c0 hf
    refine r_aload_n 16 0 C dX8_noteRest_15 rfl rfl rfl ?_
    refine r_iconst (v := -1) 17 C dX8_noteRest_16 (by decide) rfl ?_
    refine r_put 20 24 3 C inX8 tyX8_ok nmX8 (wd_24 ad u) (sF_24_3 ad u (-1 : Int32)) rfl (by decide) tw_210 rfl rfl (tyX8_ok 3 (by decide)) rfl rfl (Nat.le_of_ble_eq_true rfl) dX8_noteRest_17 rfl ?_
    obtain ⟨u1, eu1, hf⟩ := nm_of hf
    refine r_st eu1 ?_
    refine r_goto 36 C dX8_noteRest_20 (by decide) ?_
    exact r_vret C E (so_of hf) dX8_noteRest_36
def f_X8_noteCrossing_51   (u : S2) : Option (S2) := (if (u 24 1) = (-1 : Int32) then some u else nm (jabs (u 16 4)) (fun x0 => nm (jabs (u 24 2)) (fun x1 => (if x0 ≤ x1 then some u else nm (u 16 4) (fun x2 => nm (wr u 24 2 x2) (fun u0 => some u0))))))
set_option maxRecDepth 20000 in
theorem w_X8_noteCrossing_51 {K : Ctx} {ad : Nat → Nat} (C : Cx K ad cX8_noteCrossing 3 yX8_noteCrossing.cls none) (hR : Rm K 1 14) {w : S2} (E : EV K ad w)    (u : S2) (hf : f_X8_noteCrossing_51   u = some w) : RW K ad 3 51 [(0, .ref (ad 24))] [] u := by
  unfold f_X8_noteCrossing_51 at hf
  refine r_aload_n 52 0 C dX8_noteCrossing_51 rfl rfl rfl ?_
  refine r_get 55 24 1 C inX8 (wd_24 ad u) rfl (by decide) tw_206 rfl rfl dX8_noteCrossing_52 rfl ?_
  refine r_iconst (v := -1) 56 C dX8_noteCrossing_55 (by decide) rfl ?_
  refine r_icmp_eq 59 90 C dX8_noteCrossing_56 (by decide) rfl (fun c0 => ?_) (fun c0 => ?_)
  · have hf := ifT c0 hf
    exact r_vret C E (so_of hf) dX8_noteCrossing_90
  · have hf := ifF c0 hf
    refine r_aload_n 60 0 C dX8_noteCrossing_59 rfl rfl rfl ?_
    refine r_get 63 24 0 C inX8 (wd_24 ad u) rfl (by decide) tw_205 rfl rfl dX8_noteCrossing_60 rfl ?_
    refine r_getN 66 16 4 C inX4 (wd_P ad u (by decide) (by decide)) rfl (by decide) tn_78 rfl rfl dX8_noteCrossing_63 rfl ?_
    refine r_mabs 69 C hR tw_666 tw_451 tw_15 tw_452 (Nat.le_of_ble_eq_true rfl) (Nat.le_of_ble_eq_true rfl) dX8_noteCrossing_66 rfl ?_
    obtain ⟨x0, ex0, hf⟩ := nm_of hf
    refine r_nm ex0 ?_
    refine r_aload_n 70 0 C dX8_noteCrossing_69 rfl rfl rfl ?_
    refine r_get 73 24 2 C inX8 (wd_24 ad u) rfl (by decide) tw_208 rfl rfl dX8_noteCrossing_70 rfl ?_
    refine r_mabs 76 C hR tw_666 tw_451 tw_15 tw_452 (Nat.le_of_ble_eq_true rfl) (Nat.le_of_ble_eq_true rfl) dX8_noteCrossing_73 rfl ?_
    obtain ⟨x1, ex1, hf⟩ := nm_of hf
    refine r_nm ex1 ?_
    refine r_icmp_le 79 90 C dX8_noteCrossing_76 (by decide) rfl (fun c1 => ?_) (fun c1 => ?_)
    · have hf := ifT c1 hf
      exact r_vret C E (so_of hf) dX8_noteCrossing_90
    · have hf := ifF c1 hf
      refine r_aload_n 80 0 C dX8_noteCrossing_79 rfl rfl rfl ?_
      refine r_aload_n 81 0 C dX8_noteCrossing_80 rfl rfl rfl ?_
      refine r_get 84 24 0 C inX8 (wd_24 ad u) rfl (by decide) tw_205 rfl rfl dX8_noteCrossing_81 rfl ?_
      refine r_getN 87 16 4 C inX4 (wd_P ad u (by decide) (by decide)) rfl (by decide) tn_78 rfl rfl dX8_noteCrossing_84 rfl ?_
      obtain ⟨x2, ex2, hf⟩ := nm_of hf
      refine r_nm ex2 ?_
      refine r_put 90 24 2 C inX8 tyX8_ok nmX8 (wd_24 ad u) (sF_24_2 ad u x2) rfl (by decide) tw_208 rfl rfl (tyX8_ok 2 (by decide)) rfl rfl (Nat.le_of_ble_eq_true rfl) dX8_noteCrossing_87 rfl ?_
      obtain ⟨u0, eu0, hf⟩ := nm_of hf
      refine r_st eu0 ?_
      exact r_vret C E (so_of hf) dX8_noteCrossing_90
def f_X8_noteCrossing_35  (v1 : Int32) (u : S2) : Option (S2) := nm (wr u 24 1 v1) (fun u0 => nm (u0 16 4) (fun x0 => nm (wr u0 24 2 x0) (fun u1 => f_X8_noteCrossing_51    u1)))
set_option maxRecDepth 20000 in
theorem w_X8_noteCrossing_35 {K : Ctx} {ad : Nat → Nat} (C : Cx K ad cX8_noteCrossing 3 yX8_noteCrossing.cls none) (hR : Rm K 1 14) {w : S2} (E : EV K ad w)  (v1 : Int32)  (u : S2) (hf : f_X8_noteCrossing_35  v1 u = some w) : RW K ad 3 35 [(0, .ref (ad 24)), (1, .int v1)] [] u := by
  unfold f_X8_noteCrossing_35 at hf
  refine r_aload_n 36 0 C dX8_noteCrossing_35 rfl rfl rfl ?_
  refine r_iload_n 37 1 C dX8_noteCrossing_36 rfl rfl rfl ?_
  refine r_put 40 24 1 C inX8 tyX8_ok nmX8 (wd_24 ad u) (sF_24_1 ad u v1) rfl (by decide) tw_206 rfl rfl (tyX8_ok 1 (by decide)) rfl rfl (Nat.le_of_ble_eq_true rfl) dX8_noteCrossing_37 rfl ?_
  obtain ⟨u0, eu0, hf⟩ := nm_of hf
  refine r_st eu0 ?_
  refine r_aload_n 41 0 C dX8_noteCrossing_40 rfl rfl rfl ?_
  refine r_aload_n 42 0 C dX8_noteCrossing_41 rfl rfl rfl ?_
  refine r_get 45 24 0 C inX8 (wd_24 ad u0) rfl (by decide) tw_205 rfl rfl dX8_noteCrossing_42 rfl ?_
  refine r_getN 48 16 4 C inX4 (wd_P ad u0 (by decide) (by decide)) rfl (by decide) tn_78 rfl rfl dX8_noteCrossing_45 rfl ?_
  obtain ⟨x0, ex0, hf⟩ := nm_of hf
  refine r_nm ex0 ?_
  refine r_put 51 24 2 C inX8 tyX8_ok nmX8 (wd_24 ad u0) (sF_24_2 ad u0 x0) rfl (by decide) tw_208 rfl rfl (tyX8_ok 2 (by decide)) rfl rfl (Nat.le_of_ble_eq_true rfl) dX8_noteCrossing_48 rfl ?_
  obtain ⟨u1, eu1, hf⟩ := nm_of hf
  refine r_st eu1 ?_
  refine r_sub [(0, .ref (ad 24))] [0] rfl ?_
  exact w_X8_noteCrossing_51 C hR E     u1 hf
def f_X8_noteCrossing (v1 : Int32) (v2 : Int32) (u : S2) : Option (S2) := (if (u 24 1) = (-1 : Int32) then (if v2 ≤ 0 then (if (u 16 4) < 0 then f_X8_noteCrossing_51    u else f_X8_noteCrossing_35   v1 u) else (if 0 < (u 16 4) then f_X8_noteCrossing_51    u else f_X8_noteCrossing_35   v1 u)) else f_X8_noteCrossing_51    u)
set_option maxRecDepth 20000 in
theorem c_X8_noteCrossing (ad : Nat → Nat) (v1 : Int32) (v2 : Int32)   (u : S2) (w : S2) (hf : f_X8_noteCrossing v1 v2 u = some w) : HV yX8_noteCrossing cX8_noteCrossing 3 none 1 14 ad [.ref (ad 24), .int v1, .int v2] u w := by
  refine HV_of (by decide) (Nat.le_of_ble_eq_true rfl) (fun K C hR E => ?_)
  refine r_sub [(0, .ref (ad 24)), (1, .int v1), (2, .int v2)] [0, 1, 2] rfl ?_
  unfold f_X8_noteCrossing at hf
  refine r_aload_n 1 0 C dX8_noteCrossing_0 rfl rfl rfl ?_
  refine r_get 4 24 1 C inX8 (wd_24 ad u) rfl (by decide) tw_206 rfl rfl dX8_noteCrossing_1 rfl ?_
  refine r_iconst (v := -1) 5 C dX8_noteCrossing_4 (by decide) rfl ?_
  refine r_icmp_ne 8 51 C dX8_noteCrossing_5 (by decide) rfl (fun c0 => ?_) (fun c0 => ?_)
  · have hf := ifF c0 hf
    refine r_sub [(0, .ref (ad 24))] [0] rfl ?_
    exact w_X8_noteCrossing_51 C hR E     u hf
  · have hf := ifT c0 hf
    refine r_iload_n 9 2 C dX8_noteCrossing_8 rfl rfl rfl ?_
    refine r_if_le 12 25 C dX8_noteCrossing_9 (by decide) rfl (fun c1 => ?_) (fun c1 => ?_)
    · have hf := ifT c1 hf
      refine r_aload_n 26 0 C dX8_noteCrossing_25 rfl rfl rfl ?_
      refine r_get 29 24 0 C inX8 (wd_24 ad u) rfl (by decide) tw_205 rfl rfl dX8_noteCrossing_26 rfl ?_
      refine r_getN 32 16 4 C inX4 (wd_P ad u (by decide) (by decide)) rfl (by decide) tn_78 rfl rfl dX8_noteCrossing_29 rfl ?_
      refine r_if_lt 35 51 C dX8_noteCrossing_32 (by decide) rfl (fun c2 => ?_) (fun c2 => ?_)
      · have hf := ifT c2 hf
        refine r_sub [(0, .ref (ad 24))] [0] rfl ?_
        exact w_X8_noteCrossing_51 C hR E     u hf
      · have hf := ifF c2 hf
        refine r_sub [(0, .ref (ad 24)), (1, .int v1)] [0, 1] rfl ?_
        exact w_X8_noteCrossing_35 C hR E   v1  u hf
    · have hf := ifF c1 hf
      refine r_aload_n 13 0 C dX8_noteCrossing_12 rfl rfl rfl ?_
      refine r_get 16 24 0 C inX8 (wd_24 ad u) rfl (by decide) tw_205 rfl rfl dX8_noteCrossing_13 rfl ?_
      refine r_getN 19 16 4 C inX4 (wd_P ad u (by decide) (by decide)) rfl (by decide) tn_78 rfl rfl dX8_noteCrossing_16 rfl ?_
      refine r_if_gt 22 51 C dX8_noteCrossing_19 (by decide) rfl (fun c3 => ?_) (fun c3 => ?_)
      · have hf := ifT c3 hf
        refine r_sub [(0, .ref (ad 24))] [0] rfl ?_
        exact w_X8_noteCrossing_51 C hR E     u hf
      · have hf := ifF c3 hf
        refine r_goto 35 C dX8_noteCrossing_22 (by decide) ?_
        refine r_sub [(0, .ref (ad 24)), (1, .int v1)] [0, 1] rfl ?_
        exact w_X8_noteCrossing_35 C hR E   v1  u hf
def f_X8_letSwing_39  : Nat → Int32 → Int32 → Int32 → Int32 → S2 → Option (S2)
  | 0, _, _, _, _, _ => none
  | n + 1, v2, v3, v4, v5, u => (if (600 : Int32) < v5 then some u else bv (f_X4_sway (16) v2 (u 16 4) (0 : Int32) v4 u) (fun u0 => bv (f_X8_noteRest v5 u0) (fun u1 => bv (f_X8_noteCrossing v5 v3 u1) (fun u2 => nm (v5 + (1 : Int32)) (fun x0 => f_X8_letSwing_39  n v2 v3 v4 x0 u2)))))
theorem f_X8_letSwing_39_e  (n : Nat) (v2 : Int32) (v3 : Int32) (v4 : Int32) (v5 : Int32) (u : S2) : f_X8_letSwing_39  (n + 1) v2 v3 v4 v5 u = (if (600 : Int32) < v5 then some u else bv (f_X4_sway (16) v2 (u 16 4) (0 : Int32) v4 u) (fun u0 => bv (f_X8_noteRest v5 u0) (fun u1 => bv (f_X8_noteCrossing v5 v3 u1) (fun u2 => nm (v5 + (1 : Int32)) (fun x0 => f_X8_letSwing_39  n v2 v3 v4 x0 u2))))) := rfl
set_option maxRecDepth 20000 in
theorem w_X8_letSwing_39 {K : Ctx} {ad : Nat → Nat} (C : Cx K ad cX8_letSwing 6 yX8_letSwing.cls none) (hR : Rm K 3 66) {w : S2} (E : EV K ad w)  : ∀ (n : Nat) (v2 : Int32) (v3 : Int32) (v4 : Int32) (v5 : Int32)     (u : S2) (hf : f_X8_letSwing_39  n v2 v3 v4 v5 u = some w), RW K ad 6 39 [(0, .ref (ad 24)), (2, .int v2), (3, .int v3), (4, .int v4), (5, .int v5)] [] u := by
  intro n
  induction n with
  | zero => intro v2 v3 v4 v5     u hf; cases hf
  | succ n ih =>
    intro v2 v3 v4 v5     u hf
    rw [f_X8_letSwing_39_e] at hf
    refine r_iload 41 4 C dX8_letSwing_39 rfl rfl ?_
    refine r_sipush (v := 600) 44 C dX8_letSwing_41 (by decide) rfl ?_
    refine r_icmp_gt 47 84 C dX8_letSwing_44 (by decide) rfl (fun c0 => ?_) (fun c0 => ?_)
    · have hf := ifT c0 hf
      exact r_vret C E (so_of hf) dX8_letSwing_84
    · have hf := ifF c0 hf
      refine r_aload_n 48 0 C dX8_letSwing_47 rfl rfl rfl ?_
      refine r_get 51 24 0 C inX8 (wd_24 ad u) rfl (by decide) tw_205 rfl rfl dX8_letSwing_48 rfl ?_
      refine r_iload_n 52 1 C dX8_letSwing_51 rfl rfl rfl ?_
      refine r_aload_n 53 0 C dX8_letSwing_52 rfl rfl rfl ?_
      refine r_get 56 24 0 C inX8 (wd_24 ad u) rfl (by decide) tw_205 rfl rfl dX8_letSwing_53 rfl ?_
      refine r_getN 59 16 4 C inX4 (wd_P ad u (by decide) (by decide)) rfl (by decide) tn_78 rfl rfl dX8_letSwing_56 rfl ?_
      refine r_iconst (v := 0) 60 C dX8_letSwing_59 (by decide) rfl ?_
      refine r_iload 62 3 C dX8_letSwing_60 rfl rfl ?_
      obtain ⟨u0, h0, hf⟩ := bv_of hf
      refine r_cVNV 65 [.int v2, .int (u 16 4), .int (0 : Int32), .int v4] C hR (c_X4_sway ad (16) v2 (u 16 4) (0 : Int32) v4 (by decide) (by decide)     u u0 h0) q_X4_sway tn_667 (wd_P ad u (by decide) (by decide)) rfl rfl tw_514 tp_11 (Nat.le_of_ble_eq_true rfl) (Nat.le_of_ble_eq_true rfl) rfl rfl (Nat.le_of_ble_eq_true rfl) dX8_letSwing_62 rfl ?_
      refine r_aload_n 66 0 C dX8_letSwing_65 rfl rfl rfl ?_
      refine r_iload 68 4 C dX8_letSwing_66 rfl rfl ?_
      obtain ⟨u1, h1, hf⟩ := bv_of hf
      refine r_cVV 71 [.int v5] C hR (c_X8_noteRest ad v5   u0 u1 h1) q_X8_noteRest tw_662 (wd_24 ad u0) rfl rfl tw_664 tp_23 (Nat.le_of_ble_eq_true rfl) (Nat.le_of_ble_eq_true rfl) rfl rfl (Nat.le_of_ble_eq_true rfl) dX8_letSwing_68 rfl ?_
      refine r_aload_n 72 0 C dX8_letSwing_71 rfl rfl rfl ?_
      refine r_iload 74 4 C dX8_letSwing_72 rfl rfl ?_
      refine r_iload_n 75 2 C dX8_letSwing_74 rfl rfl rfl ?_
      obtain ⟨u2, h2, hf⟩ := bv_of hf
      refine r_cVV 78 [.int v5, .int v3] C hR (c_X8_noteCrossing ad v5 v3    u1 u2 h2) q_X8_noteCrossing tw_668 (wd_24 ad u1) rfl rfl tw_670 tp_24 (Nat.le_of_ble_eq_true rfl) (Nat.le_of_ble_eq_true rfl) rfl rfl (Nat.le_of_ble_eq_true rfl) dX8_letSwing_75 rfl ?_
      obtain ⟨x0, ex0, hf⟩ := nm_of hf
      refine r_iinc (v := x0) 81 4 [(0, .ref (ad 24)), (2, .int v2), (3, .int v3), (4, .int v4), (5, .int x0)] [1, 2, 3, 4, 0] C dX8_letSwing_78 rfl (by rw [ex0]; rfl) (by decide) rfl rfl ?_
      refine r_goto 39 C dX8_letSwing_81 (by decide) ?_
      refine r_sub [(0, .ref (ad 24)), (2, .int v2), (3, .int v3), (4, .int v4), (5, .int x0)] [0, 1, 2, 3, 4] rfl ?_
      exact ih v2 v3 v4 x0     u2 hf
def f_X8_letSwing (k1 : Nat) (v2 : Int32) (v3 : Int32) (v4 : Int32) (u : S2) : Option (S2) := bv (f_X4_copyFrom (16) k1 u) (fun u0 => bv (f_X4_layAt (16) v3 u0) (fun u1 => nm (wr u1 24 1 (-1 : Int32)) (fun u2 => nm (wr u2 24 2 (0 : Int32)) (fun u3 => nm (wr u3 24 3 (-1 : Int32)) (fun u4 => bv (f_X8_noteRest (0 : Int32) u4) (fun u5 => f_X8_letSwing_39  FUEL v2 v3 v4 (1 : Int32) u5))))))
set_option maxRecDepth 20000 in
theorem c_X8_letSwing (ad : Nat → Nat) (k1 : Nat) (v2 : Int32) (v3 : Int32) (v4 : Int32) (k1a : 10 ≤ k1) (k1b : k1 < 18)    (u : S2) (w : S2) (hf : f_X8_letSwing k1 v2 v3 v4 u = some w) : HV yX8_letSwing cX8_letSwing 6 none 3 66 ad [.ref (ad 24), .ref (ad k1), .int v2, .int v3, .int v4] u w := by
  refine HV_of (by decide) (Nat.le_of_ble_eq_true rfl) (fun K C hR E => ?_)
  refine r_sub [(0, .ref (ad 24)), (1, .ref (ad k1)), (2, .int v2), (3, .int v3), (4, .int v4)] [0, 1, 2, 3, 4] rfl ?_
  unfold f_X8_letSwing at hf
  refine r_aload_n 1 0 C dX8_letSwing_0 rfl rfl rfl ?_
  refine r_get 4 24 0 C inX8 (wd_24 ad u) rfl (by decide) tw_205 rfl rfl dX8_letSwing_1 rfl ?_
  refine r_aload_n 5 1 C dX8_letSwing_4 rfl rfl rfl ?_
  obtain ⟨u0, h0, hf⟩ := bv_of hf
  refine r_cVNV 8 [.ref (ad k1)] C hR (c_X4_copyFrom ad (16) k1 (by decide) (by decide) k1a k1b u u0 h0) q_X4_copyFrom tn_657 (wd_P ad u (by decide) (by decide)) rfl rfl tw_659 tp_22 (Nat.le_of_ble_eq_true rfl) (Nat.le_of_ble_eq_true rfl) rfl rfl (Nat.le_of_ble_eq_true rfl) dX8_letSwing_5 rfl ?_
  refine r_aload_n 9 0 C dX8_letSwing_8 rfl rfl rfl ?_
  refine r_get 12 24 0 C inX8 (wd_24 ad u0) rfl (by decide) tw_205 rfl rfl dX8_letSwing_9 rfl ?_
  refine r_iload_n 13 3 C dX8_letSwing_12 rfl rfl rfl ?_
  obtain ⟨u1, h1, hf⟩ := bv_of hf
  refine r_cVNV 16 [.int v3] C hR (c_X4_layAt ad (16) v3 (by decide) (by decide)  u0 u1 h1) q_X4_layAt tn_661 (wd_P ad u0 (by decide) (by decide)) rfl rfl tw_396 tp_2 (Nat.le_of_ble_eq_true rfl) (Nat.le_of_ble_eq_true rfl) rfl rfl (Nat.le_of_ble_eq_true rfl) dX8_letSwing_13 rfl ?_
  refine r_aload_n 17 0 C dX8_letSwing_16 rfl rfl rfl ?_
  refine r_iconst (v := -1) 18 C dX8_letSwing_17 (by decide) rfl ?_
  refine r_put 21 24 1 C inX8 tyX8_ok nmX8 (wd_24 ad u1) (sF_24_1 ad u1 (-1 : Int32)) rfl (by decide) tw_206 rfl rfl (tyX8_ok 1 (by decide)) rfl rfl (Nat.le_of_ble_eq_true rfl) dX8_letSwing_18 rfl ?_
  obtain ⟨u2, eu2, hf⟩ := nm_of hf
  refine r_st eu2 ?_
  refine r_aload_n 22 0 C dX8_letSwing_21 rfl rfl rfl ?_
  refine r_iconst (v := 0) 23 C dX8_letSwing_22 (by decide) rfl ?_
  refine r_put 26 24 2 C inX8 tyX8_ok nmX8 (wd_24 ad u2) (sF_24_2 ad u2 (0 : Int32)) rfl (by decide) tw_208 rfl rfl (tyX8_ok 2 (by decide)) rfl rfl (Nat.le_of_ble_eq_true rfl) dX8_letSwing_23 rfl ?_
  obtain ⟨u3, eu3, hf⟩ := nm_of hf
  refine r_st eu3 ?_
  refine r_aload_n 27 0 C dX8_letSwing_26 rfl rfl rfl ?_
  refine r_iconst (v := -1) 28 C dX8_letSwing_27 (by decide) rfl ?_
  refine r_put 31 24 3 C inX8 tyX8_ok nmX8 (wd_24 ad u3) (sF_24_3 ad u3 (-1 : Int32)) rfl (by decide) tw_210 rfl rfl (tyX8_ok 3 (by decide)) rfl rfl (Nat.le_of_ble_eq_true rfl) dX8_letSwing_28 rfl ?_
  obtain ⟨u4, eu4, hf⟩ := nm_of hf
  refine r_st eu4 ?_
  refine r_aload_n 32 0 C dX8_letSwing_31 rfl rfl rfl ?_
  refine r_iconst (v := 0) 33 C dX8_letSwing_32 (by decide) rfl ?_
  obtain ⟨u5, h2, hf⟩ := bv_of hf
  refine r_cVV 36 [.int (0 : Int32)] C hR (c_X8_noteRest ad (0 : Int32)   u4 u5 h2) q_X8_noteRest tw_662 (wd_24 ad u4) rfl rfl tw_664 tp_23 (Nat.le_of_ble_eq_true rfl) (Nat.le_of_ble_eq_true rfl) rfl rfl (Nat.le_of_ble_eq_true rfl) dX8_letSwing_33 rfl ?_
  refine r_iconst (v := 1) 37 C dX8_letSwing_36 (by decide) rfl ?_
  refine r_istore 39 [(0, .ref (ad 24)), (1, .ref (ad k1)), (2, .int v2), (3, .int v3), (4, .int v4), (5, .int (1 : Int32))] [1, 2, 3, 4, 5, 0] C dX8_letSwing_37 (by decide) rfl rfl ?_
  refine r_sub [(0, .ref (ad 24)), (2, .int v2), (3, .int v3), (4, .int v4), (5, .int (1 : Int32))] [0, 2, 3, 4, 5] rfl ?_
  exact w_X8_letSwing_39 C hR E  FUEL v2 v3 v4 (1 : Int32)     u5 hf
def f_X11_swing (v1 : Int32) (v2 : Int32) (v3 : Int32) (v4 : Int32) (u : S2) : Option (Int32 × S2) := bq (f_X7_pointerAt_5 v1 u) (fun p0 u0 => match p0 with | none => some ((-2 : Int32), u0) | some kp0 => bd (f_X11_isWithin v2 (-9000 : Int32) (9000 : Int32) u0) (fun r0 u1 => (if r0 = 0 then some ((-3 : Int32), u1) else (if v2 = 0 then some ((-3 : Int32), u1) else bd (f_X11_isWithin v4 (0 : Int32) (2 : Int32) u1) (fun r1 u2 => (if r1 = 0 then some ((-3 : Int32), u2) else bd (f_X11_holdOf (u2 5 3) u2) (fun r2 u3 => bv (f_X8_letSwing kp0 r2 v2 v3 u3) (fun u4 => (if v4 = 0 then some (u4 24 1, u4) else (if v4 = (2 : Int32) then some (u4 24 3, u4) else (if (u4 24 1) = (-1 : Int32) then some ((-1 : Int32), u4) else some ((u4 24 2) + (50000 : Int32), u4))))))))))))
set_option maxRecDepth 20000 in
theorem c_X11_swing (ad : Nat → Nat) (v1 : Int32) (v2 : Int32) (v3 : Int32) (v4 : Int32)     (u : S2) (r : Int32) (w : S2) (hf : f_X11_swing v1 v2 v3 v4 u = some (r, w)) : HI yX11_swing cX11_swing 6 (some .int) 4 91 ad [.ref (ad 0), .int v1, .int v2, .int v3, .int v4] u r w := by
  refine HI_of (by decide) (Nat.le_of_ble_eq_true rfl) (fun K C hR E => ?_)
  refine r_sub [(0, .ref (ad 0)), (1, .int v1), (2, .int v2), (3, .int v3), (4, .int v4)] [0, 1, 2, 3, 4] rfl ?_
  unfold f_X11_swing at hf
  refine r_aload_n 1 0 C dX11_swing_0 rfl rfl rfl ?_
  refine r_get 4 0 2 C inX11 (wd_0 ad u) rfl (by decide) tw_320 rfl rfl dX11_swing_1 rfl ?_
  refine r_iload_n 5 1 C dX11_swing_4 rfl rfl rfl ?_
  obtain ⟨p0, u0, h0, hf⟩ := bq_of hf
  refine r_cVNQ 8 [.int v1] C hR (c_X7_pointerAt_5 ad v1   u p0 u0 h0) q_X7_pointerAt tn_389 (wd_5 ad u) rfl rfl tw_391 tp_1 (Nat.le_of_ble_eq_true rfl) (Nat.le_of_ble_eq_true rfl) rfl rfl (Nat.le_of_ble_eq_true rfl) dX11_swing_5 rfl ?_
  cases p0 with
  | none =>
    refine r_astoreN 10 [(0, .ref (ad 0)), (1, .int v1), (2, .int v2), (3, .int v3), (4, .int v4), (5, .null)] [1, 2, 3, 4, 5, 0] C dX11_swing_8 (by decide) rfl rfl ?_
    refine r_aloadN 12 5 C dX11_swing_10 rfl rfl ?_
    refine r_ifnonnullN 15 C dX11_swing_12 rfl ?_
    refine r_bipush (v := -2) 17 C dX11_swing_15 (by decide) rfl ?_
    exact r_iret C E (pr1 hf) (pr2 hf) dX11_swing_17
  | some kp0 =>
    obtain ⟨kp0a, kp0b⟩ := pa_X7_pointerAt_5 h0
    refine r_astore 10 [(0, .ref (ad 0)), (1, .int v1), (2, .int v2), (3, .int v3), (4, .int v4), (5, .ref (ad kp0))] [1, 2, 3, 4, 5, 0] C dX11_swing_8 (by decide) rfl rfl ?_
    refine r_aload 12 5 C dX11_swing_10 rfl rfl ?_
    refine r_ifnonnull 18 C dX11_swing_12 (by decide) ?_
    refine r_iload_n 19 2 C dX11_swing_18 rfl rfl rfl ?_
    refine r_sipush (v := -9000) 22 C dX11_swing_19 (by decide) rfl ?_
    refine r_sipush (v := 9000) 25 C dX11_swing_22 (by decide) rfl ?_
    obtain ⟨r0, u1, h1, hf⟩ := bd_of hf
    refine r_cSI 28 [.int v2, .int (-9000 : Int32), .int (9000 : Int32)] C hR (c_X11_isWithin ad v2 (-9000 : Int32) (9000 : Int32)    u0 r0 u1 h1) q_X11_isWithin tw_356 tw_357 (Nat.le_of_ble_eq_true rfl) (Nat.le_of_ble_eq_true rfl) rfl rfl (Nat.le_of_ble_eq_true rfl) dX11_swing_25 rfl ?_
    refine r_if_eq 31 45 C dX11_swing_28 (by decide) rfl (fun c0 => ?_) (fun c0 => ?_)
    · have hf := ifT c0 hf
      refine r_bipush (v := -3) 47 C dX11_swing_45 (by decide) rfl ?_
      exact r_iret C E (pr1 hf) (pr2 hf) dX11_swing_47
    · have hf := ifF c0 hf
      refine r_iload_n 32 2 C dX11_swing_31 rfl rfl rfl ?_
      refine r_if_eq 35 45 C dX11_swing_32 (by decide) rfl (fun c1 => ?_) (fun c1 => ?_)
      · have hf := ifT c1 hf
        refine r_bipush (v := -3) 47 C dX11_swing_45 (by decide) rfl ?_
        exact r_iret C E (pr1 hf) (pr2 hf) dX11_swing_47
      · have hf := ifF c1 hf
        refine r_iload 37 4 C dX11_swing_35 rfl rfl ?_
        refine r_iconst (v := 0) 38 C dX11_swing_37 (by decide) rfl ?_
        refine r_iconst (v := 2) 39 C dX11_swing_38 (by decide) rfl ?_
        obtain ⟨r1, u2, h2, hf⟩ := bd_of hf
        refine r_cSI 42 [.int v4, .int (0 : Int32), .int (2 : Int32)] C hR (c_X11_isWithin ad v4 (0 : Int32) (2 : Int32)    u1 r1 u2 h2) q_X11_isWithin tw_356 tw_357 (Nat.le_of_ble_eq_true rfl) (Nat.le_of_ble_eq_true rfl) rfl rfl (Nat.le_of_ble_eq_true rfl) dX11_swing_39 rfl ?_
        refine r_if_ne 45 48 C dX11_swing_42 (by decide) rfl (fun c2 => ?_) (fun c2 => ?_)
        · have hf := ifF c2 hf
          refine r_aload_n 49 0 C dX11_swing_48 rfl rfl rfl ?_
          refine r_get 52 0 5 C inX11 (wd_0 ad u2) rfl (by decide) tw_323 rfl rfl dX11_swing_49 rfl ?_
          refine r_aload 54 5 C dX11_swing_52 rfl rfl ?_
          refine r_aload_n 55 0 C dX11_swing_54 rfl rfl rfl ?_
          refine r_get 58 0 2 C inX11 (wd_0 ad u2) rfl (by decide) tw_320 rfl rfl dX11_swing_55 rfl ?_
          refine r_getN 61 5 3 C inX7 (wd_5 ad u2) rfl (by decide) tn_109 rfl rfl dX11_swing_58 rfl ?_
          obtain ⟨r2, u3, h3, hf⟩ := bd_of hf
          refine r_cSI 64 [.int (u2 5 3)] C hR (c_X11_holdOf ad (u2 5 3)  u2 r2 u3 h3) q_X11_holdOf tw_447 tw_448 (Nat.le_of_ble_eq_true rfl) (Nat.le_of_ble_eq_true rfl) rfl rfl (Nat.le_of_ble_eq_true rfl) dX11_swing_61 rfl ?_
          refine r_iload_n 65 2 C dX11_swing_64 rfl rfl rfl ?_
          refine r_iload_n 66 3 C dX11_swing_65 rfl rfl rfl ?_
          obtain ⟨u4, h4, hf⟩ := bv_of hf
          refine r_cVNV 69 [.ref (ad kp0), .int r2, .int v2, .int v3] C hR (c_X8_letSwing ad kp0 r2 v2 v3  kp0a kp0b    u3 u4 h4) q_X8_letSwing tn_653 (wd_24 ad u3) rfl rfl tw_655 tp_21 (Nat.le_of_ble_eq_true rfl) (Nat.le_of_ble_eq_true rfl) rfl rfl (Nat.le_of_ble_eq_true rfl) dX11_swing_66 rfl ?_
          refine r_iload 71 4 C dX11_swing_69 rfl rfl ?_
          refine r_if_ne 74 82 C dX11_swing_71 (by decide) rfl (fun c3 => ?_) (fun c3 => ?_)
          · have hf := ifF c3 hf
            refine r_iload 84 4 C dX11_swing_82 rfl rfl ?_
            refine r_iconst (v := 2) 85 C dX11_swing_84 (by decide) rfl ?_
            refine r_icmp_ne 88 96 C dX11_swing_85 (by decide) rfl (fun c4 => ?_) (fun c4 => ?_)
            · have hf := ifF c4 hf
              refine r_aload_n 97 0 C dX11_swing_96 rfl rfl rfl ?_
              refine r_get 100 0 5 C inX11 (wd_0 ad u4) rfl (by decide) tw_323 rfl rfl dX11_swing_97 rfl ?_
              refine r_getN 103 24 1 C inX8 (wd_24 ad u4) rfl (by decide) tn_207 rfl rfl dX11_swing_100 rfl ?_
              refine r_iconst (v := -1) 104 C dX11_swing_103 (by decide) rfl ?_
              refine r_icmp_ne 107 111 C dX11_swing_104 (by decide) rfl (fun c5 => ?_) (fun c5 => ?_)
              · have hf := ifF c5 hf
                refine r_aload_n 112 0 C dX11_swing_111 rfl rfl rfl ?_
                refine r_get 115 0 5 C inX11 (wd_0 ad u4) rfl (by decide) tw_323 rfl rfl dX11_swing_112 rfl ?_
                refine r_getN 118 24 2 C inX8 (wd_24 ad u4) rfl (by decide) tn_209 rfl rfl dX11_swing_115 rfl ?_
                refine r_ldc (v := 50000) 120 C tw_460 dX11_swing_118 rfl ?_
                refine r_iadd 121 C dX11_swing_120 rfl ?_
                exact r_iret C E (pr1 hf) (pr2 hf) dX11_swing_121
              · have hf := ifT c5 hf
                refine r_iconst (v := -1) 108 C dX11_swing_107 (by decide) rfl ?_
                refine r_goto 121 C dX11_swing_108 (by decide) ?_
                exact r_iret C E (pr1 hf) (pr2 hf) dX11_swing_121
            · have hf := ifT c4 hf
              refine r_aload_n 89 0 C dX11_swing_88 rfl rfl rfl ?_
              refine r_get 92 0 5 C inX11 (wd_0 ad u4) rfl (by decide) tw_323 rfl rfl dX11_swing_89 rfl ?_
              refine r_getN 95 24 3 C inX8 (wd_24 ad u4) rfl (by decide) tn_211 rfl rfl dX11_swing_92 rfl ?_
              exact r_iret C E (pr1 hf) (pr2 hf) dX11_swing_95
          · have hf := ifT c3 hf
            refine r_aload_n 75 0 C dX11_swing_74 rfl rfl rfl ?_
            refine r_get 78 0 5 C inX11 (wd_0 ad u4) rfl (by decide) tw_323 rfl rfl dX11_swing_75 rfl ?_
            refine r_getN 81 24 1 C inX8 (wd_24 ad u4) rfl (by decide) tn_207 rfl rfl dX11_swing_78 rfl ?_
            exact r_iret C E (pr1 hf) (pr2 hf) dX11_swing_81
        · have hf := ifT c2 hf
          refine r_bipush (v := -3) 47 C dX11_swing_45 (by decide) rfl ?_
          exact r_iret C E (pr1 hf) (pr2 hf) dX11_swing_47
def f_X8_firstPlaceWithoutRest_2  : Nat → Nat → Int32 → S2 → Option (Int32 × S2)
  | 0, _, _, _ => none
  | n + 1, k1, v2, u => (if (89 : Int32) < v2 then some ((-1 : Int32), u) else bd (f_X11_holdOf v2 u) (fun r0 u0 => bv (f_X8_letSwing k1 r0 (3000 : Int32) (1 : Int32) u0) (fun u1 => (if (u1 24 3) = (-1 : Int32) then some (v2, u1) else nm (v2 + (1 : Int32)) (fun x0 => f_X8_firstPlaceWithoutRest_2  n k1 x0 u1)))))
theorem f_X8_firstPlaceWithoutRest_2_e  (n : Nat) (k1 : Nat) (v2 : Int32) (u : S2) : f_X8_firstPlaceWithoutRest_2  (n + 1) k1 v2 u = (if (89 : Int32) < v2 then some ((-1 : Int32), u) else bd (f_X11_holdOf v2 u) (fun r0 u0 => bv (f_X8_letSwing k1 r0 (3000 : Int32) (1 : Int32) u0) (fun u1 => (if (u1 24 3) = (-1 : Int32) then some (v2, u1) else nm (v2 + (1 : Int32)) (fun x0 => f_X8_firstPlaceWithoutRest_2  n k1 x0 u1))))) := rfl
set_option maxRecDepth 20000 in
theorem w_X8_firstPlaceWithoutRest_2 {K : Ctx} {ad : Nat → Nat} (C : Cx K ad cX8_firstPlaceWithoutRest 3 yX8_firstPlaceWithoutRest.cls (some .int)) (hR : Rm K 4 91) {r : Int32} {w : S2} (E : EI K ad r w)  : ∀ (n : Nat) (k1 : Nat) (v2 : Int32) (k1a : 10 ≤ k1) (k1b : k1 < 18)  (u : S2) (hf : f_X8_firstPlaceWithoutRest_2  n k1 v2 u = some (r, w)), RW K ad 3 2 [(0, .ref (ad 24)), (1, .ref (ad k1)), (2, .int v2)] [] u := by
  intro n
  induction n with
  | zero => intro k1 v2 k1a k1b  u hf; cases hf
  | succ n ih =>
    intro k1 v2 k1a k1b  u hf
    rw [f_X8_firstPlaceWithoutRest_2_e] at hf
    refine r_iload_n 3 2 C dX8_firstPlaceWithoutRest_2 rfl rfl rfl ?_
    refine r_bipush (v := 89) 5 C dX8_firstPlaceWithoutRest_3 (by decide) rfl ?_
    refine r_icmp_gt 8 37 C dX8_firstPlaceWithoutRest_5 (by decide) rfl (fun c0 => ?_) (fun c0 => ?_)
    · have hf := ifT c0 hf
      refine r_iconst (v := -1) 38 C dX8_firstPlaceWithoutRest_37 (by decide) rfl ?_
      exact r_iret C E (pr1 hf) (pr2 hf) dX8_firstPlaceWithoutRest_38
    · have hf := ifF c0 hf
      refine r_aload_n 9 0 C dX8_firstPlaceWithoutRest_8 rfl rfl rfl ?_
      refine r_aload_n 10 1 C dX8_firstPlaceWithoutRest_9 rfl rfl rfl ?_
      refine r_iload_n 11 2 C dX8_firstPlaceWithoutRest_10 rfl rfl rfl ?_
      obtain ⟨r0, u0, h0, hf⟩ := bd_of hf
      refine r_cSNI 14 [.int v2] C hR (c_X11_holdOf ad v2  u r0 u0 h0) q_X11_holdOf tn_680 tw_448 (Nat.le_of_ble_eq_true rfl) (Nat.le_of_ble_eq_true rfl) rfl rfl (Nat.le_of_ble_eq_true rfl) dX8_firstPlaceWithoutRest_11 rfl ?_
      refine r_sipush (v := 3000) 17 C dX8_firstPlaceWithoutRest_14 (by decide) rfl ?_
      refine r_iconst (v := 1) 18 C dX8_firstPlaceWithoutRest_17 (by decide) rfl ?_
      obtain ⟨u1, h1, hf⟩ := bv_of hf
      refine r_cVV 21 [.ref (ad k1), .int r0, .int (3000 : Int32), .int (1 : Int32)] C hR (c_X8_letSwing ad k1 r0 (3000 : Int32) (1 : Int32)  k1a k1b    u0 u1 h1) q_X8_letSwing tw_681 (wd_24 ad u0) rfl rfl tw_655 tp_21 (Nat.le_of_ble_eq_true rfl) (Nat.le_of_ble_eq_true rfl) rfl rfl (Nat.le_of_ble_eq_true rfl) dX8_firstPlaceWithoutRest_18 rfl ?_
      refine r_aload_n 22 0 C dX8_firstPlaceWithoutRest_21 rfl rfl rfl ?_
      refine r_get 25 24 3 C inX8 (wd_24 ad u1) rfl (by decide) tw_210 rfl rfl dX8_firstPlaceWithoutRest_22 rfl ?_
      refine r_iconst (v := -1) 26 C dX8_firstPlaceWithoutRest_25 (by decide) rfl ?_
      refine r_icmp_ne 29 31 C dX8_firstPlaceWithoutRest_26 (by decide) rfl (fun c1 => ?_) (fun c1 => ?_)
      · have hf := ifF c1 hf
        obtain ⟨x0, ex0, hf⟩ := nm_of hf
        refine r_iinc (v := x0) 34 2 [(0, .ref (ad 24)), (1, .ref (ad k1)), (2, .int x0)] [1, 2, 0] C dX8_firstPlaceWithoutRest_31 rfl (by rw [ex0]; rfl) (by decide) rfl rfl ?_
        refine r_goto 2 C dX8_firstPlaceWithoutRest_34 (by decide) ?_
        refine r_sub [(0, .ref (ad 24)), (1, .ref (ad k1)), (2, .int x0)] [0, 1, 2] rfl ?_
        exact ih k1 x0 k1a k1b  u1 hf
      · have hf := ifT c1 hf
        refine r_iload_n 30 2 C dX8_firstPlaceWithoutRest_29 rfl rfl rfl ?_
        exact r_iret C E (pr1 hf) (pr2 hf) dX8_firstPlaceWithoutRest_30
def f_X8_firstPlaceWithoutRest (k1 : Nat) (u : S2) : Option (Int32 × S2) := f_X8_firstPlaceWithoutRest_2  FUEL k1 (0 : Int32) u
set_option maxRecDepth 20000 in
theorem c_X8_firstPlaceWithoutRest (ad : Nat → Nat) (k1 : Nat) (k1a : 10 ≤ k1) (k1b : k1 < 18) (u : S2) (r : Int32) (w : S2) (hf : f_X8_firstPlaceWithoutRest k1 u = some (r, w)) : HI yX8_firstPlaceWithoutRest cX8_firstPlaceWithoutRest 3 (some .int) 4 91 ad [.ref (ad 24), .ref (ad k1)] u r w := by
  refine HI_of (by decide) (Nat.le_of_ble_eq_true rfl) (fun K C hR E => ?_)
  refine r_sub [(0, .ref (ad 24)), (1, .ref (ad k1))] [0, 1] rfl ?_
  unfold f_X8_firstPlaceWithoutRest at hf
  refine r_iconst (v := 0) 1 C dX8_firstPlaceWithoutRest_0 (by decide) rfl ?_
  refine r_istore_n 2 [(0, .ref (ad 24)), (1, .ref (ad k1)), (2, .int (0 : Int32))] [1, 2, 0] C dX8_firstPlaceWithoutRest_1 rfl (by decide) rfl rfl ?_
  refine r_sub [(0, .ref (ad 24)), (1, .ref (ad k1)), (2, .int (0 : Int32))] [0, 1, 2] rfl ?_
  exact w_X8_firstPlaceWithoutRest_2 C hR E  FUEL k1 (0 : Int32) k1a k1b  u hf
def f_X11_noUse (v1 : Int32) (u : S2) : Option (Int32 × S2) := bq (f_X7_pointerAt_5 v1 u) (fun p0 u0 => match p0 with | none => some ((-2 : Int32), u0) | some kp0 => bd (f_X8_firstPlaceWithoutRest kp0 u0) (fun r0 u1 => some (r0, u1)))
set_option maxRecDepth 20000 in
theorem c_X11_noUse (ad : Nat → Nat) (v1 : Int32)  (u : S2) (r : Int32) (w : S2) (hf : f_X11_noUse v1 u = some (r, w)) : HI yX11_noUse cX11_noUse 3 (some .int) 5 113 ad [.ref (ad 0), .int v1] u r w := by
  refine HI_of (by decide) (Nat.le_of_ble_eq_true rfl) (fun K C hR E => ?_)
  refine r_sub [(0, .ref (ad 0)), (1, .int v1)] [0, 1] rfl ?_
  unfold f_X11_noUse at hf
  refine r_aload_n 1 0 C dX11_noUse_0 rfl rfl rfl ?_
  refine r_get 4 0 2 C inX11 (wd_0 ad u) rfl (by decide) tw_320 rfl rfl dX11_noUse_1 rfl ?_
  refine r_iload_n 5 1 C dX11_noUse_4 rfl rfl rfl ?_
  obtain ⟨p0, u0, h0, hf⟩ := bq_of hf
  refine r_cVNQ 8 [.int v1] C hR (c_X7_pointerAt_5 ad v1   u p0 u0 h0) q_X7_pointerAt tn_389 (wd_5 ad u) rfl rfl tw_391 tp_1 (Nat.le_of_ble_eq_true rfl) (Nat.le_of_ble_eq_true rfl) rfl rfl (Nat.le_of_ble_eq_true rfl) dX11_noUse_5 rfl ?_
  cases p0 with
  | none =>
    refine r_astore_nN 9 [(0, .ref (ad 0)), (1, .int v1), (2, .null)] [1, 2, 0] C dX11_noUse_8 rfl (by decide) rfl rfl ?_
    refine r_aload_nN 10 2 C dX11_noUse_9 rfl rfl rfl ?_
    refine r_ifnonnullN 13 C dX11_noUse_10 rfl ?_
    refine r_bipush (v := -2) 15 C dX11_noUse_13 (by decide) rfl ?_
    refine r_goto 26 C dX11_noUse_15 (by decide) ?_
    exact r_iret C E (pr1 hf) (pr2 hf) dX11_noUse_26
  | some kp0 =>
    obtain ⟨kp0a, kp0b⟩ := pa_X7_pointerAt_5 h0
    refine r_astore_n 9 [(0, .ref (ad 0)), (1, .int v1), (2, .ref (ad kp0))] [1, 2, 0] C dX11_noUse_8 rfl (by decide) rfl rfl ?_
    refine r_aload_n 10 2 C dX11_noUse_9 rfl rfl rfl ?_
    refine r_ifnonnull 18 C dX11_noUse_10 (by decide) ?_
    refine r_aload_n 19 0 C dX11_noUse_18 rfl rfl rfl ?_
    refine r_get 22 0 5 C inX11 (wd_0 ad u0) rfl (by decide) tw_323 rfl rfl dX11_noUse_19 rfl ?_
    refine r_aload_n 23 2 C dX11_noUse_22 rfl rfl rfl ?_
    obtain ⟨r0, u1, h1, hf⟩ := bd_of hf
    refine r_cVNI 26 [.ref (ad kp0)] C hR (c_X8_firstPlaceWithoutRest ad kp0  kp0a kp0b u0 r0 u1 h1) q_X8_firstPlaceWithoutRest tn_676 (wd_24 ad u0) rfl rfl tw_678 tp_25 (Nat.le_of_ble_eq_true rfl) (Nat.le_of_ble_eq_true rfl) rfl rfl (Nat.le_of_ble_eq_true rfl) dX11_noUse_23 rfl ?_
    exact r_iret C E (pr1 hf) (pr2 hf) dX11_noUse_26
def f_X11_isTrial (v0 : Int32) (u : S2) : Option (Int32 × S2) := bd (f_X11_isWithin v0 (1 : Int32) (300 : Int32) u) (fun r0 u0 => ck (isB r0) (some (r0, u0)))
set_option maxRecDepth 20000 in
theorem c_X11_isTrial (ad : Nat → Nat) (v0 : Int32)  (u : S2) (r : Int32) (w : S2) (hf : f_X11_isTrial v0 u = some (r, w)) : HI yX11_isTrial cX11_isTrial 1 (some .boolean) 1 22 ad [.int v0] u r w := by
  refine HI_of (by decide) (Nat.le_of_ble_eq_true rfl) (fun K C hR E => ?_)
  refine r_sub [(0, .int v0)] [0] rfl ?_
  unfold f_X11_isTrial at hf
  refine r_iload_n 1 0 C dX11_isTrial_0 rfl rfl rfl ?_
  refine r_iconst (v := 1) 2 C dX11_isTrial_1 (by decide) rfl ?_
  refine r_sipush (v := 300) 5 C dX11_isTrial_2 (by decide) rfl ?_
  obtain ⟨r0, u0, h0, hf⟩ := bd_of hf
  refine r_cSI 8 [.int v0, .int (1 : Int32), .int (300 : Int32)] C hR (c_X11_isWithin ad v0 (1 : Int32) (300 : Int32)    u r0 u0 h0) q_X11_isWithin tw_356 tw_357 (Nat.le_of_ble_eq_true rfl) (Nat.le_of_ble_eq_true rfl) rfl rfl (Nat.le_of_ble_eq_true rfl) dX11_isTrial_5 rfl ?_
  obtain ⟨hc0, hf⟩ := ck_of hf
  exact r_zret C E (isB_nar hc0) (pr1 hf) (pr2 hf) dX11_isTrial_8
def f_X11_isQuickTurn (v0 : Int32) (v1 : Int32) (v2 : Int32) (u : S2) : Option (Int32 × S2) := bd (f_X11_isTrial v0 u) (fun r0 u0 => (if r0 = 0 then some ((0 : Int32), u0) else bd (f_X11_isWithin v1 (0 : Int32) v0 u0) (fun r1 u1 => (if r1 = 0 then some ((0 : Int32), u1) else bd (f_X11_isTurn v2 u1) (fun r2 u2 => (if r2 = 0 then some ((0 : Int32), u2) else some ((1 : Int32), u2)))))))
set_option maxRecDepth 20000 in
theorem c_X11_isQuickTurn (ad : Nat → Nat) (v0 : Int32) (v1 : Int32) (v2 : Int32)    (u : S2) (r : Int32) (w : S2) (hf : f_X11_isQuickTurn v0 v1 v2 u = some (r, w)) : HI yX11_isQuickTurn cX11_isQuickTurn 3 (some .boolean) 2 42 ad [.int v0, .int v1, .int v2] u r w := by
  refine HI_of (by decide) (Nat.le_of_ble_eq_true rfl) (fun K C hR E => ?_)
  refine r_sub [(0, .int v0), (1, .int v1), (2, .int v2)] [0, 1, 2] rfl ?_
  unfold f_X11_isQuickTurn at hf
  refine r_iload_n 1 0 C dX11_isQuickTurn_0 rfl rfl rfl ?_
  obtain ⟨r0, u0, h0, hf⟩ := bd_of hf
  refine r_cSI 4 [.int v0] C hR (c_X11_isTrial ad v0  u r0 u0 h0) q_X11_isTrial tw_689 tw_690 (Nat.le_of_ble_eq_true rfl) (Nat.le_of_ble_eq_true rfl) rfl rfl (Nat.le_of_ble_eq_true rfl) dX11_isQuickTurn_1 rfl ?_
  refine r_if_eq 7 27 C dX11_isQuickTurn_4 (by decide) rfl (fun c0 => ?_) (fun c0 => ?_)
  · have hf := ifT c0 hf
    refine r_iconst (v := 0) 28 C dX11_isQuickTurn_27 (by decide) rfl ?_
    exact r_zret C E rfl (pr1 hf) (pr2 hf) dX11_isQuickTurn_28
  · have hf := ifF c0 hf
    refine r_iload_n 8 1 C dX11_isQuickTurn_7 rfl rfl rfl ?_
    refine r_iconst (v := 0) 9 C dX11_isQuickTurn_8 (by decide) rfl ?_
    refine r_iload_n 10 0 C dX11_isQuickTurn_9 rfl rfl rfl ?_
    obtain ⟨r1, u1, h1, hf⟩ := bd_of hf
    refine r_cSI 13 [.int v1, .int (0 : Int32), .int v0] C hR (c_X11_isWithin ad v1 (0 : Int32) v0    u0 r1 u1 h1) q_X11_isWithin tw_356 tw_357 (Nat.le_of_ble_eq_true rfl) (Nat.le_of_ble_eq_true rfl) rfl rfl (Nat.le_of_ble_eq_true rfl) dX11_isQuickTurn_10 rfl ?_
    refine r_if_eq 16 27 C dX11_isQuickTurn_13 (by decide) rfl (fun c1 => ?_) (fun c1 => ?_)
    · have hf := ifT c1 hf
      refine r_iconst (v := 0) 28 C dX11_isQuickTurn_27 (by decide) rfl ?_
      exact r_zret C E rfl (pr1 hf) (pr2 hf) dX11_isQuickTurn_28
    · have hf := ifF c1 hf
      refine r_iload_n 17 2 C dX11_isQuickTurn_16 rfl rfl rfl ?_
      obtain ⟨r2, u2, h2, hf⟩ := bd_of hf
      refine r_cSI 20 [.int v2] C hR (c_X11_isTurn ad v2  u1 r2 u2 h2) q_X11_isTurn tw_374 tw_375 (Nat.le_of_ble_eq_true rfl) (Nat.le_of_ble_eq_true rfl) rfl rfl (Nat.le_of_ble_eq_true rfl) dX11_isQuickTurn_17 rfl ?_
      refine r_if_eq 23 27 C dX11_isQuickTurn_20 (by decide) rfl (fun c2 => ?_) (fun c2 => ?_)
      · have hf := ifT c2 hf
        refine r_iconst (v := 0) 28 C dX11_isQuickTurn_27 (by decide) rfl ?_
        exact r_zret C E rfl (pr1 hf) (pr2 hf) dX11_isQuickTurn_28
      · have hf := ifF c2 hf
        refine r_iconst (v := 1) 24 C dX11_isQuickTurn_23 (by decide) rfl ?_
        refine r_goto 28 C dX11_isQuickTurn_24 (by decide) ?_
        exact r_zret C E rfl (pr1 hf) (pr2 hf) dX11_isQuickTurn_28
def f_X8_disturbed_62 (z30 : Int32 → Int32 → Int32 → Int32 → Int32 → Int32 → S2 → Option (Int32 × S2)) (v3 : Int32) (v4 : Int32) (v5 : Int32) (v6 : Int32) (v7 : Int32) (v8 : Int32) (t1 : Int32) (t2 : Int32) (t3 : Int32) (u : S2) : Option (Int32 × S2) := bv (f_X4_sway (16) t1 t2 t3 (1 : Int32) u) (fun u0 => nm (jabs (u0 16 4)) (fun x0 => nm (jmax v7 x0) (fun x1 => nm (v8 + (1 : Int32)) (fun x2 => z30 v3 v4 v5 v6 x1 x2 u0))))
set_option maxRecDepth 20000 in
theorem w_X8_disturbed_62 {K : Ctx} {ad : Nat → Nat} (C : Cx K ad cX8_disturbed 9 yX8_disturbed.cls (some .int)) (hR : Rm K 3 66) {r : Int32} {w : S2} (E : EI K ad r w) (z30 : Int32 → Int32 → Int32 → Int32 → Int32 → Int32 → S2 → Option (Int32 × S2)) (hz30 : ∀ (v3 : Int32) (v4 : Int32) (v5 : Int32) (v6 : Int32) (v7 : Int32) (v8 : Int32)       (u : S2), z30 v3 v4 v5 v6 v7 v8 u = some (r, w) → RW K ad 9 30 [(0, .ref (ad 24)), (3, .int v3), (4, .int v4), (5, .int v5), (6, .int v6), (7, .int v7), (8, .int v8)] [] u) (v3 : Int32) (v4 : Int32) (v5 : Int32) (v6 : Int32) (v7 : Int32) (v8 : Int32) (t1 : Int32) (t2 : Int32) (t3 : Int32)          (u : S2) (hf : f_X8_disturbed_62 z30 v3 v4 v5 v6 v7 v8 t1 t2 t3 u = some (r, w)) : RW K ad 9 62 [(0, .ref (ad 24)), (3, .int v3), (4, .int v4), (5, .int v5), (6, .int v6), (7, .int v7), (8, .int v8)] [.int t3, .int t2, .int t1, .ref (ad 16)] u := by
  unfold f_X8_disturbed_62 at hf
  refine r_iconst (v := 1) 63 C dX8_disturbed_62 (by decide) rfl ?_
  obtain ⟨u0, h0, hf⟩ := bv_of hf
  refine r_cVNV 66 [.int t1, .int t2, .int t3, .int (1 : Int32)] C hR (c_X4_sway ad (16) t1 t2 t3 (1 : Int32) (by decide) (by decide)     u u0 h0) q_X4_sway tn_667 (wd_P ad u (by decide) (by decide)) rfl rfl tw_514 tp_11 (Nat.le_of_ble_eq_true rfl) (Nat.le_of_ble_eq_true rfl) rfl rfl (Nat.le_of_ble_eq_true rfl) dX8_disturbed_63 rfl ?_
  refine r_iload 68 5 C dX8_disturbed_66 rfl rfl ?_
  refine r_aload_n 69 0 C dX8_disturbed_68 rfl rfl rfl ?_
  refine r_get 72 24 0 C inX8 (wd_24 ad u0) rfl (by decide) tw_205 rfl rfl dX8_disturbed_69 rfl ?_
  refine r_getN 75 16 4 C inX4 (wd_P ad u0 (by decide) (by decide)) rfl (by decide) tn_78 rfl rfl dX8_disturbed_72 rfl ?_
  refine r_mabs 78 C hR tw_666 tw_451 tw_15 tw_452 (Nat.le_of_ble_eq_true rfl) (Nat.le_of_ble_eq_true rfl) dX8_disturbed_75 rfl ?_
  obtain ⟨x0, ex0, hf⟩ := nm_of hf
  refine r_nm ex0 ?_
  refine r_mmax 81 C hR tw_696 tw_494 tw_15 tw_495 (Nat.le_of_ble_eq_true rfl) (Nat.le_of_ble_eq_true rfl) dX8_disturbed_78 rfl ?_
  obtain ⟨x1, ex1, hf⟩ := nm_of hf
  refine r_nm ex1 ?_
  refine r_istore 83 [(0, .ref (ad 24)), (3, .int v3), (4, .int v4), (5, .int v5), (6, .int v6), (7, .int x1), (8, .int v8)] [1, 2, 3, 4, 5, 0, 6] C dX8_disturbed_81 (by decide) rfl rfl ?_
  obtain ⟨x2, ex2, hf⟩ := nm_of hf
  refine r_iinc (v := x2) 86 6 [(0, .ref (ad 24)), (3, .int v3), (4, .int v4), (5, .int v5), (6, .int v6), (7, .int x1), (8, .int x2)] [1, 2, 3, 4, 5, 6, 0] C dX8_disturbed_83 rfl (by rw [ex2]; rfl) (by decide) rfl rfl ?_
  refine r_goto 30 C dX8_disturbed_86 (by decide) ?_
  refine r_sub [(0, .ref (ad 24)), (3, .int v3), (4, .int v4), (5, .int v5), (6, .int v6), (7, .int x1), (8, .int x2)] [0, 1, 2, 3, 4, 5, 6] rfl ?_
  exact hz30 v3 v4 v5 v6 x1 x2       u0 hf
def f_X8_disturbed_30  : Nat → Int32 → Int32 → Int32 → Int32 → Int32 → Int32 → S2 → Option (Int32 × S2)
  | 0, _, _, _, _, _, _, _ => none
  | n + 1, v3, v4, v5, v6, v7, v8, u => (if v4 ≤ v8 then some (v7, u) else (if v5 ≤ v8 then f_X8_disturbed_62 (fun v3 v4 v5 v6 v7 v8 u => f_X8_disturbed_30  n v3 v4 v5 v6 v7 v8 u)  v3 v4 v5 v6 v7 v8 v3 (u 16 4) (0 : Int32) u else f_X8_disturbed_62 (fun v3 v4 v5 v6 v7 v8 u => f_X8_disturbed_30  n v3 v4 v5 v6 v7 v8 u)  v3 v4 v5 v6 v7 v8 v3 (u 16 4) v6 u))
theorem f_X8_disturbed_30_e  (n : Nat) (v3 : Int32) (v4 : Int32) (v5 : Int32) (v6 : Int32) (v7 : Int32) (v8 : Int32) (u : S2) : f_X8_disturbed_30  (n + 1) v3 v4 v5 v6 v7 v8 u = (if v4 ≤ v8 then some (v7, u) else (if v5 ≤ v8 then f_X8_disturbed_62 (fun v3 v4 v5 v6 v7 v8 u => f_X8_disturbed_30  n v3 v4 v5 v6 v7 v8 u)  v3 v4 v5 v6 v7 v8 v3 (u 16 4) (0 : Int32) u else f_X8_disturbed_62 (fun v3 v4 v5 v6 v7 v8 u => f_X8_disturbed_30  n v3 v4 v5 v6 v7 v8 u)  v3 v4 v5 v6 v7 v8 v3 (u 16 4) v6 u)) := rfl
set_option maxRecDepth 20000 in
theorem w_X8_disturbed_30 {K : Ctx} {ad : Nat → Nat} (C : Cx K ad cX8_disturbed 9 yX8_disturbed.cls (some .int)) (hR : Rm K 3 66) {r : Int32} {w : S2} (E : EI K ad r w)  : ∀ (n : Nat) (v3 : Int32) (v4 : Int32) (v5 : Int32) (v6 : Int32) (v7 : Int32) (v8 : Int32)       (u : S2) (hf : f_X8_disturbed_30  n v3 v4 v5 v6 v7 v8 u = some (r, w)), RW K ad 9 30 [(0, .ref (ad 24)), (3, .int v3), (4, .int v4), (5, .int v5), (6, .int v6), (7, .int v7), (8, .int v8)] [] u := by
  intro n
  induction n with
  | zero => intro v3 v4 v5 v6 v7 v8       u hf; cases hf
  | succ n ih =>
    intro v3 v4 v5 v6 v7 v8       u hf
    rw [f_X8_disturbed_30_e] at hf
    refine r_iload 32 6 C dX8_disturbed_30 rfl rfl ?_
    refine r_iload 34 2 C dX8_disturbed_32 rfl rfl ?_
    refine r_icmp_ge 37 89 C dX8_disturbed_34 (by decide) rfl (fun c0 => ?_) (fun c0 => ?_)
    · have hf := ifT c0 hf
      refine r_iload 91 5 C dX8_disturbed_89 rfl rfl ?_
      exact r_iret C E (pr1 hf) (pr2 hf) dX8_disturbed_91
    · have hf := ifF c0 hf
      refine r_aload_n 38 0 C dX8_disturbed_37 rfl rfl rfl ?_
      refine r_get 41 24 0 C inX8 (wd_24 ad u) rfl (by decide) tw_205 rfl rfl dX8_disturbed_38 rfl ?_
      refine r_iload_n 42 1 C dX8_disturbed_41 rfl rfl rfl ?_
      refine r_aload_n 43 0 C dX8_disturbed_42 rfl rfl rfl ?_
      refine r_get 46 24 0 C inX8 (wd_24 ad u) rfl (by decide) tw_205 rfl rfl dX8_disturbed_43 rfl ?_
      refine r_getN 49 16 4 C inX4 (wd_P ad u (by decide) (by decide)) rfl (by decide) tn_78 rfl rfl dX8_disturbed_46 rfl ?_
      refine r_iload 51 6 C dX8_disturbed_49 rfl rfl ?_
      refine r_iload 53 3 C dX8_disturbed_51 rfl rfl ?_
      refine r_icmp_ge 56 61 C dX8_disturbed_53 (by decide) rfl (fun c1 => ?_) (fun c1 => ?_)
      · have hf := ifT c1 hf
        refine r_iconst (v := 0) 62 C dX8_disturbed_61 (by decide) rfl ?_
        refine r_sub [(0, .ref (ad 24)), (3, .int v3), (4, .int v4), (5, .int v5), (6, .int v6), (7, .int v7), (8, .int v8)] [0, 1, 2, 3, 4, 5, 6] rfl ?_
        exact w_X8_disturbed_62 C hR E (fun v3 v4 v5 v6 v7 v8 u => f_X8_disturbed_30  n v3 v4 v5 v6 v7 v8 u) (fun v3 v4 v5 v6 v7 v8       u h => ih v3 v4 v5 v6 v7 v8       u h)  v3 v4 v5 v6 v7 v8 v3 (u 16 4) (0 : Int32)          u hf
      · have hf := ifF c1 hf
        refine r_iload 58 4 C dX8_disturbed_56 rfl rfl ?_
        refine r_goto 62 C dX8_disturbed_58 (by decide) ?_
        refine r_sub [(0, .ref (ad 24)), (3, .int v3), (4, .int v4), (5, .int v5), (6, .int v6), (7, .int v7), (8, .int v8)] [0, 1, 2, 3, 4, 5, 6] rfl ?_
        exact w_X8_disturbed_62 C hR E (fun v3 v4 v5 v6 v7 v8 u => f_X8_disturbed_30  n v3 v4 v5 v6 v7 v8 u) (fun v3 v4 v5 v6 v7 v8       u h => ih v3 v4 v5 v6 v7 v8       u h)  v3 v4 v5 v6 v7 v8 v3 (u 16 4) v6          u hf
def f_X8_disturbed (k1 : Nat) (v2 : Int32) (v3 : Int32) (v4 : Int32) (v5 : Int32) (v6 : Int32) (u : S2) : Option (Int32 × S2) := bv (f_X4_copyFrom (16) k1 u) (fun u0 => nm (wr u0 16 1 v2) (fun u1 => bv (f_X4_layAt (16) (0 : Int32) u1) (fun u2 => f_X8_disturbed_30  FUEL v3 v4 v5 v6 (0 : Int32) (0 : Int32) u2)))
set_option maxRecDepth 20000 in
theorem c_X8_disturbed (ad : Nat → Nat) (k1 : Nat) (v2 : Int32) (v3 : Int32) (v4 : Int32) (v5 : Int32) (v6 : Int32) (k1a : 10 ≤ k1) (k1b : k1 < 18)      (u : S2) (r : Int32) (w : S2) (hf : f_X8_disturbed k1 v2 v3 v4 v5 v6 u = some (r, w)) : HI yX8_disturbed cX8_disturbed 9 (some .int) 3 66 ad [.ref (ad 24), .ref (ad k1), .int v2, .int v3, .int v4, .int v5, .int v6] u r w := by
  refine HI_of (by decide) (Nat.le_of_ble_eq_true rfl) (fun K C hR E => ?_)
  refine r_sub [(0, .ref (ad 24)), (1, .ref (ad k1)), (2, .int v2), (3, .int v3), (4, .int v4), (5, .int v5), (6, .int v6)] [0, 1, 2, 3, 4, 5, 6] rfl ?_
  unfold f_X8_disturbed at hf
  refine r_aload_n 1 0 C dX8_disturbed_0 rfl rfl rfl ?_
  refine r_get 4 24 0 C inX8 (wd_24 ad u) rfl (by decide) tw_205 rfl rfl dX8_disturbed_1 rfl ?_
  refine r_aload_n 5 1 C dX8_disturbed_4 rfl rfl rfl ?_
  obtain ⟨u0, h0, hf⟩ := bv_of hf
  refine r_cVNV 8 [.ref (ad k1)] C hR (c_X4_copyFrom ad (16) k1 (by decide) (by decide) k1a k1b u u0 h0) q_X4_copyFrom tn_657 (wd_P ad u (by decide) (by decide)) rfl rfl tw_659 tp_22 (Nat.le_of_ble_eq_true rfl) (Nat.le_of_ble_eq_true rfl) rfl rfl (Nat.le_of_ble_eq_true rfl) dX8_disturbed_5 rfl ?_
  refine r_aload_n 9 0 C dX8_disturbed_8 rfl rfl rfl ?_
  refine r_get 12 24 0 C inX8 (wd_24 ad u0) rfl (by decide) tw_205 rfl rfl dX8_disturbed_9 rfl ?_
  refine r_iload_n 13 2 C dX8_disturbed_12 rfl rfl rfl ?_
  refine r_putN 16 16 1 C inX4 tyX4_ok nmX4 (wd_P ad u0 (by decide) (by decide)) (sP_1 ad u0 (by decide) (by decide) v2) rfl (by decide) tn_72 rfl rfl (tyX4_ok 1 (by decide)) rfl rfl (Nat.le_of_ble_eq_true rfl) dX8_disturbed_13 rfl ?_
  obtain ⟨u1, eu1, hf⟩ := nm_of hf
  refine r_st eu1 ?_
  refine r_aload_n 17 0 C dX8_disturbed_16 rfl rfl rfl ?_
  refine r_get 20 24 0 C inX8 (wd_24 ad u1) rfl (by decide) tw_205 rfl rfl dX8_disturbed_17 rfl ?_
  refine r_iconst (v := 0) 21 C dX8_disturbed_20 (by decide) rfl ?_
  obtain ⟨u2, h1, hf⟩ := bv_of hf
  refine r_cVNV 24 [.int (0 : Int32)] C hR (c_X4_layAt ad (16) (0 : Int32) (by decide) (by decide)  u1 u2 h1) q_X4_layAt tn_661 (wd_P ad u1 (by decide) (by decide)) rfl rfl tw_396 tp_2 (Nat.le_of_ble_eq_true rfl) (Nat.le_of_ble_eq_true rfl) rfl rfl (Nat.le_of_ble_eq_true rfl) dX8_disturbed_21 rfl ?_
  refine r_iconst (v := 0) 25 C dX8_disturbed_24 (by decide) rfl ?_
  refine r_istore 27 [(0, .ref (ad 24)), (1, .ref (ad k1)), (2, .int v2), (3, .int v3), (4, .int v4), (5, .int v5), (6, .int v6), (7, .int (0 : Int32))] [1, 2, 3, 4, 5, 6, 7, 0] C dX8_disturbed_25 (by decide) rfl rfl ?_
  refine r_iconst (v := 0) 28 C dX8_disturbed_27 (by decide) rfl ?_
  refine r_istore 30 [(0, .ref (ad 24)), (1, .ref (ad k1)), (2, .int v2), (3, .int v3), (4, .int v4), (5, .int v5), (6, .int v6), (7, .int (0 : Int32)), (8, .int (0 : Int32))] [1, 2, 3, 4, 5, 6, 7, 8, 0] C dX8_disturbed_28 (by decide) rfl rfl ?_
  refine r_sub [(0, .ref (ad 24)), (3, .int v3), (4, .int v4), (5, .int v5), (6, .int v6), (7, .int (0 : Int32)), (8, .int (0 : Int32))] [0, 3, 4, 5, 6, 7, 8] rfl ?_
  exact w_X8_disturbed_30 C hR E  FUEL v3 v4 v5 v6 (0 : Int32) (0 : Int32)       u2 hf
def f_X11_turned (v1 : Int32) (v2 : Int32) (v3 : Int32) (v4 : Int32) (u : S2) : Option (Int32 × S2) := bq (f_X7_pointerAt_5 v1 u) (fun p0 u0 => match p0 with | none => some ((-2 : Int32), u0) | some kp0 => bd (f_X11_isQuickTurn v2 v3 v4 u0) (fun r0 u1 => (if r0 = 0 then some ((-3 : Int32), u1) else bd (f_X11_holdOf (u1 5 3) u1) (fun r1 u2 => bd (f_X8_disturbed kp0 (u1 kp0 1) r1 v2 v3 v4 u2) (fun r2 u3 => some (r2, u3))))))
set_option maxRecDepth 20000 in
theorem c_X11_turned (ad : Nat → Nat) (v1 : Int32) (v2 : Int32) (v3 : Int32) (v4 : Int32)     (u : S2) (r : Int32) (w : S2) (hf : f_X11_turned v1 v2 v3 v4 u = some (r, w)) : HI yX11_turned cX11_turned 6 (some .int) 4 94 ad [.ref (ad 0), .int v1, .int v2, .int v3, .int v4] u r w := by
  refine HI_of (by decide) (Nat.le_of_ble_eq_true rfl) (fun K C hR E => ?_)
  refine r_sub [(0, .ref (ad 0)), (1, .int v1), (2, .int v2), (3, .int v3), (4, .int v4)] [0, 1, 2, 3, 4] rfl ?_
  unfold f_X11_turned at hf
  refine r_aload_n 1 0 C dX11_turned_0 rfl rfl rfl ?_
  refine r_get 4 0 2 C inX11 (wd_0 ad u) rfl (by decide) tw_320 rfl rfl dX11_turned_1 rfl ?_
  refine r_iload_n 5 1 C dX11_turned_4 rfl rfl rfl ?_
  obtain ⟨p0, u0, h0, hf⟩ := bq_of hf
  refine r_cVNQ 8 [.int v1] C hR (c_X7_pointerAt_5 ad v1   u p0 u0 h0) q_X7_pointerAt tn_389 (wd_5 ad u) rfl rfl tw_391 tp_1 (Nat.le_of_ble_eq_true rfl) (Nat.le_of_ble_eq_true rfl) rfl rfl (Nat.le_of_ble_eq_true rfl) dX11_turned_5 rfl ?_
  cases p0 with
  | none =>
    refine r_astoreN 10 [(0, .ref (ad 0)), (1, .int v1), (2, .int v2), (3, .int v3), (4, .int v4), (5, .null)] [1, 2, 3, 4, 5, 0] C dX11_turned_8 (by decide) rfl rfl ?_
    refine r_aloadN 12 5 C dX11_turned_10 rfl rfl ?_
    refine r_ifnonnullN 15 C dX11_turned_12 rfl ?_
    refine r_bipush (v := -2) 17 C dX11_turned_15 (by decide) rfl ?_
    exact r_iret C E (pr1 hf) (pr2 hf) dX11_turned_17
  | some kp0 =>
    obtain ⟨kp0a, kp0b⟩ := pa_X7_pointerAt_5 h0
    refine r_astore 10 [(0, .ref (ad 0)), (1, .int v1), (2, .int v2), (3, .int v3), (4, .int v4), (5, .ref (ad kp0))] [1, 2, 3, 4, 5, 0] C dX11_turned_8 (by decide) rfl rfl ?_
    refine r_aload 12 5 C dX11_turned_10 rfl rfl ?_
    refine r_ifnonnull 18 C dX11_turned_12 (by decide) ?_
    refine r_iload_n 19 2 C dX11_turned_18 rfl rfl rfl ?_
    refine r_iload_n 20 3 C dX11_turned_19 rfl rfl rfl ?_
    refine r_iload 22 4 C dX11_turned_20 rfl rfl ?_
    obtain ⟨r0, u1, h1, hf⟩ := bd_of hf
    refine r_cSI 25 [.int v2, .int v3, .int v4] C hR (c_X11_isQuickTurn ad v2 v3 v4    u0 r0 u1 h1) q_X11_isQuickTurn tw_686 tw_687 (Nat.le_of_ble_eq_true rfl) (Nat.le_of_ble_eq_true rfl) rfl rfl (Nat.le_of_ble_eq_true rfl) dX11_turned_22 rfl ?_
    refine r_if_ne 28 31 C dX11_turned_25 (by decide) rfl (fun c0 => ?_) (fun c0 => ?_)
    · have hf := ifF c0 hf
      refine r_aload_n 32 0 C dX11_turned_31 rfl rfl rfl ?_
      refine r_get 35 0 5 C inX11 (wd_0 ad u1) rfl (by decide) tw_323 rfl rfl dX11_turned_32 rfl ?_
      refine r_aload 37 5 C dX11_turned_35 rfl rfl ?_
      refine r_aload 39 5 C dX11_turned_37 rfl rfl ?_
      refine r_getN 42 kp0 1 C inX4 (wd_P ad u1 kp0a kp0b) rfl (by decide) tn_73 rfl rfl dX11_turned_39 rfl ?_
      refine r_aload_n 43 0 C dX11_turned_42 rfl rfl rfl ?_
      refine r_get 46 0 2 C inX11 (wd_0 ad u1) rfl (by decide) tw_320 rfl rfl dX11_turned_43 rfl ?_
      refine r_getN 49 5 3 C inX7 (wd_5 ad u1) rfl (by decide) tn_109 rfl rfl dX11_turned_46 rfl ?_
      obtain ⟨r1, u2, h2, hf⟩ := bd_of hf
      refine r_cSI 52 [.int (u1 5 3)] C hR (c_X11_holdOf ad (u1 5 3)  u1 r1 u2 h2) q_X11_holdOf tw_447 tw_448 (Nat.le_of_ble_eq_true rfl) (Nat.le_of_ble_eq_true rfl) rfl rfl (Nat.le_of_ble_eq_true rfl) dX11_turned_49 rfl ?_
      refine r_iload_n 53 2 C dX11_turned_52 rfl rfl rfl ?_
      refine r_iload_n 54 3 C dX11_turned_53 rfl rfl rfl ?_
      refine r_iload 56 4 C dX11_turned_54 rfl rfl ?_
      obtain ⟨r2, u3, h3, hf⟩ := bd_of hf
      refine r_cVNI 59 [.ref (ad kp0), .int (u1 kp0 1), .int r1, .int v2, .int v3, .int v4] C hR (c_X8_disturbed ad kp0 (u1 kp0 1) r1 v2 v3 v4  kp0a kp0b      u2 r2 u3 h3) q_X8_disturbed tn_692 (wd_24 ad u2) rfl rfl tw_694 tp_26 (Nat.le_of_ble_eq_true rfl) (Nat.le_of_ble_eq_true rfl) rfl rfl (Nat.le_of_ble_eq_true rfl) dX11_turned_56 rfl ?_
      exact r_iret C E (pr1 hf) (pr2 hf) dX11_turned_59
    · have hf := ifT c0 hf
      refine r_bipush (v := -3) 30 C dX11_turned_28 (by decide) rfl ?_
      exact r_iret C E (pr1 hf) (pr2 hf) dX11_turned_30
def f_X8_calmestPull_58 (z21 : Nat → Int32 → Int32 → Int32 → Int32 → Int32 → Int32 → Int32 → S2 → Option (Int32 × S2)) (k1 : Nat) (v2 : Int32) (v3 : Int32) (v4 : Int32) (v5 : Int32) (v6 : Int32) (v7 : Int32) (v8 : Int32) (u : S2) : Option (Int32 × S2) := nm (v8 + (1 : Int32)) (fun x0 => z21 k1 v2 v3 v4 v5 v6 v7 x0 u)
set_option maxRecDepth 20000 in
theorem w_X8_calmestPull_58 {K : Ctx} {ad : Nat → Nat} (C : Cx K ad cX8_calmestPull 10 yX8_calmestPull.cls (some .int)) (hR : Rm K 4 94) {r : Int32} {w : S2} (E : EI K ad r w) (z21 : Nat → Int32 → Int32 → Int32 → Int32 → Int32 → Int32 → Int32 → S2 → Option (Int32 × S2)) (hz21 : ∀ (k1 : Nat) (v2 : Int32) (v3 : Int32) (v4 : Int32) (v5 : Int32) (v6 : Int32) (v7 : Int32) (v8 : Int32) (k1a : 10 ≤ k1) (k1b : k1 < 18)        (u : S2), z21 k1 v2 v3 v4 v5 v6 v7 v8 u = some (r, w) → RW K ad 10 21 [(0, .ref (ad 24)), (1, .ref (ad k1)), (2, .int v2), (3, .int v3), (4, .int v4), (5, .int v5), (6, .int v6), (7, .int v7), (8, .int v8)] [] u) (k1 : Nat) (v2 : Int32) (v3 : Int32) (v4 : Int32) (v5 : Int32) (v6 : Int32) (v7 : Int32) (v8 : Int32) (k1a : 10 ≤ k1) (k1b : k1 < 18)        (u : S2) (hf : f_X8_calmestPull_58 z21 k1 v2 v3 v4 v5 v6 v7 v8 u = some (r, w)) : RW K ad 10 58 [(0, .ref (ad 24)), (1, .ref (ad k1)), (2, .int v2), (3, .int v3), (4, .int v4), (5, .int v5), (6, .int v6), (7, .int v7), (8, .int v8)] [] u := by
  unfold f_X8_calmestPull_58 at hf
  obtain ⟨x0, ex0, hf⟩ := nm_of hf
  refine r_iinc (v := x0) 61 8 [(0, .ref (ad 24)), (1, .ref (ad k1)), (2, .int v2), (3, .int v3), (4, .int v4), (5, .int v5), (6, .int v6), (7, .int v7), (8, .int x0)] [1, 2, 3, 4, 5, 6, 7, 8, 0] C dX8_calmestPull_58 rfl (by rw [ex0]; rfl) (by decide) rfl rfl ?_
  refine r_goto 21 C dX8_calmestPull_61 (by decide) ?_
  refine r_sub [(0, .ref (ad 24)), (1, .ref (ad k1)), (2, .int v2), (3, .int v3), (4, .int v4), (5, .int v5), (6, .int v6), (7, .int v7), (8, .int x0)] [0, 1, 2, 3, 4, 5, 6, 7, 8] rfl ?_
  exact hz21 k1 v2 v3 v4 v5 v6 v7 x0 k1a k1b        u hf
def f_X8_calmestPull_21  : Nat → Nat → Int32 → Int32 → Int32 → Int32 → Int32 → Int32 → Int32 → S2 → Option (Int32 × S2)
  | 0, _, _, _, _, _, _, _, _, _ => none
  | n + 1, k1, v2, v3, v4, v5, v6, v7, v8, u => (if (99 : Int32) < v8 then some (v6, u) else bd (f_X8_disturbed k1 v8 v2 v3 v4 v5 u) (fun r0 u0 => (if v7 ≤ r0 then f_X8_calmestPull_58 (fun k1 v2 v3 v4 v5 v6 v7 v8 u => f_X8_calmestPull_21  n k1 v2 v3 v4 v5 v6 v7 v8 u)  k1 v2 v3 v4 v5 v6 v7 v8 u0 else f_X8_calmestPull_58 (fun k1 v2 v3 v4 v5 v6 v7 v8 u => f_X8_calmestPull_21  n k1 v2 v3 v4 v5 v6 v7 v8 u)  k1 v2 v3 v4 v5 v8 r0 v8 u0)))
theorem f_X8_calmestPull_21_e  (n : Nat) (k1 : Nat) (v2 : Int32) (v3 : Int32) (v4 : Int32) (v5 : Int32) (v6 : Int32) (v7 : Int32) (v8 : Int32) (u : S2) : f_X8_calmestPull_21  (n + 1) k1 v2 v3 v4 v5 v6 v7 v8 u = (if (99 : Int32) < v8 then some (v6, u) else bd (f_X8_disturbed k1 v8 v2 v3 v4 v5 u) (fun r0 u0 => (if v7 ≤ r0 then f_X8_calmestPull_58 (fun k1 v2 v3 v4 v5 v6 v7 v8 u => f_X8_calmestPull_21  n k1 v2 v3 v4 v5 v6 v7 v8 u)  k1 v2 v3 v4 v5 v6 v7 v8 u0 else f_X8_calmestPull_58 (fun k1 v2 v3 v4 v5 v6 v7 v8 u => f_X8_calmestPull_21  n k1 v2 v3 v4 v5 v6 v7 v8 u)  k1 v2 v3 v4 v5 v8 r0 v8 u0))) := rfl
set_option maxRecDepth 20000 in
theorem w_X8_calmestPull_21 {K : Ctx} {ad : Nat → Nat} (C : Cx K ad cX8_calmestPull 10 yX8_calmestPull.cls (some .int)) (hR : Rm K 4 94) {r : Int32} {w : S2} (E : EI K ad r w)  : ∀ (n : Nat) (k1 : Nat) (v2 : Int32) (v3 : Int32) (v4 : Int32) (v5 : Int32) (v6 : Int32) (v7 : Int32) (v8 : Int32) (k1a : 10 ≤ k1) (k1b : k1 < 18)        (u : S2) (hf : f_X8_calmestPull_21  n k1 v2 v3 v4 v5 v6 v7 v8 u = some (r, w)), RW K ad 10 21 [(0, .ref (ad 24)), (1, .ref (ad k1)), (2, .int v2), (3, .int v3), (4, .int v4), (5, .int v5), (6, .int v6), (7, .int v7), (8, .int v8)] [] u := by
  intro n
  induction n with
  | zero => intro k1 v2 v3 v4 v5 v6 v7 v8 k1a k1b        u hf; cases hf
  | succ n ih =>
    intro k1 v2 v3 v4 v5 v6 v7 v8 k1a k1b        u hf
    rw [f_X8_calmestPull_21_e] at hf
    refine r_iload 23 8 C dX8_calmestPull_21 rfl rfl ?_
    refine r_bipush (v := 99) 25 C dX8_calmestPull_23 (by decide) rfl ?_
    refine r_icmp_gt 28 64 C dX8_calmestPull_25 (by decide) rfl (fun c0 => ?_) (fun c0 => ?_)
    · have hf := ifT c0 hf
      refine r_iload 66 6 C dX8_calmestPull_64 rfl rfl ?_
      exact r_iret C E (pr1 hf) (pr2 hf) dX8_calmestPull_66
    · have hf := ifF c0 hf
      refine r_aload_n 29 0 C dX8_calmestPull_28 rfl rfl rfl ?_
      refine r_aload_n 30 1 C dX8_calmestPull_29 rfl rfl rfl ?_
      refine r_iload 32 8 C dX8_calmestPull_30 rfl rfl ?_
      refine r_iload_n 33 2 C dX8_calmestPull_32 rfl rfl rfl ?_
      refine r_iload_n 34 3 C dX8_calmestPull_33 rfl rfl rfl ?_
      refine r_iload 36 4 C dX8_calmestPull_34 rfl rfl ?_
      refine r_iload 38 5 C dX8_calmestPull_36 rfl rfl ?_
      obtain ⟨r0, u0, h0, hf⟩ := bd_of hf
      refine r_cVI 41 [.ref (ad k1), .int v8, .int v2, .int v3, .int v4, .int v5] C hR (c_X8_disturbed ad k1 v8 v2 v3 v4 v5  k1a k1b      u r0 u0 h0) q_X8_disturbed tw_705 (wd_24 ad u) rfl rfl tw_694 tp_26 (Nat.le_of_ble_eq_true rfl) (Nat.le_of_ble_eq_true rfl) rfl rfl (Nat.le_of_ble_eq_true rfl) dX8_calmestPull_38 rfl ?_
      refine r_istore 43 [(0, .ref (ad 24)), (1, .ref (ad k1)), (2, .int v2), (3, .int v3), (4, .int v4), (5, .int v5), (6, .int v6), (7, .int v7), (8, .int v8), (9, .int r0)] [1, 2, 3, 4, 5, 6, 7, 8, 9, 0] C dX8_calmestPull_41 (by decide) rfl rfl ?_
      refine r_iload 45 9 C dX8_calmestPull_43 rfl rfl ?_
      refine r_iload 47 7 C dX8_calmestPull_45 rfl rfl ?_
      refine r_icmp_ge 50 58 C dX8_calmestPull_47 (by decide) rfl (fun c1 => ?_) (fun c1 => ?_)
      · have hf := ifT c1 hf
        refine r_sub [(0, .ref (ad 24)), (1, .ref (ad k1)), (2, .int v2), (3, .int v3), (4, .int v4), (5, .int v5), (6, .int v6), (7, .int v7), (8, .int v8)] [0, 1, 2, 3, 4, 5, 6, 7, 8] rfl ?_
        exact w_X8_calmestPull_58 C hR E (fun k1 v2 v3 v4 v5 v6 v7 v8 u => f_X8_calmestPull_21  n k1 v2 v3 v4 v5 v6 v7 v8 u) (fun k1 v2 v3 v4 v5 v6 v7 v8 k1a k1b        u h => ih k1 v2 v3 v4 v5 v6 v7 v8 k1a k1b        u h)  k1 v2 v3 v4 v5 v6 v7 v8 k1a k1b        u0 hf
      · have hf := ifF c1 hf
        refine r_iload 52 9 C dX8_calmestPull_50 rfl rfl ?_
        refine r_istore 54 [(0, .ref (ad 24)), (1, .ref (ad k1)), (2, .int v2), (3, .int v3), (4, .int v4), (5, .int v5), (6, .int v6), (7, .int r0), (8, .int v8), (9, .int r0)] [1, 2, 3, 4, 5, 6, 7, 0, 8, 9] C dX8_calmestPull_52 (by decide) rfl rfl ?_
        refine r_iload 56 8 C dX8_calmestPull_54 rfl rfl ?_
        refine r_istore 58 [(0, .ref (ad 24)), (1, .ref (ad k1)), (2, .int v2), (3, .int v3), (4, .int v4), (5, .int v5), (6, .int v8), (7, .int r0), (8, .int v8), (9, .int r0)] [1, 2, 3, 4, 5, 6, 0, 7, 8, 9] C dX8_calmestPull_56 (by decide) rfl rfl ?_
        refine r_sub [(0, .ref (ad 24)), (1, .ref (ad k1)), (2, .int v2), (3, .int v3), (4, .int v4), (5, .int v5), (6, .int v8), (7, .int r0), (8, .int v8)] [0, 1, 2, 3, 4, 5, 6, 7, 8] rfl ?_
        exact w_X8_calmestPull_58 C hR E (fun k1 v2 v3 v4 v5 v6 v7 v8 u => f_X8_calmestPull_21  n k1 v2 v3 v4 v5 v6 v7 v8 u) (fun k1 v2 v3 v4 v5 v6 v7 v8 k1a k1b        u h => ih k1 v2 v3 v4 v5 v6 v7 v8 k1a k1b        u h)  k1 v2 v3 v4 v5 v8 r0 v8 k1a k1b        u0 hf
def f_X8_calmestPull (k1 : Nat) (v2 : Int32) (v3 : Int32) (v4 : Int32) (v5 : Int32) (u : S2) : Option (Int32 × S2) := bd (f_X8_disturbed k1 (1 : Int32) v2 v3 v4 v5 u) (fun r0 u0 => f_X8_calmestPull_21  FUEL k1 v2 v3 v4 v5 (1 : Int32) r0 (2 : Int32) u0)
set_option maxRecDepth 20000 in
theorem c_X8_calmestPull (ad : Nat → Nat) (k1 : Nat) (v2 : Int32) (v3 : Int32) (v4 : Int32) (v5 : Int32) (k1a : 10 ≤ k1) (k1b : k1 < 18)     (u : S2) (r : Int32) (w : S2) (hf : f_X8_calmestPull k1 v2 v3 v4 v5 u = some (r, w)) : HI yX8_calmestPull cX8_calmestPull 10 (some .int) 4 94 ad [.ref (ad 24), .ref (ad k1), .int v2, .int v3, .int v4, .int v5] u r w := by
  refine HI_of (by decide) (Nat.le_of_ble_eq_true rfl) (fun K C hR E => ?_)
  refine r_sub [(0, .ref (ad 24)), (1, .ref (ad k1)), (2, .int v2), (3, .int v3), (4, .int v4), (5, .int v5)] [0, 1, 2, 3, 4, 5] rfl ?_
  unfold f_X8_calmestPull at hf
  refine r_iconst (v := 1) 1 C dX8_calmestPull_0 (by decide) rfl ?_
  refine r_istore 3 [(0, .ref (ad 24)), (1, .ref (ad k1)), (2, .int v2), (3, .int v3), (4, .int v4), (5, .int v5), (6, .int (1 : Int32))] [1, 2, 3, 4, 5, 6, 0] C dX8_calmestPull_1 (by decide) rfl rfl ?_
  refine r_aload_n 4 0 C dX8_calmestPull_3 rfl rfl rfl ?_
  refine r_aload_n 5 1 C dX8_calmestPull_4 rfl rfl rfl ?_
  refine r_iload 7 6 C dX8_calmestPull_5 rfl rfl ?_
  refine r_iload_n 8 2 C dX8_calmestPull_7 rfl rfl rfl ?_
  refine r_iload_n 9 3 C dX8_calmestPull_8 rfl rfl rfl ?_
  refine r_iload 11 4 C dX8_calmestPull_9 rfl rfl ?_
  refine r_iload 13 5 C dX8_calmestPull_11 rfl rfl ?_
  obtain ⟨r0, u0, h0, hf⟩ := bd_of hf
  refine r_cVI 16 [.ref (ad k1), .int (1 : Int32), .int v2, .int v3, .int v4, .int v5] C hR (c_X8_disturbed ad k1 (1 : Int32) v2 v3 v4 v5  k1a k1b      u r0 u0 h0) q_X8_disturbed tw_705 (wd_24 ad u) rfl rfl tw_694 tp_26 (Nat.le_of_ble_eq_true rfl) (Nat.le_of_ble_eq_true rfl) rfl rfl (Nat.le_of_ble_eq_true rfl) dX8_calmestPull_13 rfl ?_
  refine r_istore 18 [(0, .ref (ad 24)), (1, .ref (ad k1)), (2, .int v2), (3, .int v3), (4, .int v4), (5, .int v5), (6, .int (1 : Int32)), (7, .int r0)] [1, 2, 3, 4, 5, 6, 7, 0] C dX8_calmestPull_16 (by decide) rfl rfl ?_
  refine r_iconst (v := 2) 19 C dX8_calmestPull_18 (by decide) rfl ?_
  refine r_istore 21 [(0, .ref (ad 24)), (1, .ref (ad k1)), (2, .int v2), (3, .int v3), (4, .int v4), (5, .int v5), (6, .int (1 : Int32)), (7, .int r0), (8, .int (2 : Int32))] [1, 2, 3, 4, 5, 6, 7, 8, 0] C dX8_calmestPull_19 (by decide) rfl rfl ?_
  refine r_sub [(0, .ref (ad 24)), (1, .ref (ad k1)), (2, .int v2), (3, .int v3), (4, .int v4), (5, .int v5), (6, .int (1 : Int32)), (7, .int r0), (8, .int (2 : Int32))] [0, 1, 2, 3, 4, 5, 6, 7, 8] rfl ?_
  exact w_X8_calmestPull_21 C hR E  FUEL k1 v2 v3 v4 v5 (1 : Int32) r0 (2 : Int32) k1a k1b        u0 hf
def f_X11_bestPull (v1 : Int32) (v2 : Int32) (v3 : Int32) (v4 : Int32) (u : S2) : Option (Int32 × S2) := bq (f_X7_pointerAt_5 v1 u) (fun p0 u0 => match p0 with | none => some ((-2 : Int32), u0) | some kp0 => bd (f_X11_isQuickTurn v2 v3 v4 u0) (fun r0 u1 => (if r0 = 0 then some ((-3 : Int32), u1) else bd (f_X11_holdOf (u1 5 3) u1) (fun r1 u2 => bd (f_X8_calmestPull kp0 r1 v2 v3 v4 u2) (fun r2 u3 => some (r2, u3))))))
set_option maxRecDepth 20000 in
theorem c_X11_bestPull (ad : Nat → Nat) (v1 : Int32) (v2 : Int32) (v3 : Int32) (v4 : Int32)     (u : S2) (r : Int32) (w : S2) (hf : f_X11_bestPull v1 v2 v3 v4 u = some (r, w)) : HI yX11_bestPull cX11_bestPull 6 (some .int) 5 123 ad [.ref (ad 0), .int v1, .int v2, .int v3, .int v4] u r w := by
  refine HI_of (by decide) (Nat.le_of_ble_eq_true rfl) (fun K C hR E => ?_)
  refine r_sub [(0, .ref (ad 0)), (1, .int v1), (2, .int v2), (3, .int v3), (4, .int v4)] [0, 1, 2, 3, 4] rfl ?_
  unfold f_X11_bestPull at hf
  refine r_aload_n 1 0 C dX11_bestPull_0 rfl rfl rfl ?_
  refine r_get 4 0 2 C inX11 (wd_0 ad u) rfl (by decide) tw_320 rfl rfl dX11_bestPull_1 rfl ?_
  refine r_iload_n 5 1 C dX11_bestPull_4 rfl rfl rfl ?_
  obtain ⟨p0, u0, h0, hf⟩ := bq_of hf
  refine r_cVNQ 8 [.int v1] C hR (c_X7_pointerAt_5 ad v1   u p0 u0 h0) q_X7_pointerAt tn_389 (wd_5 ad u) rfl rfl tw_391 tp_1 (Nat.le_of_ble_eq_true rfl) (Nat.le_of_ble_eq_true rfl) rfl rfl (Nat.le_of_ble_eq_true rfl) dX11_bestPull_5 rfl ?_
  cases p0 with
  | none =>
    refine r_astoreN 10 [(0, .ref (ad 0)), (1, .int v1), (2, .int v2), (3, .int v3), (4, .int v4), (5, .null)] [1, 2, 3, 4, 5, 0] C dX11_bestPull_8 (by decide) rfl rfl ?_
    refine r_aloadN 12 5 C dX11_bestPull_10 rfl rfl ?_
    refine r_ifnonnullN 15 C dX11_bestPull_12 rfl ?_
    refine r_bipush (v := -2) 17 C dX11_bestPull_15 (by decide) rfl ?_
    exact r_iret C E (pr1 hf) (pr2 hf) dX11_bestPull_17
  | some kp0 =>
    obtain ⟨kp0a, kp0b⟩ := pa_X7_pointerAt_5 h0
    refine r_astore 10 [(0, .ref (ad 0)), (1, .int v1), (2, .int v2), (3, .int v3), (4, .int v4), (5, .ref (ad kp0))] [1, 2, 3, 4, 5, 0] C dX11_bestPull_8 (by decide) rfl rfl ?_
    refine r_aload 12 5 C dX11_bestPull_10 rfl rfl ?_
    refine r_ifnonnull 18 C dX11_bestPull_12 (by decide) ?_
    refine r_iload_n 19 2 C dX11_bestPull_18 rfl rfl rfl ?_
    refine r_iload_n 20 3 C dX11_bestPull_19 rfl rfl rfl ?_
    refine r_iload 22 4 C dX11_bestPull_20 rfl rfl ?_
    obtain ⟨r0, u1, h1, hf⟩ := bd_of hf
    refine r_cSI 25 [.int v2, .int v3, .int v4] C hR (c_X11_isQuickTurn ad v2 v3 v4    u0 r0 u1 h1) q_X11_isQuickTurn tw_686 tw_687 (Nat.le_of_ble_eq_true rfl) (Nat.le_of_ble_eq_true rfl) rfl rfl (Nat.le_of_ble_eq_true rfl) dX11_bestPull_22 rfl ?_
    refine r_if_ne 28 31 C dX11_bestPull_25 (by decide) rfl (fun c0 => ?_) (fun c0 => ?_)
    · have hf := ifF c0 hf
      refine r_aload_n 32 0 C dX11_bestPull_31 rfl rfl rfl ?_
      refine r_get 35 0 5 C inX11 (wd_0 ad u1) rfl (by decide) tw_323 rfl rfl dX11_bestPull_32 rfl ?_
      refine r_aload 37 5 C dX11_bestPull_35 rfl rfl ?_
      refine r_aload_n 38 0 C dX11_bestPull_37 rfl rfl rfl ?_
      refine r_get 41 0 2 C inX11 (wd_0 ad u1) rfl (by decide) tw_320 rfl rfl dX11_bestPull_38 rfl ?_
      refine r_getN 44 5 3 C inX7 (wd_5 ad u1) rfl (by decide) tn_109 rfl rfl dX11_bestPull_41 rfl ?_
      obtain ⟨r1, u2, h2, hf⟩ := bd_of hf
      refine r_cSI 47 [.int (u1 5 3)] C hR (c_X11_holdOf ad (u1 5 3)  u1 r1 u2 h2) q_X11_holdOf tw_447 tw_448 (Nat.le_of_ble_eq_true rfl) (Nat.le_of_ble_eq_true rfl) rfl rfl (Nat.le_of_ble_eq_true rfl) dX11_bestPull_44 rfl ?_
      refine r_iload_n 48 2 C dX11_bestPull_47 rfl rfl rfl ?_
      refine r_iload_n 49 3 C dX11_bestPull_48 rfl rfl rfl ?_
      refine r_iload 51 4 C dX11_bestPull_49 rfl rfl ?_
      obtain ⟨r2, u3, h3, hf⟩ := bd_of hf
      refine r_cVNI 54 [.ref (ad kp0), .int r1, .int v2, .int v3, .int v4] C hR (c_X8_calmestPull ad kp0 r1 v2 v3 v4  kp0a kp0b     u2 r2 u3 h3) q_X8_calmestPull tn_701 (wd_24 ad u2) rfl rfl tw_703 tp_27 (Nat.le_of_ble_eq_true rfl) (Nat.le_of_ble_eq_true rfl) rfl rfl (Nat.le_of_ble_eq_true rfl) dX11_bestPull_51 rfl ?_
      exact r_iret C E (pr1 hf) (pr2 hf) dX11_bestPull_54
    · have hf := ifT c0 hf
      refine r_bipush (v := -3) 30 C dX11_bestPull_28 (by decide) rfl ?_
      exact r_iret C E (pr1 hf) (pr2 hf) dX11_bestPull_30
def f_X7_copyFrom_7_5_50  : Nat → Int32 → S2 → Option (S2)
  | 0, _, _ => none
  | n + 1, v2, u => (if (3 : Int32) ≤ v2 then some u else ck (inb v2 3) (nm (13 + Int32.toNatClampNeg v2) (fun kp0 => ck (inb v2 3) (nm (10 + Int32.toNatClampNeg v2) (fun kp1 => bv (f_X4_copyFrom kp0 kp1 u) (fun u0 => nm (v2 + (1 : Int32)) (fun x0 => f_X7_copyFrom_7_5_50  n x0 u0)))))))
theorem f_X7_copyFrom_7_5_50_e  (n : Nat) (v2 : Int32) (u : S2) : f_X7_copyFrom_7_5_50  (n + 1) v2 u = (if (3 : Int32) ≤ v2 then some u else ck (inb v2 3) (nm (13 + Int32.toNatClampNeg v2) (fun kp0 => ck (inb v2 3) (nm (10 + Int32.toNatClampNeg v2) (fun kp1 => bv (f_X4_copyFrom kp0 kp1 u) (fun u0 => nm (v2 + (1 : Int32)) (fun x0 => f_X7_copyFrom_7_5_50  n x0 u0))))))) := rfl
set_option maxRecDepth 20000 in
theorem w_X7_copyFrom_7_5_50 {K : Ctx} {ad : Nat → Nat} (C : Cx K ad cX7_copyFrom 3 yX7_copyFrom.cls none) (hR : Rm K 1 21) {w : S2} (E : EV K ad w)  : ∀ (n : Nat) (v2 : Int32)  (u : S2) (hf : f_X7_copyFrom_7_5_50  n v2 u = some w), RW K ad 3 50 [(0, .ref (ad 7)), (1, .ref (ad 5)), (2, .int v2)] [] u := by
  intro n
  induction n with
  | zero => intro v2  u hf; cases hf
  | succ n ih =>
    intro v2  u hf
    rw [f_X7_copyFrom_7_5_50_e] at hf
    refine r_iload_n 51 2 C dX7_copyFrom_50 rfl rfl rfl ?_
    refine r_iconst (v := 3) 52 C dX7_copyFrom_51 (by decide) rfl ?_
    refine r_icmp_ge 55 76 C dX7_copyFrom_52 (by decide) rfl (fun c0 => ?_) (fun c0 => ?_)
    · have hf := ifT c0 hf
      exact r_vret C E (so_of hf) dX7_copyFrom_76
    · have hf := ifF c0 hf
      refine r_aload_n 56 0 C dX7_copyFrom_55 rfl rfl rfl ?_
      refine r_get 59 7 2 C inX7 (wd_7 ad u) rfl (by decide) tw_107 rfl rfl dX7_copyFrom_56 rfl ?_
      refine r_iload_n 60 2 C dX7_copyFrom_59 rfl rfl rfl ?_
      obtain ⟨hc0, hf⟩ := ck_of hf
      refine r_aaload_8 61 C hc0 dX7_copyFrom_60 rfl ?_
      obtain ⟨kp0, ekp0, hf⟩ := nm_of hf
      obtain ⟨kp0a, kp0b⟩ := pt_13 ekp0 hc0
      refine r_nmR ekp0 ?_
      refine r_aload_n 62 1 C dX7_copyFrom_61 rfl rfl rfl ?_
      refine r_get 65 5 2 C inX7 (wd_5 ad u) rfl (by decide) tw_107 rfl rfl dX7_copyFrom_62 rfl ?_
      refine r_iload_n 66 2 C dX7_copyFrom_65 rfl rfl rfl ?_
      obtain ⟨hc1, hf⟩ := ck_of hf
      refine r_aaload_6 67 C hc1 dX7_copyFrom_66 rfl ?_
      obtain ⟨kp1, ekp1, hf⟩ := nm_of hf
      obtain ⟨kp1a, kp1b⟩ := pt_10 ekp1 hc1
      refine r_nmR ekp1 ?_
      obtain ⟨u0, h0, hf⟩ := bv_of hf
      refine r_cVNV 70 [.ref (ad kp1)] C hR (c_X4_copyFrom ad kp0 kp1 kp0a kp0b kp1a kp1b u u0 h0) q_X4_copyFrom tn_718 (wd_P ad u kp0a kp0b) rfl rfl tw_659 tp_22 (Nat.le_of_ble_eq_true rfl) (Nat.le_of_ble_eq_true rfl) rfl rfl (Nat.le_of_ble_eq_true rfl) dX7_copyFrom_67 rfl ?_
      obtain ⟨x0, ex0, hf⟩ := nm_of hf
      refine r_iinc (v := x0) 73 2 [(0, .ref (ad 7)), (1, .ref (ad 5)), (2, .int x0)] [1, 2, 0] C dX7_copyFrom_70 rfl (by rw [ex0]; rfl) (by decide) rfl rfl ?_
      refine r_goto 50 C dX7_copyFrom_73 (by decide) ?_
      refine r_sub [(0, .ref (ad 7)), (1, .ref (ad 5)), (2, .int x0)] [0, 1, 2] rfl ?_
      exact ih x0  u0 hf
def f_X7_copyFrom_7_5  (u : S2) : Option (S2) := nm (u 5 3) (fun x0 => nm (wr u 7 3 x0) (fun u0 => nm (u0 5 4) (fun x1 => nm (wr u0 7 4 x1) (fun u1 => nm (u1 5 5) (fun x2 => nm (wr u1 7 5 x2) (fun u2 => nm (u2 5 6) (fun x3 => nm (wr u2 7 6 x3) (fun u3 => nm (u3 5 7) (fun x4 => nm (wr u3 7 7 x4) (fun u4 => nm (u4 5 8) (fun x5 => nm (wr u4 7 8 x5) (fun u5 => f_X7_copyFrom_7_5_50  FUEL (0 : Int32) u5))))))))))))
set_option maxRecDepth 20000 in
theorem c_X7_copyFrom_7_5 (ad : Nat → Nat)   (u : S2) (w : S2) (hf : f_X7_copyFrom_7_5  u = some w) : HV yX7_copyFrom cX7_copyFrom 3 none 1 21 ad [.ref (ad 7), .ref (ad 5)] u w := by
  refine HV_of (by decide) (Nat.le_of_ble_eq_true rfl) (fun K C hR E => ?_)
  refine r_sub [(0, .ref (ad 7)), (1, .ref (ad 5))] [0, 1] rfl ?_
  unfold f_X7_copyFrom_7_5 at hf
  refine r_aload_n 1 0 C dX7_copyFrom_0 rfl rfl rfl ?_
  refine r_aload_n 2 1 C dX7_copyFrom_1 rfl rfl rfl ?_
  refine r_get 5 5 3 C inX7 (wd_5 ad u) rfl (by decide) tw_108 rfl rfl dX7_copyFrom_2 rfl ?_
  obtain ⟨x0, ex0, hf⟩ := nm_of hf
  refine r_nm ex0 ?_
  refine r_put 8 7 3 C inX7 tyX7_ok nmX7 (wd_7 ad u) (sF_7_3 ad u x0) rfl (by decide) tw_108 rfl rfl (tyX7_ok 3 (by decide)) rfl rfl (Nat.le_of_ble_eq_true rfl) dX7_copyFrom_5 rfl ?_
  obtain ⟨u0, eu0, hf⟩ := nm_of hf
  refine r_st eu0 ?_
  refine r_aload_n 9 0 C dX7_copyFrom_8 rfl rfl rfl ?_
  refine r_aload_n 10 1 C dX7_copyFrom_9 rfl rfl rfl ?_
  refine r_get 13 5 4 C inX7 (wd_5 ad u0) rfl (by decide) tw_111 rfl rfl dX7_copyFrom_10 rfl ?_
  obtain ⟨x1, ex1, hf⟩ := nm_of hf
  refine r_nm ex1 ?_
  refine r_put 16 7 4 C inX7 tyX7_ok nmX7 (wd_7 ad u0) (sF_7_4 ad u0 x1) rfl (by decide) tw_111 rfl rfl (tyX7_ok 4 (by decide)) rfl rfl (Nat.le_of_ble_eq_true rfl) dX7_copyFrom_13 rfl ?_
  obtain ⟨u1, eu1, hf⟩ := nm_of hf
  refine r_st eu1 ?_
  refine r_aload_n 17 0 C dX7_copyFrom_16 rfl rfl rfl ?_
  refine r_aload_n 18 1 C dX7_copyFrom_17 rfl rfl rfl ?_
  refine r_get 21 5 5 C inX7 (wd_5 ad u1) rfl (by decide) tw_116 rfl rfl dX7_copyFrom_18 rfl ?_
  obtain ⟨x2, ex2, hf⟩ := nm_of hf
  refine r_nm ex2 ?_
  refine r_put 24 7 5 C inX7 tyX7_ok nmX7 (wd_7 ad u1) (sF_7_5 ad u1 x2) rfl (by decide) tw_116 rfl rfl (tyX7_ok 5 (by decide)) rfl rfl (Nat.le_of_ble_eq_true rfl) dX7_copyFrom_21 rfl ?_
  obtain ⟨u2, eu2, hf⟩ := nm_of hf
  refine r_st eu2 ?_
  refine r_aload_n 25 0 C dX7_copyFrom_24 rfl rfl rfl ?_
  refine r_aload_n 26 1 C dX7_copyFrom_25 rfl rfl rfl ?_
  refine r_get 29 5 6 C inX7 (wd_5 ad u2) rfl (by decide) tw_119 rfl rfl dX7_copyFrom_26 rfl ?_
  obtain ⟨x3, ex3, hf⟩ := nm_of hf
  refine r_nm ex3 ?_
  refine r_put 32 7 6 C inX7 tyX7_ok nmX7 (wd_7 ad u2) (sF_7_6 ad u2 x3) rfl (by decide) tw_119 rfl rfl (tyX7_ok 6 (by decide)) rfl rfl (Nat.le_of_ble_eq_true rfl) dX7_copyFrom_29 rfl ?_
  obtain ⟨u3, eu3, hf⟩ := nm_of hf
  refine r_st eu3 ?_
  refine r_aload_n 33 0 C dX7_copyFrom_32 rfl rfl rfl ?_
  refine r_aload_n 34 1 C dX7_copyFrom_33 rfl rfl rfl ?_
  refine r_get 37 5 7 C inX7 (wd_5 ad u3) rfl (by decide) tw_123 rfl rfl dX7_copyFrom_34 rfl ?_
  obtain ⟨x4, ex4, hf⟩ := nm_of hf
  refine r_nm ex4 ?_
  refine r_put 40 7 7 C inX7 tyX7_ok nmX7 (wd_7 ad u3) (sF_7_7 ad u3 x4) rfl (by decide) tw_123 rfl rfl (tyX7_ok 7 (by decide)) rfl rfl (Nat.le_of_ble_eq_true rfl) dX7_copyFrom_37 rfl ?_
  obtain ⟨u4, eu4, hf⟩ := nm_of hf
  refine r_st eu4 ?_
  refine r_aload_n 41 0 C dX7_copyFrom_40 rfl rfl rfl ?_
  refine r_aload_n 42 1 C dX7_copyFrom_41 rfl rfl rfl ?_
  refine r_get 45 5 8 C inX7 (wd_5 ad u4) rfl (by decide) tw_125 rfl rfl dX7_copyFrom_42 rfl ?_
  obtain ⟨x5, ex5, hf⟩ := nm_of hf
  refine r_nm ex5 ?_
  refine r_put 48 7 8 C inX7 tyX7_ok nmX7 (wd_7 ad u4) (sF_7_8 ad u4 x5) rfl (by decide) tw_125 rfl rfl (tyX7_ok 8 (by decide)) rfl rfl (Nat.le_of_ble_eq_true rfl) dX7_copyFrom_45 rfl ?_
  obtain ⟨u5, eu5, hf⟩ := nm_of hf
  refine r_st eu5 ?_
  refine r_iconst (v := 0) 49 C dX7_copyFrom_48 (by decide) rfl ?_
  refine r_istore_n 50 [(0, .ref (ad 7)), (1, .ref (ad 5)), (2, .int (0 : Int32))] [1, 2, 0] C dX7_copyFrom_49 rfl (by decide) rfl rfl ?_
  refine r_sub [(0, .ref (ad 7)), (1, .ref (ad 5)), (2, .int (0 : Int32))] [0, 1, 2] rfl ?_
  exact w_X7_copyFrom_7_5_50 C hR E  FUEL (0 : Int32)  u5 hf
def f_X0_copyFrom_19_9  (u : S2) : Option (S2) := nm (va_up u 20 (va_cpy (u 18) (u 20) 0 0 6)) (fun u0 => nm (u0 9 1) (fun x0 => nm (wr u0 19 1 x0) (fun u1 => nm (u1 9 2) (fun x1 => ck (isB x1) (nm (wr u1 19 2 x1) (fun u2 => nm (u2 9 3) (fun x2 => nm (wr u2 19 3 x2) (fun u3 => some u3))))))))
set_option maxRecDepth 20000 in
theorem c_X0_copyFrom_19_9 (ad : Nat → Nat)   (u : S2) (w : S2) (hf : f_X0_copyFrom_19_9  u = some w) : HV yX0_copyFrom cX0_copyFrom 2 none 1 40 ad [.ref (ad 19), .ref (ad 9)] u w := by
  refine HV_of (by decide) (Nat.le_of_ble_eq_true rfl) (fun K C hR E => ?_)
  refine r_sub [(0, .ref (ad 19)), (1, .ref (ad 9))] [0, 1] rfl ?_
  unfold f_X0_copyFrom_19_9 at hf
  refine r_aload_n 1 1 C dX0_copyFrom_0 rfl rfl rfl ?_
  refine r_get 4 9 0 C inX0 (wd_9 ad u) rfl (by decide) tw_158 rfl rfl dX0_copyFrom_1 rfl ?_
  refine r_iconst (v := 0) 5 C dX0_copyFrom_4 (by decide) rfl ?_
  refine r_aload_n 6 0 C dX0_copyFrom_5 rfl rfl rfl ?_
  refine r_get 9 19 0 C inX0 (wd_19 ad u) rfl (by decide) tw_158 rfl rfl dX0_copyFrom_6 rfl ?_
  refine r_iconst (v := 0) 10 C dX0_copyFrom_9 (by decide) rfl ?_
  refine r_bipush (v := 6) 12 C dX0_copyFrom_10 (by decide) rfl ?_
  refine r_copy6 15 18 20 C hR tw_155 (wd_18 ad u) (wd_20 ad u) (sA_20 ad u) (Nat.le_of_ble_eq_true rfl) (Nat.le_of_ble_eq_true rfl) dX0_copyFrom_12 rfl ?_
  obtain ⟨u0, eu0, hf⟩ := nm_of hf
  refine r_st eu0 ?_
  refine r_aload_n 16 0 C dX0_copyFrom_15 rfl rfl rfl ?_
  refine r_aload_n 17 1 C dX0_copyFrom_16 rfl rfl rfl ?_
  refine r_get 20 9 1 C inX0 (wd_9 ad u0) rfl (by decide) tw_161 rfl rfl dX0_copyFrom_17 rfl ?_
  obtain ⟨x0, ex0, hf⟩ := nm_of hf
  refine r_nm ex0 ?_
  refine r_put 23 19 1 C inX0 tyX0_ok nmX0 (wd_19 ad u0) (sF_19_1 ad u0 x0) rfl (by decide) tw_161 rfl rfl (tyX0_ok 1 (by decide)) rfl rfl (Nat.le_of_ble_eq_true rfl) dX0_copyFrom_20 rfl ?_
  obtain ⟨u1, eu1, hf⟩ := nm_of hf
  refine r_st eu1 ?_
  refine r_aload_n 24 0 C dX0_copyFrom_23 rfl rfl rfl ?_
  refine r_aload_n 25 1 C dX0_copyFrom_24 rfl rfl rfl ?_
  refine r_get 28 9 2 C inX0 (wd_9 ad u1) rfl (by decide) tw_164 rfl rfl dX0_copyFrom_25 rfl ?_
  obtain ⟨x1, ex1, hf⟩ := nm_of hf
  refine r_nm ex1 ?_
  obtain ⟨hc0, hf⟩ := ck_of hf
  refine r_put 31 19 2 C inX0 tyX0_ok nmX0 (wd_19 ad u1) (sF_19_2 ad u1 x1) rfl (by decide) tw_164 rfl rfl (tyX0_ok 2 (by decide)) (isB_nar hc0) (isB_fit hc0) (Nat.le_of_ble_eq_true rfl) dX0_copyFrom_28 rfl ?_
  obtain ⟨u2, eu2, hf⟩ := nm_of hf
  refine r_st eu2 ?_
  refine r_aload_n 32 0 C dX0_copyFrom_31 rfl rfl rfl ?_
  refine r_aload_n 33 1 C dX0_copyFrom_32 rfl rfl rfl ?_
  refine r_get 36 9 3 C inX0 (wd_9 ad u2) rfl (by decide) tw_165 rfl rfl dX0_copyFrom_33 rfl ?_
  obtain ⟨x2, ex2, hf⟩ := nm_of hf
  refine r_nm ex2 ?_
  refine r_put 39 19 3 C inX0 tyX0_ok nmX0 (wd_19 ad u2) (sF_19_3 ad u2 x2) rfl (by decide) tw_165 rfl rfl (tyX0_ok 3 (by decide)) rfl rfl (Nat.le_of_ble_eq_true rfl) dX0_copyFrom_36 rfl ?_
  obtain ⟨u3, eu3, hf⟩ := nm_of hf
  refine r_st eu3 ?_
  exact r_vret C E (so_of hf) dX0_copyFrom_39
def f_X7_stopAllBut_7_22 (z2 : Int32 → Int32 → S2 → Option (S2)) (v1 : Int32) (v2 : Int32) (u : S2) : Option (S2) := nm (v2 + (1 : Int32)) (fun x0 => z2 v1 x0 u)
set_option maxRecDepth 20000 in
theorem w_X7_stopAllBut_7_22 {K : Ctx} {ad : Nat → Nat} (C : Cx K ad cX7_stopAllBut 3 yX7_stopAllBut.cls none) (hR : Rm K 0 0) {w : S2} (E : EV K ad w) (z2 : Int32 → Int32 → S2 → Option (S2)) (hz2 : ∀ (v1 : Int32) (v2 : Int32)   (u : S2), z2 v1 v2 u = some w → RW K ad 3 2 [(0, .ref (ad 7)), (1, .int v1), (2, .int v2)] [] u) (v1 : Int32) (v2 : Int32)   (u : S2) (hf : f_X7_stopAllBut_7_22 z2 v1 v2 u = some w) : RW K ad 3 22 [(0, .ref (ad 7)), (1, .int v1), (2, .int v2)] [] u := by
  unfold f_X7_stopAllBut_7_22 at hf
  obtain ⟨x0, ex0, hf⟩ := nm_of hf
  refine r_iinc (v := x0) 25 2 [(0, .ref (ad 7)), (1, .int v1), (2, .int x0)] [1, 2, 0] C dX7_stopAllBut_22 rfl (by rw [ex0]; rfl) (by decide) rfl rfl ?_
  refine r_goto 2 C dX7_stopAllBut_25 (by decide) ?_
  refine r_sub [(0, .ref (ad 7)), (1, .int v1), (2, .int x0)] [0, 1, 2] rfl ?_
  exact hz2 v1 x0   u hf
def f_X7_stopAllBut_7_2  : Nat → Int32 → Int32 → S2 → Option (S2)
  | 0, _, _, _ => none
  | n + 1, v1, v2, u => (if (3 : Int32) ≤ v2 then some u else (if v2 = v1 then f_X7_stopAllBut_7_22 (fun v1 v2 u => f_X7_stopAllBut_7_2  n v1 v2 u)  v1 v2 u else ck (inb v2 3) (nm (13 + Int32.toNatClampNeg v2) (fun kp0 => nm (wr u kp0 0 (0 : Int32)) (fun u0 => f_X7_stopAllBut_7_22 (fun v1 v2 u => f_X7_stopAllBut_7_2  n v1 v2 u)  v1 v2 u0)))))
theorem f_X7_stopAllBut_7_2_e  (n : Nat) (v1 : Int32) (v2 : Int32) (u : S2) : f_X7_stopAllBut_7_2  (n + 1) v1 v2 u = (if (3 : Int32) ≤ v2 then some u else (if v2 = v1 then f_X7_stopAllBut_7_22 (fun v1 v2 u => f_X7_stopAllBut_7_2  n v1 v2 u)  v1 v2 u else ck (inb v2 3) (nm (13 + Int32.toNatClampNeg v2) (fun kp0 => nm (wr u kp0 0 (0 : Int32)) (fun u0 => f_X7_stopAllBut_7_22 (fun v1 v2 u => f_X7_stopAllBut_7_2  n v1 v2 u)  v1 v2 u0))))) := rfl
set_option maxRecDepth 20000 in
theorem w_X7_stopAllBut_7_2 {K : Ctx} {ad : Nat → Nat} (C : Cx K ad cX7_stopAllBut 3 yX7_stopAllBut.cls none) (hR : Rm K 0 0) {w : S2} (E : EV K ad w)  : ∀ (n : Nat) (v1 : Int32) (v2 : Int32)   (u : S2) (hf : f_X7_stopAllBut_7_2  n v1 v2 u = some w), RW K ad 3 2 [(0, .ref (ad 7)), (1, .int v1), (2, .int v2)] [] u := by
  intro n
  induction n with
  | zero => intro v1 v2   u hf; cases hf
  | succ n ih =>
    intro v1 v2   u hf
    rw [f_X7_stopAllBut_7_2_e] at hf
    refine r_iload_n 3 2 C dX7_stopAllBut_2 rfl rfl rfl ?_
    refine r_iconst (v := 3) 4 C dX7_stopAllBut_3 (by decide) rfl ?_
    refine r_icmp_ge 7 28 C dX7_stopAllBut_4 (by decide) rfl (fun c0 => ?_) (fun c0 => ?_)
    · have hf := ifT c0 hf
      exact r_vret C E (so_of hf) dX7_stopAllBut_28
    · have hf := ifF c0 hf
      refine r_iload_n 8 2 C dX7_stopAllBut_7 rfl rfl rfl ?_
      refine r_iload_n 9 1 C dX7_stopAllBut_8 rfl rfl rfl ?_
      refine r_icmp_eq 12 22 C dX7_stopAllBut_9 (by decide) rfl (fun c1 => ?_) (fun c1 => ?_)
      · have hf := ifT c1 hf
        refine r_sub [(0, .ref (ad 7)), (1, .int v1), (2, .int v2)] [0, 1, 2] rfl ?_
        exact w_X7_stopAllBut_7_22 C hR E (fun v1 v2 u => f_X7_stopAllBut_7_2  n v1 v2 u) (fun v1 v2   u h => ih v1 v2   u h)  v1 v2   u hf
      · have hf := ifF c1 hf
        refine r_aload_n 13 0 C dX7_stopAllBut_12 rfl rfl rfl ?_
        refine r_get 16 7 2 C inX7 (wd_7 ad u) rfl (by decide) tw_107 rfl rfl dX7_stopAllBut_13 rfl ?_
        refine r_iload_n 17 2 C dX7_stopAllBut_16 rfl rfl rfl ?_
        obtain ⟨hc0, hf⟩ := ck_of hf
        refine r_aaload_8 18 C hc0 dX7_stopAllBut_17 rfl ?_
        obtain ⟨kp0, ekp0, hf⟩ := nm_of hf
        obtain ⟨kp0a, kp0b⟩ := pt_13 ekp0 hc0
        refine r_nmR ekp0 ?_
        refine r_iconst (v := 0) 19 C dX7_stopAllBut_18 (by decide) rfl ?_
        refine r_putN 22 kp0 0 C inX4 tyX4_ok nmX4 (wd_P ad u kp0a kp0b) (sP_0 ad u kp0a kp0b (0 : Int32)) rfl (by decide) tn_68 rfl rfl (tyX4_ok 0 (by decide)) rfl rfl (Nat.le_of_ble_eq_true rfl) dX7_stopAllBut_19 rfl ?_
        obtain ⟨u0, eu0, hf⟩ := nm_of hf
        refine r_st eu0 ?_
        refine r_sub [(0, .ref (ad 7)), (1, .int v1), (2, .int v2)] [0, 1, 2] rfl ?_
        exact w_X7_stopAllBut_7_22 C hR E (fun v1 v2 u => f_X7_stopAllBut_7_2  n v1 v2 u) (fun v1 v2   u h => ih v1 v2   u h)  v1 v2   u0 hf
def f_X7_stopAllBut_7 (v1 : Int32) (u : S2) : Option (S2) := f_X7_stopAllBut_7_2  FUEL v1 (0 : Int32) u
set_option maxRecDepth 20000 in
theorem c_X7_stopAllBut_7 (ad : Nat → Nat) (v1 : Int32)  (u : S2) (w : S2) (hf : f_X7_stopAllBut_7 v1 u = some w) : HV yX7_stopAllBut cX7_stopAllBut 3 none 0 0 ad [.ref (ad 7), .int v1] u w := by
  refine HV_of (by decide) (Nat.le_of_ble_eq_true rfl) (fun K C hR E => ?_)
  refine r_sub [(0, .ref (ad 7)), (1, .int v1)] [0, 1] rfl ?_
  unfold f_X7_stopAllBut_7 at hf
  refine r_iconst (v := 0) 1 C dX7_stopAllBut_0 (by decide) rfl ?_
  refine r_istore_n 2 [(0, .ref (ad 7)), (1, .int v1), (2, .int (0 : Int32))] [1, 2, 0] C dX7_stopAllBut_1 rfl (by decide) rfl rfl ?_
  refine r_sub [(0, .ref (ad 7)), (1, .int v1), (2, .int (0 : Int32))] [0, 1, 2] rfl ?_
  exact w_X7_stopAllBut_7_2 C hR E  FUEL v1 (0 : Int32)   u hf
def f_X7_pointerAt_7 (v1 : Int32) (u : S2) : Option (Option Nat × S2) := bd (f_X11_isWithin v1 (0 : Int32) (2 : Int32) u) (fun r0 u0 => (if r0 = 0 then some (none, u0) else ck (inb v1 3) (nm (13 + Int32.toNatClampNeg v1) (fun kp0 => some (some kp0, u0)))))
set_option maxRecDepth 20000 in
theorem c_X7_pointerAt_7 (ad : Nat → Nat) (v1 : Int32)  (u : S2) (r : Option Nat) (w : S2) (hf : f_X7_pointerAt_7 v1 u = some (r, w)) : HQ yX7_pointerAt cX7_pointerAt 2 (some (.object "NorthWheel$Pointer")) 1 22 ad [.ref (ad 7), .int v1] u r w := by
  refine HQ_of (by decide) (Nat.le_of_ble_eq_true rfl) (fun K C hR E => ?_)
  refine r_sub [(0, .ref (ad 7)), (1, .int v1)] [0, 1] rfl ?_
  unfold f_X7_pointerAt_7 at hf
  refine r_iload_n 1 1 C dX7_pointerAt_0 rfl rfl rfl ?_
  refine r_iconst (v := 0) 2 C dX7_pointerAt_1 (by decide) rfl ?_
  refine r_iconst (v := 2) 3 C dX7_pointerAt_2 (by decide) rfl ?_
  obtain ⟨r0, u0, h0, hf⟩ := bd_of hf
  refine r_cSNI 6 [.int v1, .int (0 : Int32), .int (2 : Int32)] C hR (c_X11_isWithin ad v1 (0 : Int32) (2 : Int32)    u r0 u0 h0) q_X11_isWithin tn_393 tw_357 (Nat.le_of_ble_eq_true rfl) (Nat.le_of_ble_eq_true rfl) rfl rfl (Nat.le_of_ble_eq_true rfl) dX7_pointerAt_3 rfl ?_
  refine r_if_eq 9 18 C dX7_pointerAt_6 (by decide) rfl (fun c0 => ?_) (fun c0 => ?_)
  · have hf := ifT c0 hf
    refine r_null 19 C dX7_pointerAt_18 rfl ?_
    exact r_qret C E (pr2 hf) (by rw [← pr1 hf]; rfl) dX7_pointerAt_19
  · have hf := ifF c0 hf
    refine r_aload_n 10 0 C dX7_pointerAt_9 rfl rfl rfl ?_
    refine r_get 13 7 2 C inX7 (wd_7 ad u0) rfl (by decide) tw_107 rfl rfl dX7_pointerAt_10 rfl ?_
    refine r_iload_n 14 1 C dX7_pointerAt_13 rfl rfl rfl ?_
    obtain ⟨hc0, hf⟩ := ck_of hf
    refine r_aaload_8 15 C hc0 dX7_pointerAt_14 rfl ?_
    obtain ⟨kp0, ekp0, hf⟩ := nm_of hf
    obtain ⟨kp0a, kp0b⟩ := pt_13 ekp0 hc0
    refine r_nmR ekp0 ?_
    refine r_goto 19 C dX7_pointerAt_15 (by decide) ?_
    exact r_qret C E (pr2 hf) (by rw [← pr1 hf]; rfl) dX7_pointerAt_19
theorem pa_X7_pointerAt_7 {a : Int32} {u w : S2} {k : Nat} (h : f_X7_pointerAt_7 a u = some (some k, w)) : 10 ≤ k ∧ k < 18 := by
  unfold f_X7_pointerAt_7 at h
  obtain ⟨r, u0, h0, h⟩ := bd_of h
  by_cases c : r = 0
  · have h := ifT c h
    cases h
  · have h := ifF c h
    obtain ⟨hc, h⟩ := ck_of h
    obtain ⟨x, ex, h⟩ := nm_of h
    have e := Option.some.inj (pr1 h)
    exact pt_13 (e ▸ ex) hc
def f_X0_answerTo_19 (v1 : Int32) (v2 : Int32) (u : S2) : Option (Int32 × S2) := nm (u 20 1) (fun x0 => nm (u 20 2) (fun x1 => nm (u 20 3) (fun x2 => bd (f_X11_bounded (((v1 * x0) / (10000 : Int32)) - ((v2 * x1) / (10000 : Int32))) x2 u) (fun r0 u0 => some (r0, u0)))))
set_option maxRecDepth 20000 in
theorem c_X0_answerTo_19 (ad : Nat → Nat) (v1 : Int32) (v2 : Int32)   (u : S2) (r : Int32) (w : S2) (hf : f_X0_answerTo_19 v1 v2 u = some (r, w)) : HI yX0_answerTo cX0_answerTo 3 (some .int) 2 35 ad [.ref (ad 19), .int v1, .int v2] u r w := by
  refine HI_of (by decide) (Nat.le_of_ble_eq_true rfl) (fun K C hR E => ?_)
  refine r_sub [(0, .ref (ad 19)), (1, .int v1), (2, .int v2)] [0, 1, 2] rfl ?_
  unfold f_X0_answerTo_19 at hf
  refine r_iload_n 1 1 C dX0_answerTo_0 rfl rfl rfl ?_
  refine r_aload_n 2 0 C dX0_answerTo_1 rfl rfl rfl ?_
  refine r_get 5 19 0 C inX0 (wd_19 ad u) rfl (by decide) tw_158 rfl rfl dX0_answerTo_2 rfl ?_
  refine r_iconst (v := 1) 6 C dX0_answerTo_5 (by decide) rfl ?_
  refine r_iaload 7 20 6 C (wd_20 ad u) (by decide) dX0_answerTo_6 rfl ?_
  obtain ⟨x0, ex0, hf⟩ := nm_of hf
  refine r_nm ex0 ?_
  refine r_imul 8 C dX0_answerTo_7 rfl ?_
  refine r_sipush (v := 10000) 11 C dX0_answerTo_8 (by decide) rfl ?_
  refine r_idiv 12 C dX0_answerTo_11 (by decide) rfl ?_
  refine r_iload_n 13 2 C dX0_answerTo_12 rfl rfl rfl ?_
  refine r_aload_n 14 0 C dX0_answerTo_13 rfl rfl rfl ?_
  refine r_get 17 19 0 C inX0 (wd_19 ad u) rfl (by decide) tw_158 rfl rfl dX0_answerTo_14 rfl ?_
  refine r_iconst (v := 2) 18 C dX0_answerTo_17 (by decide) rfl ?_
  refine r_iaload 19 20 6 C (wd_20 ad u) (by decide) dX0_answerTo_18 rfl ?_
  obtain ⟨x1, ex1, hf⟩ := nm_of hf
  refine r_nm ex1 ?_
  refine r_imul 20 C dX0_answerTo_19 rfl ?_
  refine r_sipush (v := 10000) 23 C dX0_answerTo_20 (by decide) rfl ?_
  refine r_idiv 24 C dX0_answerTo_23 (by decide) rfl ?_
  refine r_isub 25 C dX0_answerTo_24 rfl ?_
  refine r_aload_n 26 0 C dX0_answerTo_25 rfl rfl rfl ?_
  refine r_get 29 19 0 C inX0 (wd_19 ad u) rfl (by decide) tw_158 rfl rfl dX0_answerTo_26 rfl ?_
  refine r_iconst (v := 3) 30 C dX0_answerTo_29 (by decide) rfl ?_
  refine r_iaload 31 20 6 C (wd_20 ad u) (by decide) dX0_answerTo_30 rfl ?_
  obtain ⟨x2, ex2, hf⟩ := nm_of hf
  refine r_nm ex2 ?_
  obtain ⟨r0, u0, h0, hf⟩ := bd_of hf
  refine r_cSNI 34 [.int (((v1 * x0) / (10000 : Int32)) - ((v2 * x1) / (10000 : Int32))), .int x2] C hR (c_X11_bounded ad (((v1 * x0) / (10000 : Int32)) - ((v2 * x1) / (10000 : Int32))) x2   u r0 u0 h0) q_X11_bounded tn_490 tw_491 (Nat.le_of_ble_eq_true rfl) (Nat.le_of_ble_eq_true rfl) rfl rfl (Nat.le_of_ble_eq_true rfl) dX0_answerTo_31 rfl ?_
  exact r_iret C E (pr1 hf) (pr2 hf) dX0_answerTo_34
def f_X0_steerShip_19_7_127  (t1 : Int32) (u : S2) : Option (S2) := nm (wr u 7 6 t1) (fun u0 => some u0)
set_option maxRecDepth 20000 in
theorem w_X0_steerShip_19_7_127 {K : Ctx} {ad : Nat → Nat} (C : Cx K ad cX0_steerShip 7 yX0_steerShip.cls none) (hR : Rm K 4 81) {w : S2} (E : EV K ad w)  (t1 : Int32)  (u : S2) (hf : f_X0_steerShip_19_7_127  t1 u = some w) : RW K ad 7 127 [] [.int t1, .ref (ad 7)] u := by
  unfold f_X0_steerShip_19_7_127 at hf
  refine r_putN 130 7 6 C inX7 tyX7_ok nmX7 (wd_7 ad u) (sF_7_6 ad u t1) rfl (by decide) tn_122 rfl rfl (tyX7_ok 6 (by decide)) rfl rfl (Nat.le_of_ble_eq_true rfl) dX0_steerShip_127 rfl ?_
  obtain ⟨u0, eu0, hf⟩ := nm_of hf
  refine r_st eu0 ?_
  exact r_vret C E (so_of hf) dX0_steerShip_130
def f_X0_steerShip_19_7_84  (v4 : Int32) (v5 : Int32) (t0 : Int32) (u : S2) : Option (S2) := nm (wr u 19 2 (1 : Int32)) (fun u0 => nm (wr u0 19 3 v4) (fun u1 => nm (jabs v5) (fun x0 => nm (u1 20 0) (fun x1 => (if ((10 : Int32) * x1) < x0 then bd (f_X0_answerTo_19 v5 t0 u1) (fun r0 u2 => f_X0_steerShip_19_7_127   r0 u2) else f_X0_steerShip_19_7_127   (0 : Int32) u1)))))
set_option maxRecDepth 20000 in
theorem w_X0_steerShip_19_7_84 {K : Ctx} {ad : Nat → Nat} (C : Cx K ad cX0_steerShip 7 yX0_steerShip.cls none) (hR : Rm K 4 81) {w : S2} (E : EV K ad w)  (v4 : Int32) (v5 : Int32) (t0 : Int32)    (u : S2) (hf : f_X0_steerShip_19_7_84  v4 v5 t0 u = some w) : RW K ad 7 84 [(0, .ref (ad 19)), (1, .ref (ad 7)), (4, .int v4), (5, .int v5)] [.int t0] u := by
  unfold f_X0_steerShip_19_7_84 at hf
  refine r_istore 86 [(0, .ref (ad 19)), (1, .ref (ad 7)), (4, .int v4), (5, .int v5), (6, .int t0)] [1, 2, 3, 4, 0] C dX0_steerShip_84 (by decide) rfl rfl ?_
  refine r_aload_n 87 0 C dX0_steerShip_86 rfl rfl rfl ?_
  refine r_iconst (v := 1) 88 C dX0_steerShip_87 (by decide) rfl ?_
  refine r_put 91 19 2 C inX0 tyX0_ok nmX0 (wd_19 ad u) (sF_19_2 ad u (1 : Int32)) rfl (by decide) tw_164 rfl rfl (tyX0_ok 2 (by decide)) rfl rfl (Nat.le_of_ble_eq_true rfl) dX0_steerShip_88 rfl ?_
  obtain ⟨u0, eu0, hf⟩ := nm_of hf
  refine r_st eu0 ?_
  refine r_aload_n 92 0 C dX0_steerShip_91 rfl rfl rfl ?_
  refine r_iload 94 2 C dX0_steerShip_92 rfl rfl ?_
  refine r_put 97 19 3 C inX0 tyX0_ok nmX0 (wd_19 ad u0) (sF_19_3 ad u0 v4) rfl (by decide) tw_165 rfl rfl (tyX0_ok 3 (by decide)) rfl rfl (Nat.le_of_ble_eq_true rfl) dX0_steerShip_94 rfl ?_
  obtain ⟨u1, eu1, hf⟩ := nm_of hf
  refine r_st eu1 ?_
  refine r_aload_n 98 1 C dX0_steerShip_97 rfl rfl rfl ?_
  refine r_iload 100 3 C dX0_steerShip_98 rfl rfl ?_
  refine r_mabs 103 C hR tw_485 tw_451 tw_15 tw_452 (Nat.le_of_ble_eq_true rfl) (Nat.le_of_ble_eq_true rfl) dX0_steerShip_100 rfl ?_
  obtain ⟨x0, ex0, hf⟩ := nm_of hf
  refine r_nm ex0 ?_
  refine r_bipush (v := 10) 105 C dX0_steerShip_103 (by decide) rfl ?_
  refine r_aload_n 106 0 C dX0_steerShip_105 rfl rfl rfl ?_
  refine r_get 109 19 0 C inX0 (wd_19 ad u1) rfl (by decide) tw_158 rfl rfl dX0_steerShip_106 rfl ?_
  refine r_iconst (v := 0) 110 C dX0_steerShip_109 (by decide) rfl ?_
  refine r_iaload 111 20 6 C (wd_20 ad u1) (by decide) dX0_steerShip_110 rfl ?_
  obtain ⟨x1, ex1, hf⟩ := nm_of hf
  refine r_nm ex1 ?_
  refine r_imul 112 C dX0_steerShip_111 rfl ?_
  refine r_icmp_gt 115 119 C dX0_steerShip_112 (by decide) rfl (fun c0 => ?_) (fun c0 => ?_)
  · have hf := ifT c0 hf
    refine r_aload_n 120 0 C dX0_steerShip_119 rfl rfl rfl ?_
    refine r_iload 122 3 C dX0_steerShip_120 rfl rfl ?_
    refine r_iload 124 4 C dX0_steerShip_122 rfl rfl ?_
    obtain ⟨r0, u2, h0, hf⟩ := bd_of hf
    refine r_cVI 127 [.int v5, .int t0] C hR (c_X0_answerTo_19 ad v5 t0    u1 r0 u2 h0) q_X0_answerTo tw_486 (wd_19 ad u1) rfl rfl tw_488 tp_7 (Nat.le_of_ble_eq_true rfl) (Nat.le_of_ble_eq_true rfl) rfl rfl (Nat.le_of_ble_eq_true rfl) dX0_steerShip_124 rfl ?_
    refine r_sub [] [] rfl ?_
    exact w_X0_steerShip_19_7_127 C hR E   r0  u2 hf
  · have hf := ifF c0 hf
    refine r_iconst (v := 0) 116 C dX0_steerShip_115 (by decide) rfl ?_
    refine r_goto 127 C dX0_steerShip_116 (by decide) ?_
    refine r_sub [] [] rfl ?_
    exact w_X0_steerShip_19_7_127 C hR E   (0 : Int32)  u1 hf
def f_X0_steerShip_19_7  (u : S2) : Option (S2) := nm (u 20 4) (fun x0 => nm (u 20 5) (fun x1 => bq (f_X7_pointerAt_7 x1 u) (fun p0 u0 => match p0 with | none => (if x0 < (1 : Int32) then some u0 else ck (nz x0) (nm ((u0 7 8) - (u0 7 8) / x0 * x0) (fun x2 => (if x2 = 0 then some u0 else some u0)))) | some kp0 => (if x0 < (1 : Int32) then some u0 else ck (nz x0) (nm ((u0 7 8) - (u0 7 8) / x0 * x0) (fun x3 => (if x3 = 0 then bd (f_X4_shownAt kp0 (u0 7 4) u0) (fun r0 u1 => bd (f_X11_asOff ((u1 19 1) - r0) u1) (fun r1 u2 => (if (u2 19 2) = 0 then f_X0_steerShip_19_7_84   r0 r1 (0 : Int32) u2 else bd (f_X11_asOff (r0 - (u2 19 3)) u2) (fun r2 u3 => f_X0_steerShip_19_7_84   r0 r1 r2 u3)))) else some u0)))))))
set_option maxRecDepth 20000 in
theorem c_X0_steerShip_19_7 (ad : Nat → Nat)   (u : S2) (w : S2) (hf : f_X0_steerShip_19_7  u = some w) : HV yX0_steerShip cX0_steerShip 7 none 4 81 ad [.ref (ad 19), .ref (ad 7)] u w := by
  refine HV_of (by decide) (Nat.le_of_ble_eq_true rfl) (fun K C hR E => ?_)
  refine r_sub [(0, .ref (ad 19)), (1, .ref (ad 7))] [0, 1] rfl ?_
  unfold f_X0_steerShip_19_7 at hf
  refine r_aload_n 1 0 C dX0_steerShip_0 rfl rfl rfl ?_
  refine r_get 4 19 0 C inX0 (wd_19 ad u) rfl (by decide) tw_158 rfl rfl dX0_steerShip_1 rfl ?_
  refine r_iconst (v := 4) 5 C dX0_steerShip_4 (by decide) rfl ?_
  refine r_iaload 6 20 6 C (wd_20 ad u) (by decide) dX0_steerShip_5 rfl ?_
  obtain ⟨x0, ex0, hf⟩ := nm_of hf
  refine r_nm ex0 ?_
  refine r_istore_n 7 [(0, .ref (ad 19)), (1, .ref (ad 7)), (2, .int x0)] [1, 2, 0] C dX0_steerShip_6 rfl (by decide) rfl rfl ?_
  refine r_aload_n 8 1 C dX0_steerShip_7 rfl rfl rfl ?_
  refine r_aload_n 9 0 C dX0_steerShip_8 rfl rfl rfl ?_
  refine r_get 12 19 0 C inX0 (wd_19 ad u) rfl (by decide) tw_158 rfl rfl dX0_steerShip_9 rfl ?_
  refine r_iconst (v := 5) 13 C dX0_steerShip_12 (by decide) rfl ?_
  refine r_iaload 14 20 6 C (wd_20 ad u) (by decide) dX0_steerShip_13 rfl ?_
  obtain ⟨x1, ex1, hf⟩ := nm_of hf
  refine r_nm ex1 ?_
  obtain ⟨p0, u0, h0, hf⟩ := bq_of hf
  refine r_cVNQ 17 [.int x1] C hR (c_X7_pointerAt_7 ad x1   u p0 u0 h0) q_X7_pointerAt tn_480 (wd_7 ad u) rfl rfl tw_391 tp_1 (Nat.le_of_ble_eq_true rfl) (Nat.le_of_ble_eq_true rfl) rfl rfl (Nat.le_of_ble_eq_true rfl) dX0_steerShip_14 rfl ?_
  cases p0 with
  | none =>
    refine r_astore_nN 18 [(0, .ref (ad 19)), (1, .ref (ad 7)), (2, .int x0), (3, .null)] [1, 2, 3, 0] C dX0_steerShip_17 rfl (by decide) rfl rfl ?_
    refine r_iload_n 19 2 C dX0_steerShip_18 rfl rfl rfl ?_
    refine r_iconst (v := 1) 20 C dX0_steerShip_19 (by decide) rfl ?_
    refine r_icmp_lt 23 36 C dX0_steerShip_20 (by decide) rfl (fun c0 => ?_) (fun c0 => ?_)
    · have hf := ifT c0 hf
      exact r_vret C E (so_of hf) dX0_steerShip_36
    · have hf := ifF c0 hf
      refine r_aload_n 24 1 C dX0_steerShip_23 rfl rfl rfl ?_
      refine r_getN 27 7 8 C inX7 (wd_7 ad u0) rfl (by decide) tn_126 rfl rfl dX0_steerShip_24 rfl ?_
      refine r_iload_n 28 2 C dX0_steerShip_27 rfl rfl rfl ?_
      obtain ⟨hc0, hf⟩ := ck_of hf
      refine r_irem 29 C dX0_steerShip_28 (nz_ne hc0) rfl ?_
      obtain ⟨x2, ex2, hf⟩ := nm_of hf
      refine r_nm ex2 ?_
      refine r_if_ne 32 36 C dX0_steerShip_29 (by decide) rfl (fun c1 => ?_) (fun c1 => ?_)
      · have hf := ifF c1 hf
        exact r_vret C E (so_of hf) dX0_steerShip_36
      · have hf := ifT c1 hf
        refine r_aload_nN 33 3 C dX0_steerShip_32 rfl rfl rfl ?_
        refine r_ifnonnullN 36 C dX0_steerShip_33 rfl ?_
        exact r_vret C E (so_of hf) dX0_steerShip_36
  | some kp0 =>
    obtain ⟨kp0a, kp0b⟩ := pa_X7_pointerAt_7 h0
    refine r_astore_n 18 [(0, .ref (ad 19)), (1, .ref (ad 7)), (2, .int x0), (3, .ref (ad kp0))] [1, 2, 3, 0] C dX0_steerShip_17 rfl (by decide) rfl rfl ?_
    refine r_iload_n 19 2 C dX0_steerShip_18 rfl rfl rfl ?_
    refine r_iconst (v := 1) 20 C dX0_steerShip_19 (by decide) rfl ?_
    refine r_icmp_lt 23 36 C dX0_steerShip_20 (by decide) rfl (fun c2 => ?_) (fun c2 => ?_)
    · have hf := ifT c2 hf
      exact r_vret C E (so_of hf) dX0_steerShip_36
    · have hf := ifF c2 hf
      refine r_aload_n 24 1 C dX0_steerShip_23 rfl rfl rfl ?_
      refine r_getN 27 7 8 C inX7 (wd_7 ad u0) rfl (by decide) tn_126 rfl rfl dX0_steerShip_24 rfl ?_
      refine r_iload_n 28 2 C dX0_steerShip_27 rfl rfl rfl ?_
      obtain ⟨hc1, hf⟩ := ck_of hf
      refine r_irem 29 C dX0_steerShip_28 (nz_ne hc1) rfl ?_
      obtain ⟨x3, ex3, hf⟩ := nm_of hf
      refine r_nm ex3 ?_
      refine r_if_ne 32 36 C dX0_steerShip_29 (by decide) rfl (fun c3 => ?_) (fun c3 => ?_)
      · have hf := ifF c3 hf
        exact r_vret C E (so_of hf) dX0_steerShip_36
      · have hf := ifT c3 hf
        refine r_aload_n 33 3 C dX0_steerShip_32 rfl rfl rfl ?_
        refine r_ifnonnull 37 C dX0_steerShip_33 (by decide) ?_
        refine r_aload_n 38 3 C dX0_steerShip_37 rfl rfl rfl ?_
        refine r_aload_n 39 1 C dX0_steerShip_38 rfl rfl rfl ?_
        refine r_getN 42 7 4 C inX7 (wd_7 ad u0) rfl (by decide) tn_114 rfl rfl dX0_steerShip_39 rfl ?_
        refine r_aload_n 43 1 C dX0_steerShip_42 rfl rfl rfl ?_
        refine r_getN 46 7 1 C inX7 (wd_7 ad u0) rfl (by decide) tn_106 rfl rfl dX0_steerShip_43 rfl ?_
        obtain ⟨r0, u1, h1, hf⟩ := bd_of hf
        refine r_cVNI 49 [.int (u0 7 4), .ref (ad 3)] C hR (c_X4_shownAt ad kp0 (u0 7 4) kp0a kp0b   u0 r0 u1 h1) q_X4_shownAt tn_481 (wd_P ad u0 kp0a kp0b) rfl rfl tw_430 tp_4 (Nat.le_of_ble_eq_true rfl) (Nat.le_of_ble_eq_true rfl) rfl rfl (Nat.le_of_ble_eq_true rfl) dX0_steerShip_46 rfl ?_
        refine r_istore 51 [(0, .ref (ad 19)), (1, .ref (ad 7)), (2, .int x0), (3, .ref (ad kp0)), (4, .int r0)] [1, 2, 3, 4, 0] C dX0_steerShip_49 (by decide) rfl rfl ?_
        refine r_aload_n 52 0 C dX0_steerShip_51 rfl rfl rfl ?_
        refine r_get 55 19 1 C inX0 (wd_19 ad u1) rfl (by decide) tw_161 rfl rfl dX0_steerShip_52 rfl ?_
        refine r_iload 57 4 C dX0_steerShip_55 rfl rfl ?_
        refine r_isub 58 C dX0_steerShip_57 rfl ?_
        obtain ⟨r1, u2, h2, hf⟩ := bd_of hf
        refine r_cSNI 61 [.int ((u1 19 1) - r0)] C hR (c_X11_asOff ad ((u1 19 1) - r0)  u1 r1 u2 h2) q_X11_asOff tn_482 tw_483 (Nat.le_of_ble_eq_true rfl) (Nat.le_of_ble_eq_true rfl) rfl rfl (Nat.le_of_ble_eq_true rfl) dX0_steerShip_58 rfl ?_
        refine r_istore 63 [(0, .ref (ad 19)), (1, .ref (ad 7)), (2, .int x0), (3, .ref (ad kp0)), (4, .int r0), (5, .int r1)] [1, 2, 3, 4, 5, 0] C dX0_steerShip_61 (by decide) rfl rfl ?_
        refine r_aload_n 64 0 C dX0_steerShip_63 rfl rfl rfl ?_
        refine r_get 67 19 2 C inX0 (wd_19 ad u2) rfl (by decide) tw_164 rfl rfl dX0_steerShip_64 rfl ?_
        refine r_if_eq 70 83 C dX0_steerShip_67 (by decide) rfl (fun c4 => ?_) (fun c4 => ?_)
        · have hf := ifT c4 hf
          refine r_iconst (v := 0) 84 C dX0_steerShip_83 (by decide) rfl ?_
          refine r_sub [(0, .ref (ad 19)), (1, .ref (ad 7)), (4, .int r0), (5, .int r1)] [0, 1, 4, 5] rfl ?_
          exact w_X0_steerShip_19_7_84 C hR E   r0 r1 (0 : Int32)    u2 hf
        · have hf := ifF c4 hf
          refine r_iload 72 4 C dX0_steerShip_70 rfl rfl ?_
          refine r_aload_n 73 0 C dX0_steerShip_72 rfl rfl rfl ?_
          refine r_get 76 19 3 C inX0 (wd_19 ad u2) rfl (by decide) tw_165 rfl rfl dX0_steerShip_73 rfl ?_
          refine r_isub 77 C dX0_steerShip_76 rfl ?_
          obtain ⟨r2, u3, h3, hf⟩ := bd_of hf
          refine r_cSNI 80 [.int (r0 - (u2 19 3))] C hR (c_X11_asOff ad (r0 - (u2 19 3))  u2 r2 u3 h3) q_X11_asOff tn_482 tw_483 (Nat.le_of_ble_eq_true rfl) (Nat.le_of_ble_eq_true rfl) rfl rfl (Nat.le_of_ble_eq_true rfl) dX0_steerShip_77 rfl ?_
          refine r_goto 84 C dX0_steerShip_80 (by decide) ?_
          refine r_sub [(0, .ref (ad 19)), (1, .ref (ad 7)), (4, .int r0), (5, .int r1)] [0, 1, 4, 5] rfl ?_
          exact w_X0_steerShip_19_7_84 C hR E   r0 r1 r2    u3 hf
def f_X4_tickIn_7_77  (k0 : Nat) (v2 : Int32) (u : S2) : Option (S2) := bd (f_X11_leanOf (u 7 5) (u 7 3) (u 7 4) u) (fun r0 u0 => bd (f_X11_holdOf (u0 7 3) u0) (fun r1 u1 => bd (f_X11_asOff ((u1 k0 4) - r0) u1) (fun r2 u2 => bv (f_X4_sway k0 r1 r2 v2 (1 : Int32) u2) (fun u3 => some u3))))
set_option maxRecDepth 20000 in
theorem w_X4_tickIn_7_77 {K : Ctx} {ad : Nat → Nat} (C : Cx K ad cX4_tickIn 4 yX4_tickIn.cls none) (hR : Rm K 3 66) {w : S2} (E : EV K ad w)  (k0 : Nat) (v2 : Int32) (k0a : 10 ≤ k0) (k0b : k0 < 18)  (u : S2) (hf : f_X4_tickIn_7_77  k0 v2 u = some w) : RW K ad 4 77 [(0, .ref (ad k0)), (1, .ref (ad 7)), (2, .int v2)] [] u := by
  unfold f_X4_tickIn_7_77 at hf
  refine r_aload_n 78 1 C dX4_tickIn_77 rfl rfl rfl ?_
  refine r_getN 81 7 5 C inX7 (wd_7 ad u) rfl (by decide) tn_118 rfl rfl dX4_tickIn_78 rfl ?_
  refine r_aload_n 82 1 C dX4_tickIn_81 rfl rfl rfl ?_
  refine r_getN 85 7 3 C inX7 (wd_7 ad u) rfl (by decide) tn_110 rfl rfl dX4_tickIn_82 rfl ?_
  refine r_aload_n 86 1 C dX4_tickIn_85 rfl rfl rfl ?_
  refine r_getN 89 7 4 C inX7 (wd_7 ad u) rfl (by decide) tn_115 rfl rfl dX4_tickIn_86 rfl ?_
  obtain ⟨r0, u0, h0, hf⟩ := bd_of hf
  refine r_cSNI 92 [.int (u 7 5), .int (u 7 3), .int (u 7 4)] C hR (c_X11_leanOf ad (u 7 5) (u 7 3) (u 7 4)    u r0 u0 h0) q_X11_leanOf tn_444 tw_445 (Nat.le_of_ble_eq_true rfl) (Nat.le_of_ble_eq_true rfl) rfl rfl (Nat.le_of_ble_eq_true rfl) dX4_tickIn_89 rfl ?_
  refine r_istore_n 93 [(0, .ref (ad k0)), (1, .ref (ad 7)), (2, .int v2), (3, .int r0)] [1, 2, 3, 0] C dX4_tickIn_92 rfl (by decide) rfl rfl ?_
  refine r_aload_n 94 0 C dX4_tickIn_93 rfl rfl rfl ?_
  refine r_aload_n 95 1 C dX4_tickIn_94 rfl rfl rfl ?_
  refine r_getN 98 7 3 C inX7 (wd_7 ad u0) rfl (by decide) tn_110 rfl rfl dX4_tickIn_95 rfl ?_
  obtain ⟨r1, u1, h1, hf⟩ := bd_of hf
  refine r_cSNI 101 [.int (u0 7 3)] C hR (c_X11_holdOf ad (u0 7 3)  u0 r1 u1 h1) q_X11_holdOf tn_511 tw_448 (Nat.le_of_ble_eq_true rfl) (Nat.le_of_ble_eq_true rfl) rfl rfl (Nat.le_of_ble_eq_true rfl) dX4_tickIn_98 rfl ?_
  refine r_aload_n 102 0 C dX4_tickIn_101 rfl rfl rfl ?_
  refine r_get 105 k0 4 C inX4 (wd_P ad u1 k0a k0b) rfl (by decide) tw_77 rfl rfl dX4_tickIn_102 rfl ?_
  refine r_iload_n 106 3 C dX4_tickIn_105 rfl rfl rfl ?_
  refine r_isub 107 C dX4_tickIn_106 rfl ?_
  obtain ⟨r2, u2, h2, hf⟩ := bd_of hf
  refine r_cSNI 110 [.int ((u1 k0 4) - r0)] C hR (c_X11_asOff ad ((u1 k0 4) - r0)  u1 r2 u2 h2) q_X11_asOff tn_510 tw_483 (Nat.le_of_ble_eq_true rfl) (Nat.le_of_ble_eq_true rfl) rfl rfl (Nat.le_of_ble_eq_true rfl) dX4_tickIn_107 rfl ?_
  refine r_iload_n 111 2 C dX4_tickIn_110 rfl rfl rfl ?_
  refine r_iconst (v := 1) 112 C dX4_tickIn_111 (by decide) rfl ?_
  obtain ⟨u3, h3, hf⟩ := bv_of hf
  refine r_cVV 115 [.int r1, .int r2, .int v2, .int (1 : Int32)] C hR (c_X4_sway ad k0 r1 r2 v2 (1 : Int32) k0a k0b     u2 u3 h3) q_X4_sway tw_512 (wd_P ad u2 k0a k0b) rfl rfl tw_514 tp_11 (Nat.le_of_ble_eq_true rfl) (Nat.le_of_ble_eq_true rfl) rfl rfl (Nat.le_of_ble_eq_true rfl) dX4_tickIn_112 rfl ?_
  exact r_vret C E (so_of hf) dX4_tickIn_115
def f_X4_tickIn_7 (k0 : Nat) (v2 : Int32) (u : S2) : Option (S2) := (if (u k0 0) = (1 : Int32) then bd (f_X11_asOff ((u k0 4) - (((25 : Int32) * (u 7 3)) / (90 : Int32))) u) (fun r1 u2 => nm (wr u2 k0 4 r1) (fun u3 => some u3)) else (if (u k0 0) = (2 : Int32) then bd (f_X11_holdOf (u 7 3) u) (fun r0 u0 => bv (f_X4_sway k0 r0 (u0 k0 4) v2 (0 : Int32) u0) (fun u1 => some u1)) else (if (u k0 0) = (3 : Int32) then f_X4_tickIn_7_77   k0 v2 u else (if (u k0 0) = (4 : Int32) then f_X4_tickIn_7_77   k0 v2 u else some u))))
set_option maxRecDepth 20000 in
theorem c_X4_tickIn_7 (ad : Nat → Nat) (k0 : Nat) (v2 : Int32) (k0a : 10 ≤ k0) (k0b : k0 < 18)  (u : S2) (w : S2) (hf : f_X4_tickIn_7 k0 v2 u = some w) : HV yX4_tickIn cX4_tickIn 4 none 3 66 ad [.ref (ad k0), .ref (ad 7), .int v2] u w := by
  refine HV_of (by decide) (Nat.le_of_ble_eq_true rfl) (fun K C hR E => ?_)
  refine r_sub [(0, .ref (ad k0)), (1, .ref (ad 7)), (2, .int v2)] [0, 1, 2] rfl ?_
  unfold f_X4_tickIn_7 at hf
  refine r_aload_n 1 0 C dX4_tickIn_0 rfl rfl rfl ?_
  refine r_get 4 k0 0 C inX4 (wd_P ad u k0a k0b) rfl (by decide) tw_67 rfl rfl dX4_tickIn_1 rfl ?_
  refine r_iconst (v := 1) 5 C dX4_tickIn_4 (by decide) rfl ?_
  refine r_icmp_ne 8 33 C dX4_tickIn_5 (by decide) rfl (fun c0 => ?_) (fun c0 => ?_)
  · have hf := ifF c0 hf
    refine r_aload_n 34 0 C dX4_tickIn_33 rfl rfl rfl ?_
    refine r_get 37 k0 0 C inX4 (wd_P ad u k0a k0b) rfl (by decide) tw_67 rfl rfl dX4_tickIn_34 rfl ?_
    refine r_iconst (v := 2) 38 C dX4_tickIn_37 (by decide) rfl ?_
    refine r_icmp_ne 41 61 C dX4_tickIn_38 (by decide) rfl (fun c1 => ?_) (fun c1 => ?_)
    · have hf := ifF c1 hf
      refine r_aload_n 62 0 C dX4_tickIn_61 rfl rfl rfl ?_
      refine r_get 65 k0 0 C inX4 (wd_P ad u k0a k0b) rfl (by decide) tw_67 rfl rfl dX4_tickIn_62 rfl ?_
      refine r_iconst (v := 3) 66 C dX4_tickIn_65 (by decide) rfl ?_
      refine r_icmp_eq 69 77 C dX4_tickIn_66 (by decide) rfl (fun c2 => ?_) (fun c2 => ?_)
      · have hf := ifT c2 hf
        refine r_sub [(0, .ref (ad k0)), (1, .ref (ad 7)), (2, .int v2)] [0, 1, 2] rfl ?_
        exact w_X4_tickIn_7_77 C hR E   k0 v2 k0a k0b  u hf
      · have hf := ifF c2 hf
        refine r_aload_n 70 0 C dX4_tickIn_69 rfl rfl rfl ?_
        refine r_get 73 k0 0 C inX4 (wd_P ad u k0a k0b) rfl (by decide) tw_67 rfl rfl dX4_tickIn_70 rfl ?_
        refine r_iconst (v := 4) 74 C dX4_tickIn_73 (by decide) rfl ?_
        refine r_icmp_ne 77 115 C dX4_tickIn_74 (by decide) rfl (fun c3 => ?_) (fun c3 => ?_)
        · have hf := ifF c3 hf
          exact r_vret C E (so_of hf) dX4_tickIn_115
        · have hf := ifT c3 hf
          refine r_sub [(0, .ref (ad k0)), (1, .ref (ad 7)), (2, .int v2)] [0, 1, 2] rfl ?_
          exact w_X4_tickIn_7_77 C hR E   k0 v2 k0a k0b  u hf
    · have hf := ifT c1 hf
      refine r_aload_n 42 0 C dX4_tickIn_41 rfl rfl rfl ?_
      refine r_aload_n 43 1 C dX4_tickIn_42 rfl rfl rfl ?_
      refine r_getN 46 7 3 C inX7 (wd_7 ad u) rfl (by decide) tn_110 rfl rfl dX4_tickIn_43 rfl ?_
      obtain ⟨r0, u0, h0, hf⟩ := bd_of hf
      refine r_cSNI 49 [.int (u 7 3)] C hR (c_X11_holdOf ad (u 7 3)  u r0 u0 h0) q_X11_holdOf tn_511 tw_448 (Nat.le_of_ble_eq_true rfl) (Nat.le_of_ble_eq_true rfl) rfl rfl (Nat.le_of_ble_eq_true rfl) dX4_tickIn_46 rfl ?_
      refine r_aload_n 50 0 C dX4_tickIn_49 rfl rfl rfl ?_
      refine r_get 53 k0 4 C inX4 (wd_P ad u0 k0a k0b) rfl (by decide) tw_77 rfl rfl dX4_tickIn_50 rfl ?_
      refine r_iload_n 54 2 C dX4_tickIn_53 rfl rfl rfl ?_
      refine r_iconst (v := 0) 55 C dX4_tickIn_54 (by decide) rfl ?_
      obtain ⟨u1, h1, hf⟩ := bv_of hf
      refine r_cVV 58 [.int r0, .int (u0 k0 4), .int v2, .int (0 : Int32)] C hR (c_X4_sway ad k0 r0 (u0 k0 4) v2 (0 : Int32) k0a k0b     u0 u1 h1) q_X4_sway tw_512 (wd_P ad u0 k0a k0b) rfl rfl tw_514 tp_11 (Nat.le_of_ble_eq_true rfl) (Nat.le_of_ble_eq_true rfl) rfl rfl (Nat.le_of_ble_eq_true rfl) dX4_tickIn_55 rfl ?_
      refine r_goto 115 C dX4_tickIn_58 (by decide) ?_
      exact r_vret C E (so_of hf) dX4_tickIn_115
  · have hf := ifT c0 hf
    refine r_aload_n 9 0 C dX4_tickIn_8 rfl rfl rfl ?_
    refine r_aload_n 10 0 C dX4_tickIn_9 rfl rfl rfl ?_
    refine r_get 13 k0 4 C inX4 (wd_P ad u k0a k0b) rfl (by decide) tw_77 rfl rfl dX4_tickIn_10 rfl ?_
    refine r_bipush (v := 25) 15 C dX4_tickIn_13 (by decide) rfl ?_
    refine r_aload_n 16 1 C dX4_tickIn_15 rfl rfl rfl ?_
    refine r_getN 19 7 3 C inX7 (wd_7 ad u) rfl (by decide) tn_110 rfl rfl dX4_tickIn_16 rfl ?_
    refine r_imul 20 C dX4_tickIn_19 rfl ?_
    refine r_bipush (v := 90) 22 C dX4_tickIn_20 (by decide) rfl ?_
    refine r_idiv 23 C dX4_tickIn_22 (by decide) rfl ?_
    refine r_isub 24 C dX4_tickIn_23 rfl ?_
    obtain ⟨r1, u2, h2, hf⟩ := bd_of hf
    refine r_cSNI 27 [.int ((u k0 4) - (((25 : Int32) * (u 7 3)) / (90 : Int32)))] C hR (c_X11_asOff ad ((u k0 4) - (((25 : Int32) * (u 7 3)) / (90 : Int32)))  u r1 u2 h2) q_X11_asOff tn_510 tw_483 (Nat.le_of_ble_eq_true rfl) (Nat.le_of_ble_eq_true rfl) rfl rfl (Nat.le_of_ble_eq_true rfl) dX4_tickIn_24 rfl ?_
    refine r_put 30 k0 4 C inX4 tyX4_ok nmX4 (wd_P ad u2 k0a k0b) (sP_4 ad u2 k0a k0b r1) rfl (by decide) tw_77 rfl rfl (tyX4_ok 4 (by decide)) rfl rfl (Nat.le_of_ble_eq_true rfl) dX4_tickIn_27 rfl ?_
    obtain ⟨u3, eu3, hf⟩ := nm_of hf
    refine r_st eu3 ?_
    refine r_goto 115 C dX4_tickIn_30 (by decide) ?_
    exact r_vret C E (so_of hf) dX4_tickIn_115
def f_X7_tick_7_59   (u : S2) : Option (S2) := nm ((u 7 8) + (1 : Int32)) (fun x0 => nm (wr u 7 8 x0) (fun u0 => some u0))
set_option maxRecDepth 20000 in
theorem w_X7_tick_7_59 {K : Ctx} {ad : Nat → Nat} (C : Cx K ad cX7_tick 3 yX7_tick.cls none) (hR : Rm K 4 89) {w : S2} (E : EV K ad w)    (u : S2) (hf : f_X7_tick_7_59   u = some w) : RW K ad 3 59 [(0, .ref (ad 7))] [] u := by
  unfold f_X7_tick_7_59 at hf
  refine r_aload_n 60 0 C dX7_tick_59 rfl rfl rfl ?_
  refine r_dup 61 C dX7_tick_60 rfl rfl ?_
  refine r_get 64 7 8 C inX7 (wd_7 ad u) rfl (by decide) tw_125 rfl rfl dX7_tick_61 rfl ?_
  refine r_iconst (v := 1) 65 C dX7_tick_64 (by decide) rfl ?_
  refine r_iadd 66 C dX7_tick_65 rfl ?_
  obtain ⟨x0, ex0, hf⟩ := nm_of hf
  refine r_nm ex0 ?_
  refine r_put 69 7 8 C inX7 tyX7_ok nmX7 (wd_7 ad u) (sF_7_8 ad u x0) rfl (by decide) tw_125 rfl rfl (tyX7_ok 8 (by decide)) rfl rfl (Nat.le_of_ble_eq_true rfl) dX7_tick_66 rfl ?_
  obtain ⟨u0, eu0, hf⟩ := nm_of hf
  refine r_st eu0 ?_
  exact r_vret C E (so_of hf) dX7_tick_69
def f_X7_tick_7_37  : Nat → Int32 → Int32 → S2 → Option (S2)
  | 0, _, _, _ => none
  | n + 1, v1, v2, u => (if (3 : Int32) ≤ v2 then f_X7_tick_7_59    u else ck (inb v2 3) (nm (13 + Int32.toNatClampNeg v2) (fun kp0 => bv (f_X4_tickIn_7 kp0 v1 u) (fun u0 => nm (v2 + (1 : Int32)) (fun x0 => f_X7_tick_7_37  n v1 x0 u0)))))
theorem f_X7_tick_7_37_e  (n : Nat) (v1 : Int32) (v2 : Int32) (u : S2) : f_X7_tick_7_37  (n + 1) v1 v2 u = (if (3 : Int32) ≤ v2 then f_X7_tick_7_59    u else ck (inb v2 3) (nm (13 + Int32.toNatClampNeg v2) (fun kp0 => bv (f_X4_tickIn_7 kp0 v1 u) (fun u0 => nm (v2 + (1 : Int32)) (fun x0 => f_X7_tick_7_37  n v1 x0 u0))))) := rfl
set_option maxRecDepth 20000 in
theorem w_X7_tick_7_37 {K : Ctx} {ad : Nat → Nat} (C : Cx K ad cX7_tick 3 yX7_tick.cls none) (hR : Rm K 4 89) {w : S2} (E : EV K ad w)  : ∀ (n : Nat) (v1 : Int32) (v2 : Int32)   (u : S2) (hf : f_X7_tick_7_37  n v1 v2 u = some w), RW K ad 3 37 [(0, .ref (ad 7)), (1, .int v1), (2, .int v2)] [] u := by
  intro n
  induction n with
  | zero => intro v1 v2   u hf; cases hf
  | succ n ih =>
    intro v1 v2   u hf
    rw [f_X7_tick_7_37_e] at hf
    refine r_iload_n 38 2 C dX7_tick_37 rfl rfl rfl ?_
    refine r_iconst (v := 3) 39 C dX7_tick_38 (by decide) rfl ?_
    refine r_icmp_ge 42 59 C dX7_tick_39 (by decide) rfl (fun c0 => ?_) (fun c0 => ?_)
    · have hf := ifT c0 hf
      refine r_sub [(0, .ref (ad 7))] [0] rfl ?_
      exact w_X7_tick_7_59 C hR E     u hf
    · have hf := ifF c0 hf
      refine r_aload_n 43 0 C dX7_tick_42 rfl rfl rfl ?_
      refine r_get 46 7 2 C inX7 (wd_7 ad u) rfl (by decide) tw_107 rfl rfl dX7_tick_43 rfl ?_
      refine r_iload_n 47 2 C dX7_tick_46 rfl rfl rfl ?_
      obtain ⟨hc0, hf⟩ := ck_of hf
      refine r_aaload_8 48 C hc0 dX7_tick_47 rfl ?_
      obtain ⟨kp0, ekp0, hf⟩ := nm_of hf
      obtain ⟨kp0a, kp0b⟩ := pt_13 ekp0 hc0
      refine r_nmR ekp0 ?_
      refine r_aload_n 49 0 C dX7_tick_48 rfl rfl rfl ?_
      refine r_iload_n 50 1 C dX7_tick_49 rfl rfl rfl ?_
      obtain ⟨u0, h0, hf⟩ := bv_of hf
      refine r_cVNV 53 [.ref (ad 7), .int v1] C hR (c_X4_tickIn_7 ad kp0 v1 kp0a kp0b   u u0 h0) q_X4_tickIn tn_506 (wd_P ad u kp0a kp0b) rfl rfl tw_508 tp_10 (Nat.le_of_ble_eq_true rfl) (Nat.le_of_ble_eq_true rfl) rfl rfl (Nat.le_of_ble_eq_true rfl) dX7_tick_50 rfl ?_
      obtain ⟨x0, ex0, hf⟩ := nm_of hf
      refine r_iinc (v := x0) 56 2 [(0, .ref (ad 7)), (1, .int v1), (2, .int x0)] [1, 2, 0] C dX7_tick_53 rfl (by rw [ex0]; rfl) (by decide) rfl rfl ?_
      refine r_goto 37 C dX7_tick_56 (by decide) ?_
      refine r_sub [(0, .ref (ad 7)), (1, .int v1), (2, .int x0)] [0, 1, 2] rfl ?_
      exact ih v1 x0   u0 hf
def f_X7_tick_7  (u : S2) : Option (S2) := bd (f_X6_yawOf (u 7 8) u) (fun r0 u0 => nm (((u 7 6) * (u 7 7)) + r0) (fun x0 => bd (f_X11_asHeading ((u0 7 4) + x0) u0) (fun r1 u1 => nm (wr u1 7 4 r1) (fun u2 => f_X7_tick_7_37  FUEL x0 (0 : Int32) u2))))
set_option maxRecDepth 20000 in
theorem c_X7_tick_7 (ad : Nat → Nat)   (u : S2) (w : S2) (hf : f_X7_tick_7  u = some w) : HV yX7_tick cX7_tick 3 none 4 89 ad [.ref (ad 7)] u w := by
  refine HV_of (by decide) (Nat.le_of_ble_eq_true rfl) (fun K C hR E => ?_)
  refine r_sub [(0, .ref (ad 7))] [0] rfl ?_
  unfold f_X7_tick_7 at hf
  refine r_aload_n 1 0 C dX7_tick_0 rfl rfl rfl ?_
  refine r_get 4 7 6 C inX7 (wd_7 ad u) rfl (by decide) tw_119 rfl rfl dX7_tick_1 rfl ?_
  refine r_aload_n 5 0 C dX7_tick_4 rfl rfl rfl ?_
  refine r_get 8 7 7 C inX7 (wd_7 ad u) rfl (by decide) tw_123 rfl rfl dX7_tick_5 rfl ?_
  refine r_imul 9 C dX7_tick_8 rfl ?_
  refine r_aload_n 10 0 C dX7_tick_9 rfl rfl rfl ?_
  refine r_get 13 7 0 C inX7 (wd_7 ad u) rfl (by decide) tw_104 rfl rfl dX7_tick_10 rfl ?_
  refine r_aload_n 14 0 C dX7_tick_13 rfl rfl rfl ?_
  refine r_get 17 7 8 C inX7 (wd_7 ad u) rfl (by decide) tw_125 rfl rfl dX7_tick_14 rfl ?_
  obtain ⟨r0, u0, h0, hf⟩ := bd_of hf
  refine r_cVNI 20 [.int (u 7 8)] C hR (c_X6_yawOf ad (u 7 8)   u r0 u0 h0) q_X6_yawOf tn_500 (wd_1 ad u) rfl rfl tw_502 tp_9 (Nat.le_of_ble_eq_true rfl) (Nat.le_of_ble_eq_true rfl) rfl rfl (Nat.le_of_ble_eq_true rfl) dX7_tick_17 rfl ?_
  refine r_iadd 21 C dX7_tick_20 rfl ?_
  obtain ⟨x0, ex0, hf⟩ := nm_of hf
  refine r_nm ex0 ?_
  refine r_istore_n 22 [(0, .ref (ad 7)), (1, .int x0)] [1, 0] C dX7_tick_21 rfl (by decide) rfl rfl ?_
  refine r_aload_n 23 0 C dX7_tick_22 rfl rfl rfl ?_
  refine r_aload_n 24 0 C dX7_tick_23 rfl rfl rfl ?_
  refine r_get 27 7 4 C inX7 (wd_7 ad u0) rfl (by decide) tw_111 rfl rfl dX7_tick_24 rfl ?_
  refine r_iload_n 28 1 C dX7_tick_27 rfl rfl rfl ?_
  refine r_iadd 29 C dX7_tick_28 rfl ?_
  obtain ⟨r1, u1, h1, hf⟩ := bd_of hf
  refine r_cSNI 32 [.int ((u0 7 4) + x0)] C hR (c_X11_asHeading ad ((u0 7 4) + x0)  u0 r1 u1 h1) q_X11_asHeading tn_505 tw_440 (Nat.le_of_ble_eq_true rfl) (Nat.le_of_ble_eq_true rfl) rfl rfl (Nat.le_of_ble_eq_true rfl) dX7_tick_29 rfl ?_
  refine r_put 35 7 4 C inX7 tyX7_ok nmX7 (wd_7 ad u1) (sF_7_4 ad u1 r1) rfl (by decide) tw_111 rfl rfl (tyX7_ok 4 (by decide)) rfl rfl (Nat.le_of_ble_eq_true rfl) dX7_tick_32 rfl ?_
  obtain ⟨u2, eu2, hf⟩ := nm_of hf
  refine r_st eu2 ?_
  refine r_iconst (v := 0) 36 C dX7_tick_35 (by decide) rfl ?_
  refine r_istore_n 37 [(0, .ref (ad 7)), (1, .int x0), (2, .int (0 : Int32))] [1, 2, 0] C dX7_tick_36 rfl (by decide) rfl rfl ?_
  refine r_sub [(0, .ref (ad 7)), (1, .int x0), (2, .int (0 : Int32))] [0, 1, 2] rfl ?_
  exact w_X7_tick_7_37 C hR E  FUEL x0 (0 : Int32)   u2 hf
def f_X11_apart (v0 : Int32) (v1 : Int32) (u : S2) : Option (Int32 × S2) := bd (f_X11_asOff (v0 - v1) u) (fun r0 u0 => nm (jabs r0) (fun x0 => some (x0, u0)))
set_option maxRecDepth 20000 in
theorem c_X11_apart (ad : Nat → Nat) (v0 : Int32) (v1 : Int32)   (u : S2) (r : Int32) (w : S2) (hf : f_X11_apart v0 v1 u = some (r, w)) : HI yX11_apart cX11_apart 2 (some .int) 2 42 ad [.int v0, .int v1] u r w := by
  refine HI_of (by decide) (Nat.le_of_ble_eq_true rfl) (fun K C hR E => ?_)
  refine r_sub [(0, .int v0), (1, .int v1)] [0, 1] rfl ?_
  unfold f_X11_apart at hf
  refine r_iload_n 1 0 C dX11_apart_0 rfl rfl rfl ?_
  refine r_iload_n 2 1 C dX11_apart_1 rfl rfl rfl ?_
  refine r_isub 3 C dX11_apart_2 rfl ?_
  obtain ⟨r0, u0, h0, hf⟩ := bd_of hf
  refine r_cSI 6 [.int (v0 - v1)] C hR (c_X11_asOff ad (v0 - v1)  u r0 u0 h0) q_X11_asOff tw_733 tw_483 (Nat.le_of_ble_eq_true rfl) (Nat.le_of_ble_eq_true rfl) rfl rfl (Nat.le_of_ble_eq_true rfl) dX11_apart_3 rfl ?_
  refine r_mabs 9 C hR tw_450 tw_451 tw_15 tw_452 (Nat.le_of_ble_eq_true rfl) (Nat.le_of_ble_eq_true rfl) dX11_apart_6 rfl ?_
  obtain ⟨x0, ex0, hf⟩ := nm_of hf
  refine r_nm ex0 ?_
  exact r_iret C E (pr1 hf) (pr2 hf) dX11_apart_9
def f_X1_keep_5_9_135 (z56 : Int32 → Int32 → S2 → Option (S2)) (v3 : Int32) (v5 : Int32) (u : S2) : Option (S2) := nm (v5 + (1 : Int32)) (fun x0 => z56 v3 x0 u)
set_option maxRecDepth 20000 in
theorem w_X1_keep_5_9_135 {K : Ctx} {ad : Nat → Nat} (C : Cx K ad cX1_keep 6 yX1_keep.cls none) (hR : Rm K 5 111) {w : S2} (E : EV K ad w) (z56 : Int32 → Int32 → S2 → Option (S2)) (hz56 : ∀ (v3 : Int32) (v5 : Int32)   (u : S2), z56 v3 v5 u = some w → RW K ad 6 56 [(0, .ref (ad 25)), (3, .int v3), (5, .int v5)] [] u) (v3 : Int32) (v5 : Int32)   (u : S2) (hf : f_X1_keep_5_9_135 z56 v3 v5 u = some w) : RW K ad 6 135 [(0, .ref (ad 25)), (3, .int v3), (5, .int v5)] [] u := by
  unfold f_X1_keep_5_9_135 at hf
  obtain ⟨x0, ex0, hf⟩ := nm_of hf
  refine r_iinc (v := x0) 138 2 [(0, .ref (ad 25)), (3, .int v3), (5, .int x0)] [1, 2, 0] C dX1_keep_135 rfl (by rw [ex0]; rfl) (by decide) rfl rfl ?_
  refine r_goto 56 C dX1_keep_138 (by decide) ?_
  refine r_sub [(0, .ref (ad 25)), (3, .int v3), (5, .int x0)] [0, 1, 2] rfl ?_
  exact hz56 v3 x0   u hf
def f_X1_keep_5_9_56  : Nat → Int32 → Int32 → S2 → Option (S2)
  | 0, _, _, _ => none
  | n + 1, v3, v5, u => (if v3 < v5 then some u else bv (f_X0_steerShip_19_7  u) (fun u0 => bv (f_X7_tick_7  u0) (fun u1 => nm (jabs (u1 7 6)) (fun x0 => nm ((u1 25 3) + x0) (fun x1 => nm (wr u1 25 3 x1) (fun u2 => (if v5 ≤ (v3 / (2 : Int32)) then f_X1_keep_5_9_135 (fun v3 v5 u => f_X1_keep_5_9_56  n v3 v5 u)  v3 v5 u2 else bd (f_X11_apart (u2 19 1) (u2 7 4) u2) (fun r0 u3 => nm (jmax (u2 25 2) r0) (fun x2 => nm (wr u3 25 2 x2) (fun u4 => f_X1_keep_5_9_135 (fun v3 v5 u => f_X1_keep_5_9_56  n v3 v5 u)  v3 v5 u4))))))))))
theorem f_X1_keep_5_9_56_e  (n : Nat) (v3 : Int32) (v5 : Int32) (u : S2) : f_X1_keep_5_9_56  (n + 1) v3 v5 u = (if v3 < v5 then some u else bv (f_X0_steerShip_19_7  u) (fun u0 => bv (f_X7_tick_7  u0) (fun u1 => nm (jabs (u1 7 6)) (fun x0 => nm ((u1 25 3) + x0) (fun x1 => nm (wr u1 25 3 x1) (fun u2 => (if v5 ≤ (v3 / (2 : Int32)) then f_X1_keep_5_9_135 (fun v3 v5 u => f_X1_keep_5_9_56  n v3 v5 u)  v3 v5 u2 else bd (f_X11_apart (u2 19 1) (u2 7 4) u2) (fun r0 u3 => nm (jmax (u2 25 2) r0) (fun x2 => nm (wr u3 25 2 x2) (fun u4 => f_X1_keep_5_9_135 (fun v3 v5 u => f_X1_keep_5_9_56  n v3 v5 u)  v3 v5 u4)))))))))) := rfl
set_option maxRecDepth 20000 in
theorem w_X1_keep_5_9_56 {K : Ctx} {ad : Nat → Nat} (C : Cx K ad cX1_keep 6 yX1_keep.cls none) (hR : Rm K 5 111) {w : S2} (E : EV K ad w)  : ∀ (n : Nat) (v3 : Int32) (v5 : Int32)   (u : S2) (hf : f_X1_keep_5_9_56  n v3 v5 u = some w), RW K ad 6 56 [(0, .ref (ad 25)), (3, .int v3), (5, .int v5)] [] u := by
  intro n
  induction n with
  | zero => intro v3 v5   u hf; cases hf
  | succ n ih =>
    intro v3 v5   u hf
    rw [f_X1_keep_5_9_56_e] at hf
    refine r_iload 58 2 C dX1_keep_56 rfl rfl ?_
    refine r_iload_n 59 1 C dX1_keep_58 rfl rfl rfl ?_
    refine r_icmp_gt 62 141 C dX1_keep_59 (by decide) rfl (fun c0 => ?_) (fun c0 => ?_)
    · have hf := ifT c0 hf
      exact r_vret C E (so_of hf) dX1_keep_141
    · have hf := ifF c0 hf
      refine r_aload_n 63 0 C dX1_keep_62 rfl rfl rfl ?_
      refine r_get 66 25 1 C inX1 (wd_25 ad u) rfl (by decide) tw_228 rfl rfl dX1_keep_63 rfl ?_
      refine r_aload_n 67 0 C dX1_keep_66 rfl rfl rfl ?_
      refine r_get 70 25 0 C inX1 (wd_25 ad u) rfl (by decide) tw_227 rfl rfl dX1_keep_67 rfl ?_
      obtain ⟨u0, h0, hf⟩ := bv_of hf
      refine r_cVNV 73 [.ref (ad 7)] C hR (c_X0_steerShip_19_7 ad    u u0 h0) q_X0_steerShip tn_727 (wd_19 ad u) rfl rfl tw_478 tp_6 (Nat.le_of_ble_eq_true rfl) (Nat.le_of_ble_eq_true rfl) rfl rfl (Nat.le_of_ble_eq_true rfl) dX1_keep_70 rfl ?_
      refine r_aload_n 74 0 C dX1_keep_73 rfl rfl rfl ?_
      refine r_get 77 25 0 C inX1 (wd_25 ad u0) rfl (by decide) tw_227 rfl rfl dX1_keep_74 rfl ?_
      obtain ⟨u1, h1, hf⟩ := bv_of hf
      refine r_cVNV 80 [] C hR (c_X7_tick_7 ad   u0 u1 h1) q_X7_tick tn_728 (wd_7 ad u0) rfl rfl tw_498 tp_8 (Nat.le_of_ble_eq_true rfl) (Nat.le_of_ble_eq_true rfl) rfl rfl (Nat.le_of_ble_eq_true rfl) dX1_keep_77 rfl ?_
      refine r_aload_n 81 0 C dX1_keep_80 rfl rfl rfl ?_
      refine r_dup 82 C dX1_keep_81 rfl rfl ?_
      refine r_get 85 25 3 C inX1 (wd_25 ad u1) rfl (by decide) tw_231 rfl rfl dX1_keep_82 rfl ?_
      refine r_aload_n 86 0 C dX1_keep_85 rfl rfl rfl ?_
      refine r_get 89 25 0 C inX1 (wd_25 ad u1) rfl (by decide) tw_227 rfl rfl dX1_keep_86 rfl ?_
      refine r_getN 92 7 6 C inX7 (wd_7 ad u1) rfl (by decide) tn_120 rfl rfl dX1_keep_89 rfl ?_
      refine r_mabs 95 C hR tw_729 tw_451 tw_15 tw_452 (Nat.le_of_ble_eq_true rfl) (Nat.le_of_ble_eq_true rfl) dX1_keep_92 rfl ?_
      obtain ⟨x0, ex0, hf⟩ := nm_of hf
      refine r_nm ex0 ?_
      refine r_iadd 96 C dX1_keep_95 rfl ?_
      obtain ⟨x1, ex1, hf⟩ := nm_of hf
      refine r_nm ex1 ?_
      refine r_put 99 25 3 C inX1 tyX1_ok nmX1 (wd_25 ad u1) (sF_25_3 ad u1 x1) rfl (by decide) tw_231 rfl rfl (tyX1_ok 3 (by decide)) rfl rfl (Nat.le_of_ble_eq_true rfl) dX1_keep_96 rfl ?_
      obtain ⟨u2, eu2, hf⟩ := nm_of hf
      refine r_st eu2 ?_
      refine r_iload 101 2 C dX1_keep_99 rfl rfl ?_
      refine r_iload_n 102 1 C dX1_keep_101 rfl rfl rfl ?_
      refine r_iconst (v := 2) 103 C dX1_keep_102 (by decide) rfl ?_
      refine r_idiv 104 C dX1_keep_103 (by decide) rfl ?_
      refine r_icmp_le 107 135 C dX1_keep_104 (by decide) rfl (fun c1 => ?_) (fun c1 => ?_)
      · have hf := ifT c1 hf
        refine r_sub [(0, .ref (ad 25)), (3, .int v3), (5, .int v5)] [0, 1, 2] rfl ?_
        exact w_X1_keep_5_9_135 C hR E (fun v3 v5 u => f_X1_keep_5_9_56  n v3 v5 u) (fun v3 v5   u h => ih v3 v5   u h)  v3 v5   u2 hf
      · have hf := ifF c1 hf
        refine r_aload_n 108 0 C dX1_keep_107 rfl rfl rfl ?_
        refine r_aload_n 109 0 C dX1_keep_108 rfl rfl rfl ?_
        refine r_get 112 25 2 C inX1 (wd_25 ad u2) rfl (by decide) tw_229 rfl rfl dX1_keep_109 rfl ?_
        refine r_aload_n 113 0 C dX1_keep_112 rfl rfl rfl ?_
        refine r_get 116 25 1 C inX1 (wd_25 ad u2) rfl (by decide) tw_228 rfl rfl dX1_keep_113 rfl ?_
        refine r_getN 119 19 1 C inX0 (wd_19 ad u2) rfl (by decide) tn_162 rfl rfl dX1_keep_116 rfl ?_
        refine r_aload_n 120 0 C dX1_keep_119 rfl rfl rfl ?_
        refine r_get 123 25 0 C inX1 (wd_25 ad u2) rfl (by decide) tw_227 rfl rfl dX1_keep_120 rfl ?_
        refine r_getN 126 7 4 C inX7 (wd_7 ad u2) rfl (by decide) tn_112 rfl rfl dX1_keep_123 rfl ?_
        obtain ⟨r0, u3, h2, hf⟩ := bd_of hf
        refine r_cSNI 129 [.int (u2 19 1), .int (u2 7 4)] C hR (c_X11_apart ad (u2 19 1) (u2 7 4)   u2 r0 u3 h2) q_X11_apart tn_730 tw_731 (Nat.le_of_ble_eq_true rfl) (Nat.le_of_ble_eq_true rfl) rfl rfl (Nat.le_of_ble_eq_true rfl) dX1_keep_126 rfl ?_
        refine r_mmax 132 C hR tw_734 tw_494 tw_15 tw_495 (Nat.le_of_ble_eq_true rfl) (Nat.le_of_ble_eq_true rfl) dX1_keep_129 rfl ?_
        obtain ⟨x2, ex2, hf⟩ := nm_of hf
        refine r_nm ex2 ?_
        refine r_put 135 25 2 C inX1 tyX1_ok nmX1 (wd_25 ad u3) (sF_25_2 ad u3 x2) rfl (by decide) tw_229 rfl rfl (tyX1_ok 2 (by decide)) rfl rfl (Nat.le_of_ble_eq_true rfl) dX1_keep_132 rfl ?_
        obtain ⟨u4, eu4, hf⟩ := nm_of hf
        refine r_st eu4 ?_
        refine r_sub [(0, .ref (ad 25)), (3, .int v3), (5, .int v5)] [0, 1, 2] rfl ?_
        exact w_X1_keep_5_9_135 C hR E (fun v3 v5 u => f_X1_keep_5_9_56  n v3 v5 u) (fun v3 v5   u h => ih v3 v5   u h)  v3 v5   u4 hf
def f_X1_keep_5_9 (v3 : Int32) (v4 : Int32) (u : S2) : Option (S2) := bv (f_X7_copyFrom_7_5  u) (fun u0 => bv (f_X0_copyFrom_19_9  u0) (fun u1 => nm (u1 20 5) (fun x0 => bv (f_X7_stopAllBut_7 x0 u1) (fun u2 => nm (wr u2 20 0 v4) (fun u3 => nm (wr u3 25 2 (0 : Int32)) (fun u4 => nm (wr u4 25 3 (0 : Int32)) (fun u5 => f_X1_keep_5_9_56  FUEL v3 (1 : Int32) u5)))))))
set_option maxRecDepth 20000 in
theorem c_X1_keep_5_9 (ad : Nat → Nat) (v3 : Int32) (v4 : Int32)   (u : S2) (w : S2) (hf : f_X1_keep_5_9 v3 v4 u = some w) : HV yX1_keep cX1_keep 6 none 5 111 ad [.ref (ad 25), .ref (ad 5), .ref (ad 9), .int v3, .int v4] u w := by
  refine HV_of (by decide) (Nat.le_of_ble_eq_true rfl) (fun K C hR E => ?_)
  refine r_sub [(0, .ref (ad 25)), (1, .ref (ad 5)), (2, .ref (ad 9)), (3, .int v3), (4, .int v4)] [0, 1, 2, 3, 4] rfl ?_
  unfold f_X1_keep_5_9 at hf
  refine r_aload_n 1 0 C dX1_keep_0 rfl rfl rfl ?_
  refine r_get 4 25 0 C inX1 (wd_25 ad u) rfl (by decide) tw_227 rfl rfl dX1_keep_1 rfl ?_
  refine r_aload_n 5 1 C dX1_keep_4 rfl rfl rfl ?_
  obtain ⟨u0, h0, hf⟩ := bv_of hf
  refine r_cVNV 8 [.ref (ad 5)] C hR (c_X7_copyFrom_7_5 ad    u u0 h0) q_X7_copyFrom tn_714 (wd_7 ad u) rfl rfl tw_716 tp_29 (Nat.le_of_ble_eq_true rfl) (Nat.le_of_ble_eq_true rfl) rfl rfl (Nat.le_of_ble_eq_true rfl) dX1_keep_5 rfl ?_
  refine r_aload_n 9 0 C dX1_keep_8 rfl rfl rfl ?_
  refine r_get 12 25 1 C inX1 (wd_25 ad u0) rfl (by decide) tw_228 rfl rfl dX1_keep_9 rfl ?_
  refine r_aload_n 13 2 C dX1_keep_12 rfl rfl rfl ?_
  obtain ⟨u1, h1, hf⟩ := bv_of hf
  refine r_cVNV 16 [.ref (ad 9)] C hR (c_X0_copyFrom_19_9 ad    u0 u1 h1) q_X0_copyFrom tn_719 (wd_19 ad u0) rfl rfl tw_721 tp_30 (Nat.le_of_ble_eq_true rfl) (Nat.le_of_ble_eq_true rfl) rfl rfl (Nat.le_of_ble_eq_true rfl) dX1_keep_13 rfl ?_
  refine r_aload_n 17 0 C dX1_keep_16 rfl rfl rfl ?_
  refine r_get 20 25 0 C inX1 (wd_25 ad u1) rfl (by decide) tw_227 rfl rfl dX1_keep_17 rfl ?_
  refine r_aload_n 21 0 C dX1_keep_20 rfl rfl rfl ?_
  refine r_get 24 25 1 C inX1 (wd_25 ad u1) rfl (by decide) tw_228 rfl rfl dX1_keep_21 rfl ?_
  refine r_getN 27 19 0 C inX0 (wd_19 ad u1) rfl (by decide) tn_159 rfl rfl dX1_keep_24 rfl ?_
  refine r_iconst (v := 5) 28 C dX1_keep_27 (by decide) rfl ?_
  refine r_iaload 29 20 6 C (wd_20 ad u1) (by decide) dX1_keep_28 rfl ?_
  obtain ⟨x0, ex0, hf⟩ := nm_of hf
  refine r_nm ex0 ?_
  obtain ⟨u2, h2, hf⟩ := bv_of hf
  refine r_cVNV 32 [.int x0] C hR (c_X7_stopAllBut_7 ad x0   u1 u2 h2) q_X7_stopAllBut tn_723 (wd_7 ad u1) rfl rfl tw_725 tp_31 (Nat.le_of_ble_eq_true rfl) (Nat.le_of_ble_eq_true rfl) rfl rfl (Nat.le_of_ble_eq_true rfl) dX1_keep_29 rfl ?_
  refine r_aload_n 33 0 C dX1_keep_32 rfl rfl rfl ?_
  refine r_get 36 25 1 C inX1 (wd_25 ad u2) rfl (by decide) tw_228 rfl rfl dX1_keep_33 rfl ?_
  refine r_getN 39 19 0 C inX0 (wd_19 ad u2) rfl (by decide) tn_159 rfl rfl dX1_keep_36 rfl ?_
  refine r_iconst (v := 0) 40 C dX1_keep_39 (by decide) rfl ?_
  refine r_iload 42 4 C dX1_keep_40 rfl rfl ?_
  refine r_iastore 43 20 6 C (wd_20 ad u2) (sA_20 ad u2) (by decide) dX1_keep_42 rfl ?_
  obtain ⟨u3, eu3, hf⟩ := nm_of hf
  refine r_st eu3 ?_
  refine r_aload_n 44 0 C dX1_keep_43 rfl rfl rfl ?_
  refine r_iconst (v := 0) 45 C dX1_keep_44 (by decide) rfl ?_
  refine r_put 48 25 2 C inX1 tyX1_ok nmX1 (wd_25 ad u3) (sF_25_2 ad u3 (0 : Int32)) rfl (by decide) tw_229 rfl rfl (tyX1_ok 2 (by decide)) rfl rfl (Nat.le_of_ble_eq_true rfl) dX1_keep_45 rfl ?_
  obtain ⟨u4, eu4, hf⟩ := nm_of hf
  refine r_st eu4 ?_
  refine r_aload_n 49 0 C dX1_keep_48 rfl rfl rfl ?_
  refine r_iconst (v := 0) 50 C dX1_keep_49 (by decide) rfl ?_
  refine r_put 53 25 3 C inX1 tyX1_ok nmX1 (wd_25 ad u4) (sF_25_3 ad u4 (0 : Int32)) rfl (by decide) tw_231 rfl rfl (tyX1_ok 3 (by decide)) rfl rfl (Nat.le_of_ble_eq_true rfl) dX1_keep_50 rfl ?_
  obtain ⟨u5, eu5, hf⟩ := nm_of hf
  refine r_st eu5 ?_
  refine r_iconst (v := 1) 54 C dX1_keep_53 (by decide) rfl ?_
  refine r_istore 56 [(0, .ref (ad 25)), (1, .ref (ad 5)), (2, .ref (ad 9)), (3, .int v3), (4, .int v4), (5, .int (1 : Int32))] [1, 2, 3, 4, 5, 0] C dX1_keep_54 (by decide) rfl rfl ?_
  refine r_sub [(0, .ref (ad 25)), (3, .int v3), (5, .int (1 : Int32))] [0, 3, 5] rfl ?_
  exact w_X1_keep_5_9_56 C hR E  FUEL v3 (1 : Int32)   u5 hf
def f_X11_kept (v1 : Int32) (v2 : Int32) (v3 : Int32) (u : S2) : Option (Int32 × S2) := bd (f_X11_isTrial v1 u) (fun r0 u0 => (if r0 = 0 then some ((-3 : Int32), u0) else bd (f_X11_isWithin v2 (0 : Int32) (999 : Int32) u0) (fun r1 u1 => (if r1 = 0 then some ((-3 : Int32), u1) else bd (f_X11_isWithin v3 (0 : Int32) (1 : Int32) u1) (fun r2 u2 => (if r2 = 0 then some ((-3 : Int32), u2) else bv (f_X1_keep_5_9 v1 v2 u2) (fun u3 => (if v3 = 0 then some (u3 25 2, u3) else some (u3 25 3, u3)))))))))
set_option maxRecDepth 20000 in
theorem c_X11_kept (ad : Nat → Nat) (v1 : Int32) (v2 : Int32) (v3 : Int32)    (u : S2) (r : Int32) (w : S2) (hf : f_X11_kept v1 v2 v3 u = some (r, w)) : HI yX11_kept cX11_kept 4 (some .int) 6 136 ad [.ref (ad 0), .int v1, .int v2, .int v3] u r w := by
  refine HI_of (by decide) (Nat.le_of_ble_eq_true rfl) (fun K C hR E => ?_)
  refine r_sub [(0, .ref (ad 0)), (1, .int v1), (2, .int v2), (3, .int v3)] [0, 1, 2, 3] rfl ?_
  unfold f_X11_kept at hf
  refine r_iload_n 1 1 C dX11_kept_0 rfl rfl rfl ?_
  obtain ⟨r0, u0, h0, hf⟩ := bd_of hf
  refine r_cSI 4 [.int v1] C hR (c_X11_isTrial ad v1  u r0 u0 h0) q_X11_isTrial tw_689 tw_690 (Nat.le_of_ble_eq_true rfl) (Nat.le_of_ble_eq_true rfl) rfl rfl (Nat.le_of_ble_eq_true rfl) dX11_kept_1 rfl ?_
  refine r_if_eq 7 27 C dX11_kept_4 (by decide) rfl (fun c0 => ?_) (fun c0 => ?_)
  · have hf := ifT c0 hf
    refine r_bipush (v := -3) 29 C dX11_kept_27 (by decide) rfl ?_
    exact r_iret C E (pr1 hf) (pr2 hf) dX11_kept_29
  · have hf := ifF c0 hf
    refine r_iload_n 8 2 C dX11_kept_7 rfl rfl rfl ?_
    refine r_iconst (v := 0) 9 C dX11_kept_8 (by decide) rfl ?_
    refine r_sipush (v := 999) 12 C dX11_kept_9 (by decide) rfl ?_
    obtain ⟨r1, u1, h1, hf⟩ := bd_of hf
    refine r_cSI 15 [.int v2, .int (0 : Int32), .int (999 : Int32)] C hR (c_X11_isWithin ad v2 (0 : Int32) (999 : Int32)    u0 r1 u1 h1) q_X11_isWithin tw_356 tw_357 (Nat.le_of_ble_eq_true rfl) (Nat.le_of_ble_eq_true rfl) rfl rfl (Nat.le_of_ble_eq_true rfl) dX11_kept_12 rfl ?_
    refine r_if_eq 18 27 C dX11_kept_15 (by decide) rfl (fun c1 => ?_) (fun c1 => ?_)
    · have hf := ifT c1 hf
      refine r_bipush (v := -3) 29 C dX11_kept_27 (by decide) rfl ?_
      exact r_iret C E (pr1 hf) (pr2 hf) dX11_kept_29
    · have hf := ifF c1 hf
      refine r_iload_n 19 3 C dX11_kept_18 rfl rfl rfl ?_
      refine r_iconst (v := 0) 20 C dX11_kept_19 (by decide) rfl ?_
      refine r_iconst (v := 1) 21 C dX11_kept_20 (by decide) rfl ?_
      obtain ⟨r2, u2, h2, hf⟩ := bd_of hf
      refine r_cSI 24 [.int v3, .int (0 : Int32), .int (1 : Int32)] C hR (c_X11_isWithin ad v3 (0 : Int32) (1 : Int32)    u1 r2 u2 h2) q_X11_isWithin tw_356 tw_357 (Nat.le_of_ble_eq_true rfl) (Nat.le_of_ble_eq_true rfl) rfl rfl (Nat.le_of_ble_eq_true rfl) dX11_kept_21 rfl ?_
      refine r_if_ne 27 30 C dX11_kept_24 (by decide) rfl (fun c2 => ?_) (fun c2 => ?_)
      · have hf := ifF c2 hf
        refine r_aload_n 31 0 C dX11_kept_30 rfl rfl rfl ?_
        refine r_get 34 0 6 C inX11 (wd_0 ad u2) rfl (by decide) tw_324 rfl rfl dX11_kept_31 rfl ?_
        refine r_aload_n 35 0 C dX11_kept_34 rfl rfl rfl ?_
        refine r_get 38 0 2 C inX11 (wd_0 ad u2) rfl (by decide) tw_320 rfl rfl dX11_kept_35 rfl ?_
        refine r_aload_n 39 0 C dX11_kept_38 rfl rfl rfl ?_
        refine r_get 42 0 3 C inX11 (wd_0 ad u2) rfl (by decide) tw_321 rfl rfl dX11_kept_39 rfl ?_
        refine r_iload_n 43 1 C dX11_kept_42 rfl rfl rfl ?_
        refine r_iload_n 44 2 C dX11_kept_43 rfl rfl rfl ?_
        obtain ⟨u3, h3, hf⟩ := bv_of hf
        refine r_cVNV 47 [.ref (ad 5), .ref (ad 9), .int v1, .int v2] C hR (c_X1_keep_5_9 ad v1 v2      u2 u3 h3) q_X1_keep tn_710 (wd_25 ad u2) rfl rfl tw_712 tp_28 (Nat.le_of_ble_eq_true rfl) (Nat.le_of_ble_eq_true rfl) rfl rfl (Nat.le_of_ble_eq_true rfl) dX11_kept_44 rfl ?_
        refine r_iload_n 48 3 C dX11_kept_47 rfl rfl rfl ?_
        refine r_if_ne 51 61 C dX11_kept_48 (by decide) rfl (fun c3 => ?_) (fun c3 => ?_)
        · have hf := ifF c3 hf
          refine r_aload_n 62 0 C dX11_kept_61 rfl rfl rfl ?_
          refine r_get 65 0 6 C inX11 (wd_0 ad u3) rfl (by decide) tw_324 rfl rfl dX11_kept_62 rfl ?_
          refine r_getN 68 25 3 C inX1 (wd_25 ad u3) rfl (by decide) tn_232 rfl rfl dX11_kept_65 rfl ?_
          exact r_iret C E (pr1 hf) (pr2 hf) dX11_kept_68
        · have hf := ifT c3 hf
          refine r_aload_n 52 0 C dX11_kept_51 rfl rfl rfl ?_
          refine r_get 55 0 6 C inX11 (wd_0 ad u3) rfl (by decide) tw_324 rfl rfl dX11_kept_52 rfl ?_
          refine r_getN 58 25 2 C inX1 (wd_25 ad u3) rfl (by decide) tn_230 rfl rfl dX11_kept_55 rfl ?_
          refine r_goto 68 C dX11_kept_58 (by decide) ?_
          exact r_iret C E (pr1 hf) (pr2 hf) dX11_kept_68
      · have hf := ifT c2 hf
        refine r_bipush (v := -3) 29 C dX11_kept_27 (by decide) rfl ?_
        exact r_iret C E (pr1 hf) (pr2 hf) dX11_kept_29
def f_X11_bestDead_95 (z29 : Int32 → Int32 → Int32 → Int32 → Int32 → S2 → Option (Int32 × S2)) (v1 : Int32) (v2 : Int32) (v3 : Int32) (v4 : Int32) (v5 : Int32) (u : S2) : Option (Int32 × S2) := nm (v5 + (10 : Int32)) (fun x0 => z29 v1 v2 v3 v4 x0 u)
set_option maxRecDepth 20000 in
theorem w_X11_bestDead_95 {K : Ctx} {ad : Nat → Nat} (C : Cx K ad cX11_bestDead 6 yX11_bestDead.cls (some .int)) (hR : Rm K 6 136) {r : Int32} {w : S2} (E : EI K ad r w) (z29 : Int32 → Int32 → Int32 → Int32 → Int32 → S2 → Option (Int32 × S2)) (hz29 : ∀ (v1 : Int32) (v2 : Int32) (v3 : Int32) (v4 : Int32) (v5 : Int32)      (u : S2), z29 v1 v2 v3 v4 v5 u = some (r, w) → RW K ad 6 29 [(0, .ref (ad 0)), (1, .int v1), (2, .int v2), (3, .int v3), (4, .int v4), (5, .int v5)] [] u) (v1 : Int32) (v2 : Int32) (v3 : Int32) (v4 : Int32) (v5 : Int32)      (u : S2) (hf : f_X11_bestDead_95 z29 v1 v2 v3 v4 v5 u = some (r, w)) : RW K ad 6 95 [(0, .ref (ad 0)), (1, .int v1), (2, .int v2), (3, .int v3), (4, .int v4), (5, .int v5)] [] u := by
  unfold f_X11_bestDead_95 at hf
  obtain ⟨x0, ex0, hf⟩ := nm_of hf
  refine r_iinc (v := x0) 98 5 [(0, .ref (ad 0)), (1, .int v1), (2, .int v2), (3, .int v3), (4, .int v4), (5, .int x0)] [1, 2, 3, 4, 5, 0] C dX11_bestDead_95 rfl (by rw [ex0]; rfl) (by decide) rfl rfl ?_
  refine r_goto 29 C dX11_bestDead_98 (by decide) ?_
  refine r_sub [(0, .ref (ad 0)), (1, .int v1), (2, .int v2), (3, .int v3), (4, .int v4), (5, .int x0)] [0, 1, 2, 3, 4, 5] rfl ?_
  exact hz29 v1 v2 v3 v4 x0      u hf
def f_X11_bestDead_83 (z29 : Int32 → Int32 → Int32 → Int32 → Int32 → S2 → Option (Int32 × S2)) (v1 : Int32) (v2 : Int32) (v5 : Int32) (u : S2) : Option (Int32 × S2) := nm (u 25 3) (fun x0 => f_X11_bestDead_95 z29  v1 v2 v5 x0 v5 u)
set_option maxRecDepth 20000 in
theorem w_X11_bestDead_83 {K : Ctx} {ad : Nat → Nat} (C : Cx K ad cX11_bestDead 6 yX11_bestDead.cls (some .int)) (hR : Rm K 6 136) {r : Int32} {w : S2} (E : EI K ad r w) (z29 : Int32 → Int32 → Int32 → Int32 → Int32 → S2 → Option (Int32 × S2)) (hz29 : ∀ (v1 : Int32) (v2 : Int32) (v3 : Int32) (v4 : Int32) (v5 : Int32)      (u : S2), z29 v1 v2 v3 v4 v5 u = some (r, w) → RW K ad 6 29 [(0, .ref (ad 0)), (1, .int v1), (2, .int v2), (3, .int v3), (4, .int v4), (5, .int v5)] [] u) (v1 : Int32) (v2 : Int32) (v5 : Int32)    (u : S2) (hf : f_X11_bestDead_83 z29 v1 v2 v5 u = some (r, w)) : RW K ad 6 83 [(0, .ref (ad 0)), (1, .int v1), (2, .int v2), (5, .int v5)] [] u := by
  unfold f_X11_bestDead_83 at hf
  refine r_iload 85 3 C dX11_bestDead_83 rfl rfl ?_
  refine r_istore_n 86 [(0, .ref (ad 0)), (1, .int v1), (2, .int v2), (3, .int v5), (5, .int v5)] [1, 2, 3, 0, 4] C dX11_bestDead_85 rfl (by decide) rfl rfl ?_
  refine r_aload_n 87 0 C dX11_bestDead_86 rfl rfl rfl ?_
  refine r_get 90 0 6 C inX11 (wd_0 ad u) rfl (by decide) tw_324 rfl rfl dX11_bestDead_87 rfl ?_
  refine r_getN 93 25 3 C inX1 (wd_25 ad u) rfl (by decide) tn_232 rfl rfl dX11_bestDead_90 rfl ?_
  obtain ⟨x0, ex0, hf⟩ := nm_of hf
  refine r_nm ex0 ?_
  refine r_istore 95 [(0, .ref (ad 0)), (1, .int v1), (2, .int v2), (3, .int v5), (4, .int x0), (5, .int v5)] [1, 2, 3, 4, 0, 5] C dX11_bestDead_93 (by decide) rfl rfl ?_
  refine r_sub [(0, .ref (ad 0)), (1, .int v1), (2, .int v2), (3, .int v5), (4, .int x0), (5, .int v5)] [0, 1, 2, 3, 4, 5] rfl ?_
  exact w_X11_bestDead_95 C hR E z29 hz29  v1 v2 v5 x0 v5      u hf
def f_X11_bestDead_29  : Nat → Int32 → Int32 → Int32 → Int32 → Int32 → S2 → Option (Int32 × S2)
  | 0, _, _, _, _, _, _ => none
  | n + 1, v1, v2, v3, v4, v5, u => (if (990 : Int32) < v5 then some (v3, u) else bv (f_X1_keep_5_9 v1 v5 u) (fun u0 => (if v2 < (u0 25 2) then f_X11_bestDead_95 (fun v1 v2 v3 v4 v5 u => f_X11_bestDead_29  n v1 v2 v3 v4 v5 u)  v1 v2 v3 v4 v5 u0 else (if v3 = (-1 : Int32) then f_X11_bestDead_83 (fun v1 v2 v3 v4 v5 u => f_X11_bestDead_29  n v1 v2 v3 v4 v5 u)  v1 v2 v5 u0 else (if v4 ≤ (u0 25 3) then f_X11_bestDead_95 (fun v1 v2 v3 v4 v5 u => f_X11_bestDead_29  n v1 v2 v3 v4 v5 u)  v1 v2 v3 v4 v5 u0 else f_X11_bestDead_83 (fun v1 v2 v3 v4 v5 u => f_X11_bestDead_29  n v1 v2 v3 v4 v5 u)  v1 v2 v5 u0)))))
theorem f_X11_bestDead_29_e  (n : Nat) (v1 : Int32) (v2 : Int32) (v3 : Int32) (v4 : Int32) (v5 : Int32) (u : S2) : f_X11_bestDead_29  (n + 1) v1 v2 v3 v4 v5 u = (if (990 : Int32) < v5 then some (v3, u) else bv (f_X1_keep_5_9 v1 v5 u) (fun u0 => (if v2 < (u0 25 2) then f_X11_bestDead_95 (fun v1 v2 v3 v4 v5 u => f_X11_bestDead_29  n v1 v2 v3 v4 v5 u)  v1 v2 v3 v4 v5 u0 else (if v3 = (-1 : Int32) then f_X11_bestDead_83 (fun v1 v2 v3 v4 v5 u => f_X11_bestDead_29  n v1 v2 v3 v4 v5 u)  v1 v2 v5 u0 else (if v4 ≤ (u0 25 3) then f_X11_bestDead_95 (fun v1 v2 v3 v4 v5 u => f_X11_bestDead_29  n v1 v2 v3 v4 v5 u)  v1 v2 v3 v4 v5 u0 else f_X11_bestDead_83 (fun v1 v2 v3 v4 v5 u => f_X11_bestDead_29  n v1 v2 v3 v4 v5 u)  v1 v2 v5 u0))))) := rfl
set_option maxRecDepth 20000 in
theorem w_X11_bestDead_29 {K : Ctx} {ad : Nat → Nat} (C : Cx K ad cX11_bestDead 6 yX11_bestDead.cls (some .int)) (hR : Rm K 6 136) {r : Int32} {w : S2} (E : EI K ad r w)  : ∀ (n : Nat) (v1 : Int32) (v2 : Int32) (v3 : Int32) (v4 : Int32) (v5 : Int32)      (u : S2) (hf : f_X11_bestDead_29  n v1 v2 v3 v4 v5 u = some (r, w)), RW K ad 6 29 [(0, .ref (ad 0)), (1, .int v1), (2, .int v2), (3, .int v3), (4, .int v4), (5, .int v5)] [] u := by
  intro n
  induction n with
  | zero => intro v1 v2 v3 v4 v5      u hf; cases hf
  | succ n ih =>
    intro v1 v2 v3 v4 v5      u hf
    rw [f_X11_bestDead_29_e] at hf
    refine r_iload 31 5 C dX11_bestDead_29 rfl rfl ?_
    refine r_sipush (v := 990) 34 C dX11_bestDead_31 (by decide) rfl ?_
    refine r_icmp_gt 37 101 C dX11_bestDead_34 (by decide) rfl (fun c0 => ?_) (fun c0 => ?_)
    · have hf := ifT c0 hf
      refine r_iload_n 102 3 C dX11_bestDead_101 rfl rfl rfl ?_
      exact r_iret C E (pr1 hf) (pr2 hf) dX11_bestDead_102
    · have hf := ifF c0 hf
      refine r_aload_n 38 0 C dX11_bestDead_37 rfl rfl rfl ?_
      refine r_get 41 0 6 C inX11 (wd_0 ad u) rfl (by decide) tw_324 rfl rfl dX11_bestDead_38 rfl ?_
      refine r_aload_n 42 0 C dX11_bestDead_41 rfl rfl rfl ?_
      refine r_get 45 0 2 C inX11 (wd_0 ad u) rfl (by decide) tw_320 rfl rfl dX11_bestDead_42 rfl ?_
      refine r_aload_n 46 0 C dX11_bestDead_45 rfl rfl rfl ?_
      refine r_get 49 0 3 C inX11 (wd_0 ad u) rfl (by decide) tw_321 rfl rfl dX11_bestDead_46 rfl ?_
      refine r_iload_n 50 1 C dX11_bestDead_49 rfl rfl rfl ?_
      refine r_iload 52 5 C dX11_bestDead_50 rfl rfl ?_
      obtain ⟨u0, h0, hf⟩ := bv_of hf
      refine r_cVNV 55 [.ref (ad 5), .ref (ad 9), .int v1, .int v5] C hR (c_X1_keep_5_9 ad v1 v5      u u0 h0) q_X1_keep tn_710 (wd_25 ad u) rfl rfl tw_712 tp_28 (Nat.le_of_ble_eq_true rfl) (Nat.le_of_ble_eq_true rfl) rfl rfl (Nat.le_of_ble_eq_true rfl) dX11_bestDead_52 rfl ?_
      refine r_aload_n 56 0 C dX11_bestDead_55 rfl rfl rfl ?_
      refine r_get 59 0 6 C inX11 (wd_0 ad u0) rfl (by decide) tw_324 rfl rfl dX11_bestDead_56 rfl ?_
      refine r_getN 62 25 2 C inX1 (wd_25 ad u0) rfl (by decide) tn_230 rfl rfl dX11_bestDead_59 rfl ?_
      refine r_iload_n 63 2 C dX11_bestDead_62 rfl rfl rfl ?_
      refine r_icmp_gt 66 95 C dX11_bestDead_63 (by decide) rfl (fun c1 => ?_) (fun c1 => ?_)
      · have hf := ifT c1 hf
        refine r_sub [(0, .ref (ad 0)), (1, .int v1), (2, .int v2), (3, .int v3), (4, .int v4), (5, .int v5)] [0, 1, 2, 3, 4, 5] rfl ?_
        exact w_X11_bestDead_95 C hR E (fun v1 v2 v3 v4 v5 u => f_X11_bestDead_29  n v1 v2 v3 v4 v5 u) (fun v1 v2 v3 v4 v5      u h => ih v1 v2 v3 v4 v5      u h)  v1 v2 v3 v4 v5      u0 hf
      · have hf := ifF c1 hf
        refine r_iload_n 67 3 C dX11_bestDead_66 rfl rfl rfl ?_
        refine r_iconst (v := -1) 68 C dX11_bestDead_67 (by decide) rfl ?_
        refine r_icmp_eq 71 83 C dX11_bestDead_68 (by decide) rfl (fun c2 => ?_) (fun c2 => ?_)
        · have hf := ifT c2 hf
          refine r_sub [(0, .ref (ad 0)), (1, .int v1), (2, .int v2), (5, .int v5)] [0, 1, 2, 5] rfl ?_
          exact w_X11_bestDead_83 C hR E (fun v1 v2 v3 v4 v5 u => f_X11_bestDead_29  n v1 v2 v3 v4 v5 u) (fun v1 v2 v3 v4 v5      u h => ih v1 v2 v3 v4 v5      u h)  v1 v2 v5    u0 hf
        · have hf := ifF c2 hf
          refine r_aload_n 72 0 C dX11_bestDead_71 rfl rfl rfl ?_
          refine r_get 75 0 6 C inX11 (wd_0 ad u0) rfl (by decide) tw_324 rfl rfl dX11_bestDead_72 rfl ?_
          refine r_getN 78 25 3 C inX1 (wd_25 ad u0) rfl (by decide) tn_232 rfl rfl dX11_bestDead_75 rfl ?_
          refine r_iload 80 4 C dX11_bestDead_78 rfl rfl ?_
          refine r_icmp_ge 83 95 C dX11_bestDead_80 (by decide) rfl (fun c3 => ?_) (fun c3 => ?_)
          · have hf := ifT c3 hf
            refine r_sub [(0, .ref (ad 0)), (1, .int v1), (2, .int v2), (3, .int v3), (4, .int v4), (5, .int v5)] [0, 1, 2, 3, 4, 5] rfl ?_
            exact w_X11_bestDead_95 C hR E (fun v1 v2 v3 v4 v5 u => f_X11_bestDead_29  n v1 v2 v3 v4 v5 u) (fun v1 v2 v3 v4 v5      u h => ih v1 v2 v3 v4 v5      u h)  v1 v2 v3 v4 v5      u0 hf
          · have hf := ifF c3 hf
            refine r_sub [(0, .ref (ad 0)), (1, .int v1), (2, .int v2), (5, .int v5)] [0, 1, 2, 5] rfl ?_
            exact w_X11_bestDead_83 C hR E (fun v1 v2 v3 v4 v5 u => f_X11_bestDead_29  n v1 v2 v3 v4 v5 u) (fun v1 v2 v3 v4 v5      u h => ih v1 v2 v3 v4 v5      u h)  v1 v2 v5    u0 hf
def f_X11_bestDead (v1 : Int32) (v2 : Int32) (u : S2) : Option (Int32 × S2) := bd (f_X11_isTrial v1 u) (fun r0 u0 => (if r0 = 0 then some ((-3 : Int32), u0) else bd (f_X11_isWithin v2 (0 : Int32) (18000 : Int32) u0) (fun r1 u1 => (if r1 = 0 then some ((-3 : Int32), u1) else f_X11_bestDead_29  FUEL v1 v2 (-1 : Int32) (0 : Int32) (0 : Int32) u1))))
set_option maxRecDepth 20000 in
theorem c_X11_bestDead (ad : Nat → Nat) (v1 : Int32) (v2 : Int32)   (u : S2) (r : Int32) (w : S2) (hf : f_X11_bestDead v1 v2 u = some (r, w)) : HI yX11_bestDead cX11_bestDead 6 (some .int) 6 136 ad [.ref (ad 0), .int v1, .int v2] u r w := by
  refine HI_of (by decide) (Nat.le_of_ble_eq_true rfl) (fun K C hR E => ?_)
  refine r_sub [(0, .ref (ad 0)), (1, .int v1), (2, .int v2)] [0, 1, 2] rfl ?_
  unfold f_X11_bestDead at hf
  refine r_iload_n 1 1 C dX11_bestDead_0 rfl rfl rfl ?_
  obtain ⟨r0, u0, h0, hf⟩ := bd_of hf
  refine r_cSI 4 [.int v1] C hR (c_X11_isTrial ad v1  u r0 u0 h0) q_X11_isTrial tw_689 tw_690 (Nat.le_of_ble_eq_true rfl) (Nat.le_of_ble_eq_true rfl) rfl rfl (Nat.le_of_ble_eq_true rfl) dX11_bestDead_1 rfl ?_
  refine r_if_eq 7 18 C dX11_bestDead_4 (by decide) rfl (fun c0 => ?_) (fun c0 => ?_)
  · have hf := ifT c0 hf
    refine r_bipush (v := -3) 20 C dX11_bestDead_18 (by decide) rfl ?_
    exact r_iret C E (pr1 hf) (pr2 hf) dX11_bestDead_20
  · have hf := ifF c0 hf
    refine r_iload_n 8 2 C dX11_bestDead_7 rfl rfl rfl ?_
    refine r_iconst (v := 0) 9 C dX11_bestDead_8 (by decide) rfl ?_
    refine r_sipush (v := 18000) 12 C dX11_bestDead_9 (by decide) rfl ?_
    obtain ⟨r1, u1, h1, hf⟩ := bd_of hf
    refine r_cSI 15 [.int v2, .int (0 : Int32), .int (18000 : Int32)] C hR (c_X11_isWithin ad v2 (0 : Int32) (18000 : Int32)    u0 r1 u1 h1) q_X11_isWithin tw_356 tw_357 (Nat.le_of_ble_eq_true rfl) (Nat.le_of_ble_eq_true rfl) rfl rfl (Nat.le_of_ble_eq_true rfl) dX11_bestDead_12 rfl ?_
    refine r_if_ne 18 21 C dX11_bestDead_15 (by decide) rfl (fun c1 => ?_) (fun c1 => ?_)
    · have hf := ifF c1 hf
      refine r_iconst (v := -1) 22 C dX11_bestDead_21 (by decide) rfl ?_
      refine r_istore_n 23 [(0, .ref (ad 0)), (1, .int v1), (2, .int v2), (3, .int (-1 : Int32))] [1, 2, 3, 0] C dX11_bestDead_22 rfl (by decide) rfl rfl ?_
      refine r_iconst (v := 0) 24 C dX11_bestDead_23 (by decide) rfl ?_
      refine r_istore 26 [(0, .ref (ad 0)), (1, .int v1), (2, .int v2), (3, .int (-1 : Int32)), (4, .int (0 : Int32))] [1, 2, 3, 4, 0] C dX11_bestDead_24 (by decide) rfl rfl ?_
      refine r_iconst (v := 0) 27 C dX11_bestDead_26 (by decide) rfl ?_
      refine r_istore 29 [(0, .ref (ad 0)), (1, .int v1), (2, .int v2), (3, .int (-1 : Int32)), (4, .int (0 : Int32)), (5, .int (0 : Int32))] [1, 2, 3, 4, 5, 0] C dX11_bestDead_27 (by decide) rfl rfl ?_
      refine r_sub [(0, .ref (ad 0)), (1, .int v1), (2, .int v2), (3, .int (-1 : Int32)), (4, .int (0 : Int32)), (5, .int (0 : Int32))] [0, 1, 2, 3, 4, 5] rfl ?_
      exact w_X11_bestDead_29 C hR E  FUEL v1 v2 (-1 : Int32) (0 : Int32) (0 : Int32)      u1 hf
    · have hf := ifT c1 hf
      refine r_bipush (v := -3) 20 C dX11_bestDead_18 (by decide) rfl ?_
      exact r_iret C E (pr1 hf) (pr2 hf) dX11_bestDead_20
def f_X2_add (v1 : Int32) (v2 : Int32) (v3 : Int32) (u : S2) : Option (Int32 × S2) := (if (u 26 1) < (16 : Int32) then nm ((u 26 1) * (3 : Int32)) (fun x0 => ck (inb x0 48) (nm (wr u 27 (Int32.toNatClampNeg x0) v1) (fun u0 => ck (inb (x0 + (1 : Int32)) 48) (nm (wr u0 27 (Int32.toNatClampNeg (x0 + (1 : Int32))) v2) (fun u1 => ck (inb (x0 + (2 : Int32)) 48) (nm (wr u1 27 (Int32.toNatClampNeg (x0 + (2 : Int32))) v3) (fun u2 => nm ((u2 26 1) + (1 : Int32)) (fun x1 => nm (wr u2 26 1 x1) (fun u3 => some (u3 26 1, u3)))))))))) else some ((-5 : Int32), u))
set_option maxRecDepth 20000 in
theorem c_X2_add (ad : Nat → Nat) (v1 : Int32) (v2 : Int32) (v3 : Int32)    (u : S2) (r : Int32) (w : S2) (hf : f_X2_add v1 v2 v3 u = some (r, w)) : HI yX2_add cX2_add 5 (some .int) 0 0 ad [.ref (ad 26), .int v1, .int v2, .int v3] u r w := by
  refine HI_of (by decide) (Nat.le_of_ble_eq_true rfl) (fun K C hR E => ?_)
  refine r_sub [(0, .ref (ad 26)), (1, .int v1), (2, .int v2), (3, .int v3)] [0, 1, 2, 3] rfl ?_
  unfold f_X2_add at hf
  refine r_aload_n 1 0 C dX2_add_0 rfl rfl rfl ?_
  refine r_get 4 26 1 C inX2 (wd_26 ad u) rfl (by decide) tw_249 rfl rfl dX2_add_1 rfl ?_
  refine r_bipush (v := 16) 6 C dX2_add_4 (by decide) rfl ?_
  refine r_icmp_lt 9 12 C dX2_add_6 (by decide) rfl (fun c0 => ?_) (fun c0 => ?_)
  · have hf := ifT c0 hf
    refine r_aload_n 13 0 C dX2_add_12 rfl rfl rfl ?_
    refine r_get 16 26 1 C inX2 (wd_26 ad u) rfl (by decide) tw_249 rfl rfl dX2_add_13 rfl ?_
    refine r_iconst (v := 3) 17 C dX2_add_16 (by decide) rfl ?_
    refine r_imul 18 C dX2_add_17 rfl ?_
    obtain ⟨x0, ex0, hf⟩ := nm_of hf
    refine r_nm ex0 ?_
    refine r_istore 20 [(0, .ref (ad 26)), (1, .int v1), (2, .int v2), (3, .int v3), (4, .int x0)] [1, 2, 3, 4, 0] C dX2_add_18 (by decide) rfl rfl ?_
    refine r_aload_n 21 0 C dX2_add_20 rfl rfl rfl ?_
    refine r_get 24 26 0 C inX2 (wd_26 ad u) rfl (by decide) tw_248 rfl rfl dX2_add_21 rfl ?_
    refine r_iload 26 4 C dX2_add_24 rfl rfl ?_
    refine r_iload_n 27 1 C dX2_add_26 rfl rfl rfl ?_
    obtain ⟨hc0, hf⟩ := ck_of hf
    refine r_iastore 28 27 48 C (wd_27 ad u) (sA_27 ad u) hc0 dX2_add_27 rfl ?_
    obtain ⟨u0, eu0, hf⟩ := nm_of hf
    refine r_st eu0 ?_
    refine r_aload_n 29 0 C dX2_add_28 rfl rfl rfl ?_
    refine r_get 32 26 0 C inX2 (wd_26 ad u0) rfl (by decide) tw_248 rfl rfl dX2_add_29 rfl ?_
    refine r_iload 34 4 C dX2_add_32 rfl rfl ?_
    refine r_iconst (v := 1) 35 C dX2_add_34 (by decide) rfl ?_
    refine r_iadd 36 C dX2_add_35 rfl ?_
    refine r_iload_n 37 2 C dX2_add_36 rfl rfl rfl ?_
    obtain ⟨hc1, hf⟩ := ck_of hf
    refine r_iastore 38 27 48 C (wd_27 ad u0) (sA_27 ad u0) hc1 dX2_add_37 rfl ?_
    obtain ⟨u1, eu1, hf⟩ := nm_of hf
    refine r_st eu1 ?_
    refine r_aload_n 39 0 C dX2_add_38 rfl rfl rfl ?_
    refine r_get 42 26 0 C inX2 (wd_26 ad u1) rfl (by decide) tw_248 rfl rfl dX2_add_39 rfl ?_
    refine r_iload 44 4 C dX2_add_42 rfl rfl ?_
    refine r_iconst (v := 2) 45 C dX2_add_44 (by decide) rfl ?_
    refine r_iadd 46 C dX2_add_45 rfl ?_
    refine r_iload_n 47 3 C dX2_add_46 rfl rfl rfl ?_
    obtain ⟨hc2, hf⟩ := ck_of hf
    refine r_iastore 48 27 48 C (wd_27 ad u1) (sA_27 ad u1) hc2 dX2_add_47 rfl ?_
    obtain ⟨u2, eu2, hf⟩ := nm_of hf
    refine r_st eu2 ?_
    refine r_aload_n 49 0 C dX2_add_48 rfl rfl rfl ?_
    refine r_dup 50 C dX2_add_49 rfl rfl ?_
    refine r_get 53 26 1 C inX2 (wd_26 ad u2) rfl (by decide) tw_249 rfl rfl dX2_add_50 rfl ?_
    refine r_iconst (v := 1) 54 C dX2_add_53 (by decide) rfl ?_
    refine r_iadd 55 C dX2_add_54 rfl ?_
    obtain ⟨x1, ex1, hf⟩ := nm_of hf
    refine r_nm ex1 ?_
    refine r_put 58 26 1 C inX2 tyX2_ok nmX2 (wd_26 ad u2) (sF_26_1 ad u2 x1) rfl (by decide) tw_249 rfl rfl (tyX2_ok 1 (by decide)) rfl rfl (Nat.le_of_ble_eq_true rfl) dX2_add_55 rfl ?_
    obtain ⟨u3, eu3, hf⟩ := nm_of hf
    refine r_st eu3 ?_
    refine r_aload_n 59 0 C dX2_add_58 rfl rfl rfl ?_
    refine r_get 62 26 1 C inX2 (wd_26 ad u3) rfl (by decide) tw_249 rfl rfl dX2_add_59 rfl ?_
    exact r_iret C E (pr1 hf) (pr2 hf) dX2_add_62
  · have hf := ifF c0 hf
    refine r_bipush (v := -5) 11 C dX2_add_9 (by decide) rfl ?_
    exact r_iret C E (pr1 hf) (pr2 hf) dX2_add_11
def f_X11_look (v1 : Int32) (v2 : Int32) (v3 : Int32) (u : S2) : Option (Int32 × S2) := bd (f_X11_isHeading v1 u) (fun r0 u0 => (if r0 = 0 then some ((-3 : Int32), u0) else bd (f_X11_isHeading v2 u0) (fun r1 u1 => (if r1 = 0 then some ((-3 : Int32), u1) else bd (f_X11_isHeading v3 u1) (fun r2 u2 => (if r2 = 0 then some ((-3 : Int32), u2) else bd (f_X2_add v1 v2 v3 u2) (fun r3 u3 => some (r3, u3))))))))
set_option maxRecDepth 20000 in
theorem c_X11_look (ad : Nat → Nat) (v1 : Int32) (v2 : Int32) (v3 : Int32)    (u : S2) (r : Int32) (w : S2) (hf : f_X11_look v1 v2 v3 u = some (r, w)) : HI yX11_look cX11_look 4 (some .int) 2 42 ad [.ref (ad 0), .int v1, .int v2, .int v3] u r w := by
  refine HI_of (by decide) (Nat.le_of_ble_eq_true rfl) (fun K C hR E => ?_)
  refine r_sub [(0, .ref (ad 0)), (1, .int v1), (2, .int v2), (3, .int v3)] [0, 1, 2, 3] rfl ?_
  unfold f_X11_look at hf
  refine r_iload_n 1 1 C dX11_look_0 rfl rfl rfl ?_
  obtain ⟨r0, u0, h0, hf⟩ := bd_of hf
  refine r_cSI 4 [.int v1] C hR (c_X11_isHeading ad v1  u r0 u0 h0) q_X11_isHeading tw_366 tw_367 (Nat.le_of_ble_eq_true rfl) (Nat.le_of_ble_eq_true rfl) rfl rfl (Nat.le_of_ble_eq_true rfl) dX11_look_1 rfl ?_
  refine r_if_eq 7 21 C dX11_look_4 (by decide) rfl (fun c0 => ?_) (fun c0 => ?_)
  · have hf := ifT c0 hf
    refine r_bipush (v := -3) 23 C dX11_look_21 (by decide) rfl ?_
    exact r_iret C E (pr1 hf) (pr2 hf) dX11_look_23
  · have hf := ifF c0 hf
    refine r_iload_n 8 2 C dX11_look_7 rfl rfl rfl ?_
    obtain ⟨r1, u1, h1, hf⟩ := bd_of hf
    refine r_cSI 11 [.int v2] C hR (c_X11_isHeading ad v2  u0 r1 u1 h1) q_X11_isHeading tw_366 tw_367 (Nat.le_of_ble_eq_true rfl) (Nat.le_of_ble_eq_true rfl) rfl rfl (Nat.le_of_ble_eq_true rfl) dX11_look_8 rfl ?_
    refine r_if_eq 14 21 C dX11_look_11 (by decide) rfl (fun c1 => ?_) (fun c1 => ?_)
    · have hf := ifT c1 hf
      refine r_bipush (v := -3) 23 C dX11_look_21 (by decide) rfl ?_
      exact r_iret C E (pr1 hf) (pr2 hf) dX11_look_23
    · have hf := ifF c1 hf
      refine r_iload_n 15 3 C dX11_look_14 rfl rfl rfl ?_
      obtain ⟨r2, u2, h2, hf⟩ := bd_of hf
      refine r_cSI 18 [.int v3] C hR (c_X11_isHeading ad v3  u1 r2 u2 h2) q_X11_isHeading tw_366 tw_367 (Nat.le_of_ble_eq_true rfl) (Nat.le_of_ble_eq_true rfl) rfl rfl (Nat.le_of_ble_eq_true rfl) dX11_look_15 rfl ?_
      refine r_if_ne 21 24 C dX11_look_18 (by decide) rfl (fun c2 => ?_) (fun c2 => ?_)
      · have hf := ifF c2 hf
        refine r_aload_n 25 0 C dX11_look_24 rfl rfl rfl ?_
        refine r_get 28 0 7 C inX11 (wd_0 ad u2) rfl (by decide) tw_325 rfl rfl dX11_look_25 rfl ?_
        refine r_iload_n 29 1 C dX11_look_28 rfl rfl rfl ?_
        refine r_iload_n 30 2 C dX11_look_29 rfl rfl rfl ?_
        refine r_iload_n 31 3 C dX11_look_30 rfl rfl rfl ?_
        obtain ⟨r3, u3, h3, hf⟩ := bd_of hf
        refine r_cVNI 34 [.int v1, .int v2, .int v3] C hR (c_X2_add ad v1 v2 v3     u2 r3 u3 h3) q_X2_add tn_743 (wd_26 ad u2) rfl rfl tw_745 tp_32 (Nat.le_of_ble_eq_true rfl) (Nat.le_of_ble_eq_true rfl) rfl rfl (Nat.le_of_ble_eq_true rfl) dX11_look_31 rfl ?_
        exact r_iret C E (pr1 hf) (pr2 hf) dX11_look_34
      · have hf := ifT c2 hf
        refine r_bipush (v := -3) 23 C dX11_look_21 (by decide) rfl ?_
        exact r_iret C E (pr1 hf) (pr2 hf) dX11_look_23
def f_X2_wrongIn_124  (v4 : Int32) (v5 : Int32) (v6 : Int32) (u : S2) : Option (Int32 × S2) := (if v5 = 0 then some ((0 : Int32), u) else (if v6 = 0 then some ((0 : Int32), u) else (if v4 = 0 then some ((4 : Int32), u) else some ((0 : Int32), u))))
set_option maxRecDepth 20000 in
theorem w_X2_wrongIn_124 {K : Ctx} {ad : Nat → Nat} (C : Cx K ad cX2_wrongIn 7 yX2_wrongIn.cls (some .int)) (hR : Rm K 3 63) {r : Int32} {w : S2} (E : EI K ad r w)  (v4 : Int32) (v5 : Int32) (v6 : Int32)    (u : S2) (hf : f_X2_wrongIn_124  v4 v5 v6 u = some (r, w)) : RW K ad 7 124 [(4, .int v4), (5, .int v5), (6, .int v6)] [] u := by
  unfold f_X2_wrongIn_124 at hf
  refine r_iload 126 1 C dX2_wrongIn_124 rfl rfl ?_
  refine r_if_eq 129 143 C dX2_wrongIn_126 (by decide) rfl (fun c0 => ?_) (fun c0 => ?_)
  · have hf := ifT c0 hf
    refine r_iconst (v := 0) 144 C dX2_wrongIn_143 (by decide) rfl ?_
    exact r_iret C E (pr1 hf) (pr2 hf) dX2_wrongIn_144
  · have hf := ifF c0 hf
    refine r_iload 131 2 C dX2_wrongIn_129 rfl rfl ?_
    refine r_if_eq 134 143 C dX2_wrongIn_131 (by decide) rfl (fun c1 => ?_) (fun c1 => ?_)
    · have hf := ifT c1 hf
      refine r_iconst (v := 0) 144 C dX2_wrongIn_143 (by decide) rfl ?_
      exact r_iret C E (pr1 hf) (pr2 hf) dX2_wrongIn_144
    · have hf := ifF c1 hf
      refine r_iload 136 0 C dX2_wrongIn_134 rfl rfl ?_
      refine r_if_ne 139 143 C dX2_wrongIn_136 (by decide) rfl (fun c2 => ?_) (fun c2 => ?_)
      · have hf := ifF c2 hf
        refine r_iconst (v := 0) 144 C dX2_wrongIn_143 (by decide) rfl ?_
        exact r_iret C E (pr1 hf) (pr2 hf) dX2_wrongIn_144
      · have hf := ifT c2 hf
        refine r_iconst (v := 4) 140 C dX2_wrongIn_139 (by decide) rfl ?_
        refine r_goto 144 C dX2_wrongIn_140 (by decide) ?_
        exact r_iret C E (pr1 hf) (pr2 hf) dX2_wrongIn_144
def f_X2_wrongIn_107  (v4 : Int32) (v5 : Int32) (v6 : Int32) (u : S2) : Option (Int32 × S2) := (if v4 = 0 then f_X2_wrongIn_124   v4 v5 v6 u else (if v5 = 0 then f_X2_wrongIn_124   v4 v5 v6 u else (if v6 = 0 then some ((2 : Int32), u) else f_X2_wrongIn_124   v4 v5 v6 u)))
set_option maxRecDepth 20000 in
theorem w_X2_wrongIn_107 {K : Ctx} {ad : Nat → Nat} (C : Cx K ad cX2_wrongIn 7 yX2_wrongIn.cls (some .int)) (hR : Rm K 3 63) {r : Int32} {w : S2} (E : EI K ad r w)  (v4 : Int32) (v5 : Int32) (v6 : Int32)    (u : S2) (hf : f_X2_wrongIn_107  v4 v5 v6 u = some (r, w)) : RW K ad 7 107 [(4, .int v4), (5, .int v5), (6, .int v6)] [] u := by
  unfold f_X2_wrongIn_107 at hf
  refine r_iload 109 0 C dX2_wrongIn_107 rfl rfl ?_
  refine r_if_eq 112 124 C dX2_wrongIn_109 (by decide) rfl (fun c0 => ?_) (fun c0 => ?_)
  · have hf := ifT c0 hf
    refine r_sub [(4, .int v4), (5, .int v5), (6, .int v6)] [0, 1, 2] rfl ?_
    exact w_X2_wrongIn_124 C hR E   v4 v5 v6    u hf
  · have hf := ifF c0 hf
    refine r_iload 114 1 C dX2_wrongIn_112 rfl rfl ?_
    refine r_if_eq 117 124 C dX2_wrongIn_114 (by decide) rfl (fun c1 => ?_) (fun c1 => ?_)
    · have hf := ifT c1 hf
      refine r_sub [(4, .int v4), (5, .int v5), (6, .int v6)] [0, 1, 2] rfl ?_
      exact w_X2_wrongIn_124 C hR E   v4 v5 v6    u hf
    · have hf := ifF c1 hf
      refine r_iload 119 2 C dX2_wrongIn_117 rfl rfl ?_
      refine r_if_ne 122 124 C dX2_wrongIn_119 (by decide) rfl (fun c2 => ?_) (fun c2 => ?_)
      · have hf := ifF c2 hf
        refine r_sub [(4, .int v4), (5, .int v5), (6, .int v6)] [0, 1, 2] rfl ?_
        exact w_X2_wrongIn_124 C hR E   v4 v5 v6    u hf
      · have hf := ifT c2 hf
        refine r_iconst (v := 2) 123 C dX2_wrongIn_122 (by decide) rfl ?_
        exact r_iret C E (pr1 hf) (pr2 hf) dX2_wrongIn_123
def f_X2_wrongIn_88  (v4 : Int32) (v5 : Int32) (t0 : Int32) (u : S2) : Option (Int32 × S2) := (if v4 = 0 then f_X2_wrongIn_107   v4 v5 t0 u else (if t0 = 0 then f_X2_wrongIn_107   v4 v5 t0 u else (if v5 = 0 then some ((1 : Int32), u) else f_X2_wrongIn_107   v4 v5 t0 u)))
set_option maxRecDepth 20000 in
theorem w_X2_wrongIn_88 {K : Ctx} {ad : Nat → Nat} (C : Cx K ad cX2_wrongIn 7 yX2_wrongIn.cls (some .int)) (hR : Rm K 3 63) {r : Int32} {w : S2} (E : EI K ad r w)  (v4 : Int32) (v5 : Int32) (t0 : Int32)    (u : S2) (hf : f_X2_wrongIn_88  v4 v5 t0 u = some (r, w)) : RW K ad 7 88 [(4, .int v4), (5, .int v5)] [.int t0] u := by
  unfold f_X2_wrongIn_88 at hf
  refine r_istore 90 [(4, .int v4), (5, .int v5), (6, .int t0)] [1, 2, 0] C dX2_wrongIn_88 (by decide) rfl rfl ?_
  refine r_iload 92 0 C dX2_wrongIn_90 rfl rfl ?_
  refine r_if_eq 95 107 C dX2_wrongIn_92 (by decide) rfl (fun c0 => ?_) (fun c0 => ?_)
  · have hf := ifT c0 hf
    refine r_sub [(4, .int v4), (5, .int v5), (6, .int t0)] [0, 1, 2] rfl ?_
    exact w_X2_wrongIn_107 C hR E   v4 v5 t0    u hf
  · have hf := ifF c0 hf
    refine r_iload 97 2 C dX2_wrongIn_95 rfl rfl ?_
    refine r_if_eq 100 107 C dX2_wrongIn_97 (by decide) rfl (fun c1 => ?_) (fun c1 => ?_)
    · have hf := ifT c1 hf
      refine r_sub [(4, .int v4), (5, .int v5), (6, .int t0)] [0, 1, 2] rfl ?_
      exact w_X2_wrongIn_107 C hR E   v4 v5 t0    u hf
    · have hf := ifF c1 hf
      refine r_iload 102 1 C dX2_wrongIn_100 rfl rfl ?_
      refine r_if_ne 105 107 C dX2_wrongIn_102 (by decide) rfl (fun c2 => ?_) (fun c2 => ?_)
      · have hf := ifF c2 hf
        refine r_sub [(4, .int v4), (5, .int v5), (6, .int t0)] [0, 1, 2] rfl ?_
        exact w_X2_wrongIn_107 C hR E   v4 v5 t0    u hf
      · have hf := ifT c2 hf
        refine r_iconst (v := 1) 106 C dX2_wrongIn_105 (by decide) rfl ?_
        exact r_iret C E (pr1 hf) (pr2 hf) dX2_wrongIn_106
def f_X2_wrongIn_60  (v2 : Int32) (v3 : Int32) (v4 : Int32) (t0 : Int32) (u : S2) : Option (Int32 × S2) := ck (inb (v3 + (2 : Int32)) 48) (nm (u 27 (Int32.toNatClampNeg (v3 + (2 : Int32)))) (fun x0 => ck (inb v3 48) (nm (u 27 (Int32.toNatClampNeg v3)) (fun x1 => bd (f_X11_apart x0 x1 u) (fun r0 u0 => (if r0 ≤ v2 then f_X2_wrongIn_88   v4 t0 (0 : Int32) u0 else f_X2_wrongIn_88   v4 t0 (1 : Int32) u0))))))
set_option maxRecDepth 20000 in
theorem w_X2_wrongIn_60 {K : Ctx} {ad : Nat → Nat} (C : Cx K ad cX2_wrongIn 7 yX2_wrongIn.cls (some .int)) (hR : Rm K 3 63) {r : Int32} {w : S2} (E : EI K ad r w)  (v2 : Int32) (v3 : Int32) (v4 : Int32) (t0 : Int32)     (u : S2) (hf : f_X2_wrongIn_60  v2 v3 v4 t0 u = some (r, w)) : RW K ad 7 60 [(0, .ref (ad 26)), (2, .int v2), (3, .int v3), (4, .int v4)] [.int t0] u := by
  unfold f_X2_wrongIn_60 at hf
  refine r_istore 62 [(0, .ref (ad 26)), (2, .int v2), (3, .int v3), (4, .int v4), (5, .int t0)] [1, 2, 3, 4, 0] C dX2_wrongIn_60 (by decide) rfl rfl ?_
  refine r_aload_n 63 0 C dX2_wrongIn_62 rfl rfl rfl ?_
  refine r_get 66 26 0 C inX2 (wd_26 ad u) rfl (by decide) tw_248 rfl rfl dX2_wrongIn_63 rfl ?_
  refine r_iload_n 67 2 C dX2_wrongIn_66 rfl rfl rfl ?_
  refine r_iconst (v := 2) 68 C dX2_wrongIn_67 (by decide) rfl ?_
  refine r_iadd 69 C dX2_wrongIn_68 rfl ?_
  obtain ⟨hc0, hf⟩ := ck_of hf
  refine r_iaload 70 27 48 C (wd_27 ad u) hc0 dX2_wrongIn_69 rfl ?_
  obtain ⟨x0, ex0, hf⟩ := nm_of hf
  refine r_nm ex0 ?_
  refine r_aload_n 71 0 C dX2_wrongIn_70 rfl rfl rfl ?_
  refine r_get 74 26 0 C inX2 (wd_26 ad u) rfl (by decide) tw_248 rfl rfl dX2_wrongIn_71 rfl ?_
  refine r_iload_n 75 2 C dX2_wrongIn_74 rfl rfl rfl ?_
  obtain ⟨hc1, hf⟩ := ck_of hf
  refine r_iaload 76 27 48 C (wd_27 ad u) hc1 dX2_wrongIn_75 rfl ?_
  obtain ⟨x1, ex1, hf⟩ := nm_of hf
  refine r_nm ex1 ?_
  obtain ⟨r0, u0, h0, hf⟩ := bd_of hf
  refine r_cSNI 79 [.int x0, .int x1] C hR (c_X11_apart ad x0 x1   u r0 u0 h0) q_X11_apart tn_759 tw_731 (Nat.le_of_ble_eq_true rfl) (Nat.le_of_ble_eq_true rfl) rfl rfl (Nat.le_of_ble_eq_true rfl) dX2_wrongIn_76 rfl ?_
  refine r_iload_n 80 1 C dX2_wrongIn_79 rfl rfl rfl ?_
  refine r_icmp_le 83 87 C dX2_wrongIn_80 (by decide) rfl (fun c0 => ?_) (fun c0 => ?_)
  · have hf := ifT c0 hf
    refine r_iconst (v := 0) 88 C dX2_wrongIn_87 (by decide) rfl ?_
    refine r_sub [(4, .int v4), (5, .int t0)] [3, 4] rfl ?_
    exact w_X2_wrongIn_88 C hR E   v4 t0 (0 : Int32)    u0 hf
  · have hf := ifF c0 hf
    refine r_iconst (v := 1) 84 C dX2_wrongIn_83 (by decide) rfl ?_
    refine r_goto 88 C dX2_wrongIn_84 (by decide) ?_
    refine r_sub [(4, .int v4), (5, .int t0)] [3, 4] rfl ?_
    exact w_X2_wrongIn_88 C hR E   v4 t0 (1 : Int32)    u0 hf
def f_X2_wrongIn_30  (v2 : Int32) (v3 : Int32) (t0 : Int32) (u : S2) : Option (Int32 × S2) := ck (inb (v3 + (1 : Int32)) 48) (nm (u 27 (Int32.toNatClampNeg (v3 + (1 : Int32)))) (fun x0 => ck (inb (v3 + (2 : Int32)) 48) (nm (u 27 (Int32.toNatClampNeg (v3 + (2 : Int32)))) (fun x1 => bd (f_X11_apart x0 x1 u) (fun r0 u0 => (if r0 ≤ v2 then f_X2_wrongIn_60   v2 v3 t0 (0 : Int32) u0 else f_X2_wrongIn_60   v2 v3 t0 (1 : Int32) u0))))))
set_option maxRecDepth 20000 in
theorem w_X2_wrongIn_30 {K : Ctx} {ad : Nat → Nat} (C : Cx K ad cX2_wrongIn 7 yX2_wrongIn.cls (some .int)) (hR : Rm K 3 63) {r : Int32} {w : S2} (E : EI K ad r w)  (v2 : Int32) (v3 : Int32) (t0 : Int32)    (u : S2) (hf : f_X2_wrongIn_30  v2 v3 t0 u = some (r, w)) : RW K ad 7 30 [(0, .ref (ad 26)), (2, .int v2), (3, .int v3)] [.int t0] u := by
  unfold f_X2_wrongIn_30 at hf
  refine r_istore 32 [(0, .ref (ad 26)), (2, .int v2), (3, .int v3), (4, .int t0)] [1, 2, 3, 0] C dX2_wrongIn_30 (by decide) rfl rfl ?_
  refine r_aload_n 33 0 C dX2_wrongIn_32 rfl rfl rfl ?_
  refine r_get 36 26 0 C inX2 (wd_26 ad u) rfl (by decide) tw_248 rfl rfl dX2_wrongIn_33 rfl ?_
  refine r_iload_n 37 2 C dX2_wrongIn_36 rfl rfl rfl ?_
  refine r_iconst (v := 1) 38 C dX2_wrongIn_37 (by decide) rfl ?_
  refine r_iadd 39 C dX2_wrongIn_38 rfl ?_
  obtain ⟨hc0, hf⟩ := ck_of hf
  refine r_iaload 40 27 48 C (wd_27 ad u) hc0 dX2_wrongIn_39 rfl ?_
  obtain ⟨x0, ex0, hf⟩ := nm_of hf
  refine r_nm ex0 ?_
  refine r_aload_n 41 0 C dX2_wrongIn_40 rfl rfl rfl ?_
  refine r_get 44 26 0 C inX2 (wd_26 ad u) rfl (by decide) tw_248 rfl rfl dX2_wrongIn_41 rfl ?_
  refine r_iload_n 45 2 C dX2_wrongIn_44 rfl rfl rfl ?_
  refine r_iconst (v := 2) 46 C dX2_wrongIn_45 (by decide) rfl ?_
  refine r_iadd 47 C dX2_wrongIn_46 rfl ?_
  obtain ⟨hc1, hf⟩ := ck_of hf
  refine r_iaload 48 27 48 C (wd_27 ad u) hc1 dX2_wrongIn_47 rfl ?_
  obtain ⟨x1, ex1, hf⟩ := nm_of hf
  refine r_nm ex1 ?_
  obtain ⟨r0, u0, h0, hf⟩ := bd_of hf
  refine r_cSNI 51 [.int x0, .int x1] C hR (c_X11_apart ad x0 x1   u r0 u0 h0) q_X11_apart tn_759 tw_731 (Nat.le_of_ble_eq_true rfl) (Nat.le_of_ble_eq_true rfl) rfl rfl (Nat.le_of_ble_eq_true rfl) dX2_wrongIn_48 rfl ?_
  refine r_iload_n 52 1 C dX2_wrongIn_51 rfl rfl rfl ?_
  refine r_icmp_le 55 59 C dX2_wrongIn_52 (by decide) rfl (fun c0 => ?_) (fun c0 => ?_)
  · have hf := ifT c0 hf
    refine r_iconst (v := 0) 60 C dX2_wrongIn_59 (by decide) rfl ?_
    refine r_sub [(0, .ref (ad 26)), (2, .int v2), (3, .int v3), (4, .int t0)] [0, 1, 2, 3] rfl ?_
    exact w_X2_wrongIn_60 C hR E   v2 v3 t0 (0 : Int32)     u0 hf
  · have hf := ifF c0 hf
    refine r_iconst (v := 1) 56 C dX2_wrongIn_55 (by decide) rfl ?_
    refine r_goto 60 C dX2_wrongIn_56 (by decide) ?_
    refine r_sub [(0, .ref (ad 26)), (2, .int v2), (3, .int v3), (4, .int t0)] [0, 1, 2, 3] rfl ?_
    exact w_X2_wrongIn_60 C hR E   v2 v3 t0 (1 : Int32)     u0 hf
def f_X2_wrongIn (v1 : Int32) (v2 : Int32) (u : S2) : Option (Int32 × S2) := nm (v1 * (3 : Int32)) (fun x0 => ck (inb x0 48) (nm (u 27 (Int32.toNatClampNeg x0)) (fun x1 => ck (inb (x0 + (1 : Int32)) 48) (nm (u 27 (Int32.toNatClampNeg (x0 + (1 : Int32)))) (fun x2 => bd (f_X11_apart x1 x2 u) (fun r0 u0 => (if r0 ≤ v2 then f_X2_wrongIn_30   v2 x0 (0 : Int32) u0 else f_X2_wrongIn_30   v2 x0 (1 : Int32) u0)))))))
set_option maxRecDepth 20000 in
theorem c_X2_wrongIn (ad : Nat → Nat) (v1 : Int32) (v2 : Int32)   (u : S2) (r : Int32) (w : S2) (hf : f_X2_wrongIn v1 v2 u = some (r, w)) : HI yX2_wrongIn cX2_wrongIn 7 (some .int) 3 63 ad [.ref (ad 26), .int v1, .int v2] u r w := by
  refine HI_of (by decide) (Nat.le_of_ble_eq_true rfl) (fun K C hR E => ?_)
  refine r_sub [(0, .ref (ad 26)), (1, .int v1), (2, .int v2)] [0, 1, 2] rfl ?_
  unfold f_X2_wrongIn at hf
  refine r_iload_n 1 1 C dX2_wrongIn_0 rfl rfl rfl ?_
  refine r_iconst (v := 3) 2 C dX2_wrongIn_1 (by decide) rfl ?_
  refine r_imul 3 C dX2_wrongIn_2 rfl ?_
  obtain ⟨x0, ex0, hf⟩ := nm_of hf
  refine r_nm ex0 ?_
  refine r_istore_n 4 [(0, .ref (ad 26)), (1, .int v1), (2, .int v2), (3, .int x0)] [1, 2, 3, 0] C dX2_wrongIn_3 rfl (by decide) rfl rfl ?_
  refine r_aload_n 5 0 C dX2_wrongIn_4 rfl rfl rfl ?_
  refine r_get 8 26 0 C inX2 (wd_26 ad u) rfl (by decide) tw_248 rfl rfl dX2_wrongIn_5 rfl ?_
  refine r_iload_n 9 3 C dX2_wrongIn_8 rfl rfl rfl ?_
  obtain ⟨hc0, hf⟩ := ck_of hf
  refine r_iaload 10 27 48 C (wd_27 ad u) hc0 dX2_wrongIn_9 rfl ?_
  obtain ⟨x1, ex1, hf⟩ := nm_of hf
  refine r_nm ex1 ?_
  refine r_aload_n 11 0 C dX2_wrongIn_10 rfl rfl rfl ?_
  refine r_get 14 26 0 C inX2 (wd_26 ad u) rfl (by decide) tw_248 rfl rfl dX2_wrongIn_11 rfl ?_
  refine r_iload_n 15 3 C dX2_wrongIn_14 rfl rfl rfl ?_
  refine r_iconst (v := 1) 16 C dX2_wrongIn_15 (by decide) rfl ?_
  refine r_iadd 17 C dX2_wrongIn_16 rfl ?_
  obtain ⟨hc1, hf⟩ := ck_of hf
  refine r_iaload 18 27 48 C (wd_27 ad u) hc1 dX2_wrongIn_17 rfl ?_
  obtain ⟨x2, ex2, hf⟩ := nm_of hf
  refine r_nm ex2 ?_
  obtain ⟨r0, u0, h0, hf⟩ := bd_of hf
  refine r_cSNI 21 [.int x1, .int x2] C hR (c_X11_apart ad x1 x2   u r0 u0 h0) q_X11_apart tn_759 tw_731 (Nat.le_of_ble_eq_true rfl) (Nat.le_of_ble_eq_true rfl) rfl rfl (Nat.le_of_ble_eq_true rfl) dX2_wrongIn_18 rfl ?_
  refine r_iload_n 22 2 C dX2_wrongIn_21 rfl rfl rfl ?_
  refine r_icmp_le 25 29 C dX2_wrongIn_22 (by decide) rfl (fun c0 => ?_) (fun c0 => ?_)
  · have hf := ifT c0 hf
    refine r_iconst (v := 0) 30 C dX2_wrongIn_29 (by decide) rfl ?_
    refine r_sub [(0, .ref (ad 26)), (2, .int v2), (3, .int x0)] [0, 2, 3] rfl ?_
    exact w_X2_wrongIn_30 C hR E   v2 x0 (0 : Int32)    u0 hf
  · have hf := ifF c0 hf
    refine r_iconst (v := 1) 26 C dX2_wrongIn_25 (by decide) rfl ?_
    refine r_goto 30 C dX2_wrongIn_26 (by decide) ?_
    refine r_sub [(0, .ref (ad 26)), (2, .int v2), (3, .int x0)] [0, 2, 3] rfl ?_
    exact w_X2_wrongIn_30 C hR E   v2 x0 (1 : Int32)    u0 hf
def f_X2_wrongInSome_4  : Nat → Int32 → Int32 → Int32 → S2 → Option (Int32 × S2)
  | 0, _, _, _, _ => none
  | n + 1, v1, v2, v3, u => (if (u 26 1) ≤ v3 then some (v2, u) else bd (f_X2_wrongIn v3 v1 u) (fun r0 u0 => nm (v2 ||| r0) (fun x0 => nm (v3 + (1 : Int32)) (fun x1 => f_X2_wrongInSome_4  n v1 x0 x1 u0))))
theorem f_X2_wrongInSome_4_e  (n : Nat) (v1 : Int32) (v2 : Int32) (v3 : Int32) (u : S2) : f_X2_wrongInSome_4  (n + 1) v1 v2 v3 u = (if (u 26 1) ≤ v3 then some (v2, u) else bd (f_X2_wrongIn v3 v1 u) (fun r0 u0 => nm (v2 ||| r0) (fun x0 => nm (v3 + (1 : Int32)) (fun x1 => f_X2_wrongInSome_4  n v1 x0 x1 u0)))) := rfl
set_option maxRecDepth 20000 in
theorem w_X2_wrongInSome_4 {K : Ctx} {ad : Nat → Nat} (C : Cx K ad cX2_wrongInSome 4 yX2_wrongInSome.cls (some .int)) (hR : Rm K 4 89) {r : Int32} {w : S2} (E : EI K ad r w)  : ∀ (n : Nat) (v1 : Int32) (v2 : Int32) (v3 : Int32)    (u : S2) (hf : f_X2_wrongInSome_4  n v1 v2 v3 u = some (r, w)), RW K ad 4 4 [(0, .ref (ad 26)), (1, .int v1), (2, .int v2), (3, .int v3)] [] u := by
  intro n
  induction n with
  | zero => intro v1 v2 v3    u hf; cases hf
  | succ n ih =>
    intro v1 v2 v3    u hf
    rw [f_X2_wrongInSome_4_e] at hf
    refine r_iload_n 5 3 C dX2_wrongInSome_4 rfl rfl rfl ?_
    refine r_aload_n 6 0 C dX2_wrongInSome_5 rfl rfl rfl ?_
    refine r_get 9 26 1 C inX2 (wd_26 ad u) rfl (by decide) tw_249 rfl rfl dX2_wrongInSome_6 rfl ?_
    refine r_icmp_ge 12 27 C dX2_wrongInSome_9 (by decide) rfl (fun c0 => ?_) (fun c0 => ?_)
    · have hf := ifT c0 hf
      refine r_iload_n 28 2 C dX2_wrongInSome_27 rfl rfl rfl ?_
      exact r_iret C E (pr1 hf) (pr2 hf) dX2_wrongInSome_28
    · have hf := ifF c0 hf
      refine r_iload_n 13 2 C dX2_wrongInSome_12 rfl rfl rfl ?_
      refine r_aload_n 14 0 C dX2_wrongInSome_13 rfl rfl rfl ?_
      refine r_iload_n 15 3 C dX2_wrongInSome_14 rfl rfl rfl ?_
      refine r_iload_n 16 1 C dX2_wrongInSome_15 rfl rfl rfl ?_
      obtain ⟨r0, u0, h0, hf⟩ := bd_of hf
      refine r_cVI 19 [.int v3, .int v1] C hR (c_X2_wrongIn ad v3 v1    u r0 u0 h0) q_X2_wrongIn tw_755 (wd_26 ad u) rfl rfl tw_757 tp_34 (Nat.le_of_ble_eq_true rfl) (Nat.le_of_ble_eq_true rfl) rfl rfl (Nat.le_of_ble_eq_true rfl) dX2_wrongInSome_16 rfl ?_
      refine r_ior 20 C dX2_wrongInSome_19 rfl ?_
      obtain ⟨x0, ex0, hf⟩ := nm_of hf
      refine r_nm ex0 ?_
      refine r_istore_n 21 [(0, .ref (ad 26)), (1, .int v1), (2, .int x0), (3, .int v3)] [1, 2, 0, 3] C dX2_wrongInSome_20 rfl (by decide) rfl rfl ?_
      obtain ⟨x1, ex1, hf⟩ := nm_of hf
      refine r_iinc (v := x1) 24 3 [(0, .ref (ad 26)), (1, .int v1), (2, .int x0), (3, .int x1)] [1, 2, 3, 0] C dX2_wrongInSome_21 rfl (by rw [ex1]; rfl) (by decide) rfl rfl ?_
      refine r_goto 4 C dX2_wrongInSome_24 (by decide) ?_
      refine r_sub [(0, .ref (ad 26)), (1, .int v1), (2, .int x0), (3, .int x1)] [0, 1, 2, 3] rfl ?_
      exact ih v1 x0 x1    u0 hf
def f_X2_wrongInSome (v1 : Int32) (u : S2) : Option (Int32 × S2) := f_X2_wrongInSome_4  FUEL v1 (0 : Int32) (0 : Int32) u
set_option maxRecDepth 20000 in
theorem c_X2_wrongInSome (ad : Nat → Nat) (v1 : Int32)  (u : S2) (r : Int32) (w : S2) (hf : f_X2_wrongInSome v1 u = some (r, w)) : HI yX2_wrongInSome cX2_wrongInSome 4 (some .int) 4 89 ad [.ref (ad 26), .int v1] u r w := by
  refine HI_of (by decide) (Nat.le_of_ble_eq_true rfl) (fun K C hR E => ?_)
  refine r_sub [(0, .ref (ad 26)), (1, .int v1)] [0, 1] rfl ?_
  unfold f_X2_wrongInSome at hf
  refine r_iconst (v := 0) 1 C dX2_wrongInSome_0 (by decide) rfl ?_
  refine r_istore_n 2 [(0, .ref (ad 26)), (1, .int v1), (2, .int (0 : Int32))] [1, 2, 0] C dX2_wrongInSome_1 rfl (by decide) rfl rfl ?_
  refine r_iconst (v := 0) 3 C dX2_wrongInSome_2 (by decide) rfl ?_
  refine r_istore_n 4 [(0, .ref (ad 26)), (1, .int v1), (2, .int (0 : Int32)), (3, .int (0 : Int32))] [1, 2, 3, 0] C dX2_wrongInSome_3 rfl (by decide) rfl rfl ?_
  refine r_sub [(0, .ref (ad 26)), (1, .int v1), (2, .int (0 : Int32)), (3, .int (0 : Int32))] [0, 1, 2, 3] rfl ?_
  exact w_X2_wrongInSome_4 C hR E  FUEL v1 (0 : Int32) (0 : Int32)    u hf
def f_X2_wrongInEach_16  : Nat → Int32 → Int32 → Int32 → S2 → Option (Int32 × S2)
  | 0, _, _, _, _ => none
  | n + 1, v1, v2, v3, u => (if (u 26 1) ≤ v3 then some (v2, u) else bd (f_X2_wrongIn v3 v1 u) (fun r0 u0 => nm (v2 &&& r0) (fun x0 => nm (v3 + (1 : Int32)) (fun x1 => f_X2_wrongInEach_16  n v1 x0 x1 u0))))
theorem f_X2_wrongInEach_16_e  (n : Nat) (v1 : Int32) (v2 : Int32) (v3 : Int32) (u : S2) : f_X2_wrongInEach_16  (n + 1) v1 v2 v3 u = (if (u 26 1) ≤ v3 then some (v2, u) else bd (f_X2_wrongIn v3 v1 u) (fun r0 u0 => nm (v2 &&& r0) (fun x0 => nm (v3 + (1 : Int32)) (fun x1 => f_X2_wrongInEach_16  n v1 x0 x1 u0)))) := rfl
set_option maxRecDepth 20000 in
theorem w_X2_wrongInEach_16 {K : Ctx} {ad : Nat → Nat} (C : Cx K ad cX2_wrongInEach 4 yX2_wrongInEach.cls (some .int)) (hR : Rm K 4 89) {r : Int32} {w : S2} (E : EI K ad r w)  : ∀ (n : Nat) (v1 : Int32) (v2 : Int32) (v3 : Int32)    (u : S2) (hf : f_X2_wrongInEach_16  n v1 v2 v3 u = some (r, w)), RW K ad 4 16 [(0, .ref (ad 26)), (1, .int v1), (2, .int v2), (3, .int v3)] [] u := by
  intro n
  induction n with
  | zero => intro v1 v2 v3    u hf; cases hf
  | succ n ih =>
    intro v1 v2 v3    u hf
    rw [f_X2_wrongInEach_16_e] at hf
    refine r_iload_n 17 3 C dX2_wrongInEach_16 rfl rfl rfl ?_
    refine r_aload_n 18 0 C dX2_wrongInEach_17 rfl rfl rfl ?_
    refine r_get 21 26 1 C inX2 (wd_26 ad u) rfl (by decide) tw_249 rfl rfl dX2_wrongInEach_18 rfl ?_
    refine r_icmp_ge 24 39 C dX2_wrongInEach_21 (by decide) rfl (fun c0 => ?_) (fun c0 => ?_)
    · have hf := ifT c0 hf
      refine r_iload_n 40 2 C dX2_wrongInEach_39 rfl rfl rfl ?_
      exact r_iret C E (pr1 hf) (pr2 hf) dX2_wrongInEach_40
    · have hf := ifF c0 hf
      refine r_iload_n 25 2 C dX2_wrongInEach_24 rfl rfl rfl ?_
      refine r_aload_n 26 0 C dX2_wrongInEach_25 rfl rfl rfl ?_
      refine r_iload_n 27 3 C dX2_wrongInEach_26 rfl rfl rfl ?_
      refine r_iload_n 28 1 C dX2_wrongInEach_27 rfl rfl rfl ?_
      obtain ⟨r0, u0, h0, hf⟩ := bd_of hf
      refine r_cVI 31 [.int v3, .int v1] C hR (c_X2_wrongIn ad v3 v1    u r0 u0 h0) q_X2_wrongIn tw_755 (wd_26 ad u) rfl rfl tw_757 tp_34 (Nat.le_of_ble_eq_true rfl) (Nat.le_of_ble_eq_true rfl) rfl rfl (Nat.le_of_ble_eq_true rfl) dX2_wrongInEach_28 rfl ?_
      refine r_iand 32 C dX2_wrongInEach_31 rfl ?_
      obtain ⟨x0, ex0, hf⟩ := nm_of hf
      refine r_nm ex0 ?_
      refine r_istore_n 33 [(0, .ref (ad 26)), (1, .int v1), (2, .int x0), (3, .int v3)] [1, 2, 0, 3] C dX2_wrongInEach_32 rfl (by decide) rfl rfl ?_
      obtain ⟨x1, ex1, hf⟩ := nm_of hf
      refine r_iinc (v := x1) 36 3 [(0, .ref (ad 26)), (1, .int v1), (2, .int x0), (3, .int x1)] [1, 2, 3, 0] C dX2_wrongInEach_33 rfl (by rw [ex1]; rfl) (by decide) rfl rfl ?_
      refine r_goto 16 C dX2_wrongInEach_36 (by decide) ?_
      refine r_sub [(0, .ref (ad 26)), (1, .int v1), (2, .int x0), (3, .int x1)] [0, 1, 2, 3] rfl ?_
      exact ih v1 x0 x1    u0 hf
def f_X2_wrongInEach_13  (v1 : Int32) (t0 : Int32) (u : S2) : Option (Int32 × S2) := f_X2_wrongInEach_16  FUEL v1 t0 (0 : Int32) u
set_option maxRecDepth 20000 in
theorem w_X2_wrongInEach_13 {K : Ctx} {ad : Nat → Nat} (C : Cx K ad cX2_wrongInEach 4 yX2_wrongInEach.cls (some .int)) (hR : Rm K 4 89) {r : Int32} {w : S2} (E : EI K ad r w)  (v1 : Int32) (t0 : Int32)   (u : S2) (hf : f_X2_wrongInEach_13  v1 t0 u = some (r, w)) : RW K ad 4 13 [(0, .ref (ad 26)), (1, .int v1)] [.int t0] u := by
  unfold f_X2_wrongInEach_13 at hf
  refine r_istore_n 14 [(0, .ref (ad 26)), (1, .int v1), (2, .int t0)] [1, 2, 0] C dX2_wrongInEach_13 rfl (by decide) rfl rfl ?_
  refine r_iconst (v := 0) 15 C dX2_wrongInEach_14 (by decide) rfl ?_
  refine r_istore_n 16 [(0, .ref (ad 26)), (1, .int v1), (2, .int t0), (3, .int (0 : Int32))] [1, 2, 3, 0] C dX2_wrongInEach_15 rfl (by decide) rfl rfl ?_
  refine r_sub [(0, .ref (ad 26)), (1, .int v1), (2, .int t0), (3, .int (0 : Int32))] [0, 1, 2, 3] rfl ?_
  exact w_X2_wrongInEach_16 C hR E  FUEL v1 t0 (0 : Int32)    u hf
def f_X2_wrongInEach (v1 : Int32) (u : S2) : Option (Int32 × S2) := (if (u 26 1) = 0 then f_X2_wrongInEach_13   v1 (0 : Int32) u else f_X2_wrongInEach_13   v1 (7 : Int32) u)
set_option maxRecDepth 20000 in
theorem c_X2_wrongInEach (ad : Nat → Nat) (v1 : Int32)  (u : S2) (r : Int32) (w : S2) (hf : f_X2_wrongInEach v1 u = some (r, w)) : HI yX2_wrongInEach cX2_wrongInEach 4 (some .int) 4 89 ad [.ref (ad 26), .int v1] u r w := by
  refine HI_of (by decide) (Nat.le_of_ble_eq_true rfl) (fun K C hR E => ?_)
  refine r_sub [(0, .ref (ad 26)), (1, .int v1)] [0, 1] rfl ?_
  unfold f_X2_wrongInEach at hf
  refine r_aload_n 1 0 C dX2_wrongInEach_0 rfl rfl rfl ?_
  refine r_get 4 26 1 C inX2 (wd_26 ad u) rfl (by decide) tw_249 rfl rfl dX2_wrongInEach_1 rfl ?_
  refine r_if_ne 7 11 C dX2_wrongInEach_4 (by decide) rfl (fun c0 => ?_) (fun c0 => ?_)
  · have hf := ifF c0 hf
    refine r_bipush (v := 7) 13 C dX2_wrongInEach_11 (by decide) rfl ?_
    refine r_sub [(0, .ref (ad 26)), (1, .int v1)] [0, 1] rfl ?_
    exact w_X2_wrongInEach_13 C hR E   v1 (7 : Int32)   u hf
  · have hf := ifT c0 hf
    refine r_iconst (v := 0) 8 C dX2_wrongInEach_7 (by decide) rfl ?_
    refine r_goto 13 C dX2_wrongInEach_8 (by decide) ?_
    refine r_sub [(0, .ref (ad 26)), (1, .int v1)] [0, 1] rfl ?_
    exact w_X2_wrongInEach_13 C hR E   v1 (0 : Int32)   u hf
def f_X11_wrong (v1 : Int32) (v2 : Int32) (u : S2) : Option (Int32 × S2) := bd (f_X11_isWithin v1 (0 : Int32) (9000 : Int32) u) (fun r0 u0 => (if r0 = 0 then some ((-3 : Int32), u0) else bd (f_X11_isWithin v2 (0 : Int32) (1 : Int32) u0) (fun r1 u1 => (if r1 = 0 then some ((-3 : Int32), u1) else (if v2 = 0 then bd (f_X2_wrongInEach v1 u1) (fun r3 u3 => some (r3, u3)) else bd (f_X2_wrongInSome v1 u1) (fun r2 u2 => some (r2, u2)))))))
set_option maxRecDepth 20000 in
theorem c_X11_wrong (ad : Nat → Nat) (v1 : Int32) (v2 : Int32)   (u : S2) (r : Int32) (w : S2) (hf : f_X11_wrong v1 v2 u = some (r, w)) : HI yX11_wrong cX11_wrong 3 (some .int) 5 112 ad [.ref (ad 0), .int v1, .int v2] u r w := by
  refine HI_of (by decide) (Nat.le_of_ble_eq_true rfl) (fun K C hR E => ?_)
  refine r_sub [(0, .ref (ad 0)), (1, .int v1), (2, .int v2)] [0, 1, 2] rfl ?_
  unfold f_X11_wrong at hf
  refine r_iload_n 1 1 C dX11_wrong_0 rfl rfl rfl ?_
  refine r_iconst (v := 0) 2 C dX11_wrong_1 (by decide) rfl ?_
  refine r_sipush (v := 9000) 5 C dX11_wrong_2 (by decide) rfl ?_
  obtain ⟨r0, u0, h0, hf⟩ := bd_of hf
  refine r_cSI 8 [.int v1, .int (0 : Int32), .int (9000 : Int32)] C hR (c_X11_isWithin ad v1 (0 : Int32) (9000 : Int32)    u r0 u0 h0) q_X11_isWithin tw_356 tw_357 (Nat.le_of_ble_eq_true rfl) (Nat.le_of_ble_eq_true rfl) rfl rfl (Nat.le_of_ble_eq_true rfl) dX11_wrong_5 rfl ?_
  refine r_if_eq 11 20 C dX11_wrong_8 (by decide) rfl (fun c0 => ?_) (fun c0 => ?_)
  · have hf := ifT c0 hf
    refine r_bipush (v := -3) 22 C dX11_wrong_20 (by decide) rfl ?_
    exact r_iret C E (pr1 hf) (pr2 hf) dX11_wrong_22
  · have hf := ifF c0 hf
    refine r_iload_n 12 2 C dX11_wrong_11 rfl rfl rfl ?_
    refine r_iconst (v := 0) 13 C dX11_wrong_12 (by decide) rfl ?_
    refine r_iconst (v := 1) 14 C dX11_wrong_13 (by decide) rfl ?_
    obtain ⟨r1, u1, h1, hf⟩ := bd_of hf
    refine r_cSI 17 [.int v2, .int (0 : Int32), .int (1 : Int32)] C hR (c_X11_isWithin ad v2 (0 : Int32) (1 : Int32)    u0 r1 u1 h1) q_X11_isWithin tw_356 tw_357 (Nat.le_of_ble_eq_true rfl) (Nat.le_of_ble_eq_true rfl) rfl rfl (Nat.le_of_ble_eq_true rfl) dX11_wrong_14 rfl ?_
    refine r_if_ne 20 23 C dX11_wrong_17 (by decide) rfl (fun c1 => ?_) (fun c1 => ?_)
    · have hf := ifF c1 hf
      refine r_iload_n 24 2 C dX11_wrong_23 rfl rfl rfl ?_
      refine r_if_ne 27 38 C dX11_wrong_24 (by decide) rfl (fun c2 => ?_) (fun c2 => ?_)
      · have hf := ifF c2 hf
        refine r_aload_n 39 0 C dX11_wrong_38 rfl rfl rfl ?_
        refine r_get 42 0 7 C inX11 (wd_0 ad u1) rfl (by decide) tw_325 rfl rfl dX11_wrong_39 rfl ?_
        refine r_iload_n 43 1 C dX11_wrong_42 rfl rfl rfl ?_
        obtain ⟨r2, u2, h2, hf⟩ := bd_of hf
        refine r_cVNI 46 [.int v1] C hR (c_X2_wrongInSome ad v1   u1 r2 u2 h2) q_X2_wrongInSome tn_760 (wd_26 ad u1) rfl rfl tw_762 tp_35 (Nat.le_of_ble_eq_true rfl) (Nat.le_of_ble_eq_true rfl) rfl rfl (Nat.le_of_ble_eq_true rfl) dX11_wrong_43 rfl ?_
        exact r_iret C E (pr1 hf) (pr2 hf) dX11_wrong_46
      · have hf := ifT c2 hf
        refine r_aload_n 28 0 C dX11_wrong_27 rfl rfl rfl ?_
        refine r_get 31 0 7 C inX11 (wd_0 ad u1) rfl (by decide) tw_325 rfl rfl dX11_wrong_28 rfl ?_
        refine r_iload_n 32 1 C dX11_wrong_31 rfl rfl rfl ?_
        obtain ⟨r3, u3, h3, hf⟩ := bd_of hf
        refine r_cVNI 35 [.int v1] C hR (c_X2_wrongInEach ad v1   u1 r3 u3 h3) q_X2_wrongInEach tn_751 (wd_26 ad u1) rfl rfl tw_753 tp_33 (Nat.le_of_ble_eq_true rfl) (Nat.le_of_ble_eq_true rfl) rfl rfl (Nat.le_of_ble_eq_true rfl) dX11_wrong_32 rfl ?_
        refine r_goto 46 C dX11_wrong_35 (by decide) ?_
        exact r_iret C E (pr1 hf) (pr2 hf) dX11_wrong_46
    · have hf := ifT c1 hf
      refine r_bipush (v := -3) 22 C dX11_wrong_20 (by decide) rfl ?_
      exact r_iret C E (pr1 hf) (pr2 hf) dX11_wrong_22
def f_X9_add_94  (v3 : Int32) (t1 : Int32) (t2 : Int32) (u : S2) : Option (Int32 × S2) := ck (inb t1 8) (nm (wr u 31 (Int32.toNatClampNeg t1) t2) (fun u0 => ck (inb v3 8) (nm (u0 29 (Int32.toNatClampNeg v3)) (fun x0 => nm (x0 + (1 : Int32)) (fun x1 => ck (inb v3 8) (nm (wr u0 29 (Int32.toNatClampNeg v3) x1) (fun u1 => nm ((u1 28 3) + (1 : Int32)) (fun x2 => nm (wr u1 28 3 x2) (fun u2 => some (u2 28 3, u2))))))))))
set_option maxRecDepth 20000 in
theorem w_X9_add_94 {K : Ctx} {ad : Nat → Nat} (C : Cx K ad cX9_add 5 yX9_add.cls (some .int)) (hR : Rm K 2 42) {r : Int32} {w : S2} (E : EI K ad r w)  (v3 : Int32) (t1 : Int32) (t2 : Int32)    (u : S2) (hf : f_X9_add_94  v3 t1 t2 u = some (r, w)) : RW K ad 5 94 [(0, .ref (ad 28)), (3, .int v3)] [.int t2, .int t1, .ref (ad 31)] u := by
  unfold f_X9_add_94 at hf
  obtain ⟨hc0, hf⟩ := ck_of hf
  refine r_iastore 95 31 8 C (wd_31 ad u) (sA_31 ad u) hc0 dX9_add_94 rfl ?_
  obtain ⟨u0, eu0, hf⟩ := nm_of hf
  refine r_st eu0 ?_
  refine r_aload_n 96 0 C dX9_add_95 rfl rfl rfl ?_
  refine r_get 99 28 0 C inX9 (wd_28 ad u0) rfl (by decide) tw_262 rfl rfl dX9_add_96 rfl ?_
  refine r_iload_n 100 1 C dX9_add_99 rfl rfl rfl ?_
  refine r_dup2 101 C dX9_add_100 rfl rfl rfl ?_
  obtain ⟨hc1, hf⟩ := ck_of hf
  refine r_iaload 102 29 8 C (wd_29 ad u0) hc1 dX9_add_101 rfl ?_
  obtain ⟨x0, ex0, hf⟩ := nm_of hf
  refine r_nm ex0 ?_
  refine r_iconst (v := 1) 103 C dX9_add_102 (by decide) rfl ?_
  refine r_iadd 104 C dX9_add_103 rfl ?_
  obtain ⟨x1, ex1, hf⟩ := nm_of hf
  refine r_nm ex1 ?_
  obtain ⟨hc2, hf⟩ := ck_of hf
  refine r_iastore 105 29 8 C (wd_29 ad u0) (sA_29 ad u0) hc2 dX9_add_104 rfl ?_
  obtain ⟨u1, eu1, hf⟩ := nm_of hf
  refine r_st eu1 ?_
  refine r_aload_n 106 0 C dX9_add_105 rfl rfl rfl ?_
  refine r_dup 107 C dX9_add_106 rfl rfl ?_
  refine r_get 110 28 3 C inX9 (wd_28 ad u1) rfl (by decide) tw_268 rfl rfl dX9_add_107 rfl ?_
  refine r_iconst (v := 1) 111 C dX9_add_110 (by decide) rfl ?_
  refine r_iadd 112 C dX9_add_111 rfl ?_
  obtain ⟨x2, ex2, hf⟩ := nm_of hf
  refine r_nm ex2 ?_
  refine r_put 115 28 3 C inX9 tyX9_ok nmX9 (wd_28 ad u1) (sF_28_3 ad u1 x2) rfl (by decide) tw_268 rfl rfl (tyX9_ok 3 (by decide)) rfl rfl (Nat.le_of_ble_eq_true rfl) dX9_add_112 rfl ?_
  obtain ⟨u2, eu2, hf⟩ := nm_of hf
  refine r_st eu2 ?_
  refine r_aload_n 116 0 C dX9_add_115 rfl rfl rfl ?_
  refine r_get 119 28 3 C inX9 (wd_28 ad u2) rfl (by decide) tw_268 rfl rfl dX9_add_116 rfl ?_
  exact r_iret C E (pr1 hf) (pr2 hf) dX9_add_119
def f_X9_add_63  (v3 : Int32) (v4 : Int32) (t1 : Int32) (t2 : Int32) (u : S2) : Option (Int32 × S2) := ck (inb t1 8) (nm (wr u 30 (Int32.toNatClampNeg t1) t2) (fun u0 => ck (inb v3 8) (nm (u0 29 (Int32.toNatClampNeg v3)) (fun x0 => (if x0 = 0 then f_X9_add_94   v3 v3 v4 u0 else ck (inb v3 8) (nm (u0 31 (Int32.toNatClampNeg v3)) (fun x1 => nm (jmax x1 v4) (fun x2 => f_X9_add_94   v3 v3 x2 u0))))))))
set_option maxRecDepth 20000 in
theorem w_X9_add_63 {K : Ctx} {ad : Nat → Nat} (C : Cx K ad cX9_add 5 yX9_add.cls (some .int)) (hR : Rm K 2 42) {r : Int32} {w : S2} (E : EI K ad r w)  (v3 : Int32) (v4 : Int32) (t1 : Int32) (t2 : Int32)     (u : S2) (hf : f_X9_add_63  v3 v4 t1 t2 u = some (r, w)) : RW K ad 5 63 [(0, .ref (ad 28)), (3, .int v3), (4, .int v4)] [.int t2, .int t1, .ref (ad 30)] u := by
  unfold f_X9_add_63 at hf
  obtain ⟨hc0, hf⟩ := ck_of hf
  refine r_iastore 64 30 8 C (wd_30 ad u) (sA_30 ad u) hc0 dX9_add_63 rfl ?_
  obtain ⟨u0, eu0, hf⟩ := nm_of hf
  refine r_st eu0 ?_
  refine r_aload_n 65 0 C dX9_add_64 rfl rfl rfl ?_
  refine r_get 68 28 2 C inX9 (wd_28 ad u0) rfl (by decide) tw_266 rfl rfl dX9_add_65 rfl ?_
  refine r_iload_n 69 1 C dX9_add_68 rfl rfl rfl ?_
  refine r_aload_n 70 0 C dX9_add_69 rfl rfl rfl ?_
  refine r_get 73 28 0 C inX9 (wd_28 ad u0) rfl (by decide) tw_262 rfl rfl dX9_add_70 rfl ?_
  refine r_iload_n 74 1 C dX9_add_73 rfl rfl rfl ?_
  obtain ⟨hc1, hf⟩ := ck_of hf
  refine r_iaload 75 29 8 C (wd_29 ad u0) hc1 dX9_add_74 rfl ?_
  obtain ⟨x0, ex0, hf⟩ := nm_of hf
  refine r_nm ex0 ?_
  refine r_if_ne 78 83 C dX9_add_75 (by decide) rfl (fun c0 => ?_) (fun c0 => ?_)
  · have hf := ifF c0 hf
    refine r_aload_n 84 0 C dX9_add_83 rfl rfl rfl ?_
    refine r_get 87 28 2 C inX9 (wd_28 ad u0) rfl (by decide) tw_266 rfl rfl dX9_add_84 rfl ?_
    refine r_iload_n 88 1 C dX9_add_87 rfl rfl rfl ?_
    obtain ⟨hc2, hf⟩ := ck_of hf
    refine r_iaload 89 31 8 C (wd_31 ad u0) hc2 dX9_add_88 rfl ?_
    obtain ⟨x1, ex1, hf⟩ := nm_of hf
    refine r_nm ex1 ?_
    refine r_iload 91 2 C dX9_add_89 rfl rfl ?_
    refine r_mmax 94 C hR tw_775 tw_494 tw_15 tw_495 (Nat.le_of_ble_eq_true rfl) (Nat.le_of_ble_eq_true rfl) dX9_add_91 rfl ?_
    obtain ⟨x2, ex2, hf⟩ := nm_of hf
    refine r_nm ex2 ?_
    refine r_sub [(0, .ref (ad 28)), (3, .int v3)] [0, 1] rfl ?_
    exact w_X9_add_94 C hR E   v3 v3 x2    u0 hf
  · have hf := ifT c0 hf
    refine r_iload 80 2 C dX9_add_78 rfl rfl ?_
    refine r_goto 94 C dX9_add_80 (by decide) ?_
    refine r_sub [(0, .ref (ad 28)), (3, .int v3)] [0, 1] rfl ?_
    exact w_X9_add_94 C hR E   v3 v3 v4    u0 hf
def f_X9_add (v1 : Int32) (v2 : Int32) (u : S2) : Option (Int32 × S2) := (if (u 28 3) < (24 : Int32) then bd (f_X11_asHeading (v1 + (2250 : Int32)) u) (fun r0 u0 => nm (r0 / (4500 : Int32)) (fun x0 => bd (f_X11_asOff (v1 - v2) u0) (fun r1 u1 => ck (inb x0 8) (nm (u1 29 (Int32.toNatClampNeg x0)) (fun x1 => (if x1 = 0 then f_X9_add_63   x0 r1 x0 r1 u1 else ck (inb x0 8) (nm (u1 30 (Int32.toNatClampNeg x0)) (fun x2 => nm (jmin x2 r1) (fun x3 => f_X9_add_63   x0 r1 x0 x3 u1))))))))) else some ((-5 : Int32), u))
set_option maxRecDepth 20000 in
theorem c_X9_add (ad : Nat → Nat) (v1 : Int32) (v2 : Int32)   (u : S2) (r : Int32) (w : S2) (hf : f_X9_add v1 v2 u = some (r, w)) : HI yX9_add cX9_add 5 (some .int) 2 42 ad [.ref (ad 28), .int v1, .int v2] u r w := by
  refine HI_of (by decide) (Nat.le_of_ble_eq_true rfl) (fun K C hR E => ?_)
  refine r_sub [(0, .ref (ad 28)), (1, .int v1), (2, .int v2)] [0, 1, 2] rfl ?_
  unfold f_X9_add at hf
  refine r_aload_n 1 0 C dX9_add_0 rfl rfl rfl ?_
  refine r_get 4 28 3 C inX9 (wd_28 ad u) rfl (by decide) tw_268 rfl rfl dX9_add_1 rfl ?_
  refine r_bipush (v := 24) 6 C dX9_add_4 (by decide) rfl ?_
  refine r_icmp_lt 9 12 C dX9_add_6 (by decide) rfl (fun c0 => ?_) (fun c0 => ?_)
  · have hf := ifT c0 hf
    refine r_iload_n 13 1 C dX9_add_12 rfl rfl rfl ?_
    refine r_sipush (v := 2250) 16 C dX9_add_13 (by decide) rfl ?_
    refine r_iadd 17 C dX9_add_16 rfl ?_
    obtain ⟨r0, u0, h0, hf⟩ := bd_of hf
    refine r_cSNI 20 [.int (v1 + (2250 : Int32))] C hR (c_X11_asHeading ad (v1 + (2250 : Int32))  u r0 u0 h0) q_X11_asHeading tn_772 tw_440 (Nat.le_of_ble_eq_true rfl) (Nat.le_of_ble_eq_true rfl) rfl rfl (Nat.le_of_ble_eq_true rfl) dX9_add_17 rfl ?_
    refine r_sipush (v := 4500) 23 C dX9_add_20 (by decide) rfl ?_
    refine r_idiv 24 C dX9_add_23 (by decide) rfl ?_
    obtain ⟨x0, ex0, hf⟩ := nm_of hf
    refine r_nm ex0 ?_
    refine r_istore_n 25 [(0, .ref (ad 28)), (1, .int v1), (2, .int v2), (3, .int x0)] [1, 2, 3, 0] C dX9_add_24 rfl (by decide) rfl rfl ?_
    refine r_iload_n 26 1 C dX9_add_25 rfl rfl rfl ?_
    refine r_iload_n 27 2 C dX9_add_26 rfl rfl rfl ?_
    refine r_isub 28 C dX9_add_27 rfl ?_
    obtain ⟨r1, u1, h1, hf⟩ := bd_of hf
    refine r_cSNI 31 [.int (v1 - v2)] C hR (c_X11_asOff ad (v1 - v2)  u0 r1 u1 h1) q_X11_asOff tn_773 tw_483 (Nat.le_of_ble_eq_true rfl) (Nat.le_of_ble_eq_true rfl) rfl rfl (Nat.le_of_ble_eq_true rfl) dX9_add_28 rfl ?_
    refine r_istore 33 [(0, .ref (ad 28)), (1, .int v1), (2, .int v2), (3, .int x0), (4, .int r1)] [1, 2, 3, 4, 0] C dX9_add_31 (by decide) rfl rfl ?_
    refine r_aload_n 34 0 C dX9_add_33 rfl rfl rfl ?_
    refine r_get 37 28 1 C inX9 (wd_28 ad u1) rfl (by decide) tw_264 rfl rfl dX9_add_34 rfl ?_
    refine r_iload_n 38 3 C dX9_add_37 rfl rfl rfl ?_
    refine r_aload_n 39 0 C dX9_add_38 rfl rfl rfl ?_
    refine r_get 42 28 0 C inX9 (wd_28 ad u1) rfl (by decide) tw_262 rfl rfl dX9_add_39 rfl ?_
    refine r_iload_n 43 3 C dX9_add_42 rfl rfl rfl ?_
    obtain ⟨hc0, hf⟩ := ck_of hf
    refine r_iaload 44 29 8 C (wd_29 ad u1) hc0 dX9_add_43 rfl ?_
    obtain ⟨x1, ex1, hf⟩ := nm_of hf
    refine r_nm ex1 ?_
    refine r_if_ne 47 52 C dX9_add_44 (by decide) rfl (fun c1 => ?_) (fun c1 => ?_)
    · have hf := ifF c1 hf
      refine r_aload_n 53 0 C dX9_add_52 rfl rfl rfl ?_
      refine r_get 56 28 1 C inX9 (wd_28 ad u1) rfl (by decide) tw_264 rfl rfl dX9_add_53 rfl ?_
      refine r_iload_n 57 3 C dX9_add_56 rfl rfl rfl ?_
      obtain ⟨hc1, hf⟩ := ck_of hf
      refine r_iaload 58 30 8 C (wd_30 ad u1) hc1 dX9_add_57 rfl ?_
      obtain ⟨x2, ex2, hf⟩ := nm_of hf
      refine r_nm ex2 ?_
      refine r_iload 60 4 C dX9_add_58 rfl rfl ?_
      refine r_mmin 63 C hR tw_774 tw_454 tw_15 tw_455 (Nat.le_of_ble_eq_true rfl) (Nat.le_of_ble_eq_true rfl) dX9_add_60 rfl ?_
      obtain ⟨x3, ex3, hf⟩ := nm_of hf
      refine r_nm ex3 ?_
      refine r_sub [(0, .ref (ad 28)), (3, .int x0), (4, .int r1)] [0, 3, 4] rfl ?_
      exact w_X9_add_63 C hR E   x0 r1 x0 x3     u1 hf
    · have hf := ifT c1 hf
      refine r_iload 49 4 C dX9_add_47 rfl rfl ?_
      refine r_goto 63 C dX9_add_49 (by decide) ?_
      refine r_sub [(0, .ref (ad 28)), (3, .int x0), (4, .int r1)] [0, 3, 4] rfl ?_
      exact w_X9_add_63 C hR E   x0 r1 x0 r1     u1 hf
  · have hf := ifF c0 hf
    refine r_bipush (v := -5) 11 C dX9_add_9 (by decide) rfl ?_
    exact r_iret C E (pr1 hf) (pr2 hf) dX9_add_11
def f_X11_about (v1 : Int32) (v2 : Int32) (u : S2) : Option (Int32 × S2) := bd (f_X11_isHeading v1 u) (fun r0 u0 => (if r0 = 0 then some ((-3 : Int32), u0) else bd (f_X11_isHeading v2 u0) (fun r1 u1 => (if r1 = 0 then some ((-3 : Int32), u1) else bd (f_X9_add v1 v2 u1) (fun r2 u2 => some (r2, u2))))))
set_option maxRecDepth 20000 in
theorem c_X11_about (ad : Nat → Nat) (v1 : Int32) (v2 : Int32)   (u : S2) (r : Int32) (w : S2) (hf : f_X11_about v1 v2 u = some (r, w)) : HI yX11_about cX11_about 3 (some .int) 3 66 ad [.ref (ad 0), .int v1, .int v2] u r w := by
  refine HI_of (by decide) (Nat.le_of_ble_eq_true rfl) (fun K C hR E => ?_)
  refine r_sub [(0, .ref (ad 0)), (1, .int v1), (2, .int v2)] [0, 1, 2] rfl ?_
  unfold f_X11_about at hf
  refine r_iload_n 1 1 C dX11_about_0 rfl rfl rfl ?_
  obtain ⟨r0, u0, h0, hf⟩ := bd_of hf
  refine r_cSI 4 [.int v1] C hR (c_X11_isHeading ad v1  u r0 u0 h0) q_X11_isHeading tw_366 tw_367 (Nat.le_of_ble_eq_true rfl) (Nat.le_of_ble_eq_true rfl) rfl rfl (Nat.le_of_ble_eq_true rfl) dX11_about_1 rfl ?_
  refine r_if_eq 7 14 C dX11_about_4 (by decide) rfl (fun c0 => ?_) (fun c0 => ?_)
  · have hf := ifT c0 hf
    refine r_bipush (v := -3) 16 C dX11_about_14 (by decide) rfl ?_
    exact r_iret C E (pr1 hf) (pr2 hf) dX11_about_16
  · have hf := ifF c0 hf
    refine r_iload_n 8 2 C dX11_about_7 rfl rfl rfl ?_
    obtain ⟨r1, u1, h1, hf⟩ := bd_of hf
    refine r_cSI 11 [.int v2] C hR (c_X11_isHeading ad v2  u0 r1 u1 h1) q_X11_isHeading tw_366 tw_367 (Nat.le_of_ble_eq_true rfl) (Nat.le_of_ble_eq_true rfl) rfl rfl (Nat.le_of_ble_eq_true rfl) dX11_about_8 rfl ?_
    refine r_if_ne 14 17 C dX11_about_11 (by decide) rfl (fun c1 => ?_) (fun c1 => ?_)
    · have hf := ifF c1 hf
      refine r_aload_n 18 0 C dX11_about_17 rfl rfl rfl ?_
      refine r_get 21 0 8 C inX11 (wd_0 ad u1) rfl (by decide) tw_326 rfl rfl dX11_about_18 rfl ?_
      refine r_iload_n 22 1 C dX11_about_21 rfl rfl rfl ?_
      refine r_iload_n 23 2 C dX11_about_22 rfl rfl rfl ?_
      obtain ⟨r2, u2, h2, hf⟩ := bd_of hf
      refine r_cVNI 26 [.int v1, .int v2] C hR (c_X9_add ad v1 v2    u1 r2 u2 h2) q_X9_add tn_768 (wd_28 ad u1) rfl rfl tw_770 tp_36 (Nat.le_of_ble_eq_true rfl) (Nat.le_of_ble_eq_true rfl) rfl rfl (Nat.le_of_ble_eq_true rfl) dX11_about_23 rfl ?_
      exact r_iret C E (pr1 hf) (pr2 hf) dX11_about_26
    · have hf := ifT c1 hf
      refine r_bipush (v := -3) 16 C dX11_about_14 (by decide) rfl ?_
      exact r_iret C E (pr1 hf) (pr2 hf) dX11_about_16
def f_X11_needle (v1 : Int32) (v2 : Int32) (u : S2) : Option (Int32 × S2) := bd (f_X11_isEighth v1 u) (fun r0 u0 => (if r0 = 0 then some ((-3 : Int32), u0) else bd (f_X11_isWithin v2 (0 : Int32) (1 : Int32) u0) (fun r1 u1 => (if r1 = 0 then some ((-3 : Int32), u1) else ck (inb v1 8) (nm (u1 29 (Int32.toNatClampNeg v1)) (fun x0 => (if x0 = 0 then some ((-1 : Int32), u1) else (if v2 = 0 then ck (inb v1 8) (nm (u1 30 (Int32.toNatClampNeg v1)) (fun x2 => some (x2 + (50000 : Int32), u1))) else ck (inb v1 8) (nm (u1 31 (Int32.toNatClampNeg v1)) (fun x1 => some (x1 + (50000 : Int32), u1)))))))))))
set_option maxRecDepth 20000 in
theorem c_X11_needle (ad : Nat → Nat) (v1 : Int32) (v2 : Int32)   (u : S2) (r : Int32) (w : S2) (hf : f_X11_needle v1 v2 u = some (r, w)) : HI yX11_needle cX11_needle 3 (some .int) 2 42 ad [.ref (ad 0), .int v1, .int v2] u r w := by
  refine HI_of (by decide) (Nat.le_of_ble_eq_true rfl) (fun K C hR E => ?_)
  refine r_sub [(0, .ref (ad 0)), (1, .int v1), (2, .int v2)] [0, 1, 2] rfl ?_
  unfold f_X11_needle at hf
  refine r_iload_n 1 1 C dX11_needle_0 rfl rfl rfl ?_
  obtain ⟨r0, u0, h0, hf⟩ := bd_of hf
  refine r_cSI 4 [.int v1] C hR (c_X11_isEighth ad v1  u r0 u0 h0) q_X11_isEighth tw_421 tw_422 (Nat.le_of_ble_eq_true rfl) (Nat.le_of_ble_eq_true rfl) rfl rfl (Nat.le_of_ble_eq_true rfl) dX11_needle_1 rfl ?_
  refine r_if_eq 7 16 C dX11_needle_4 (by decide) rfl (fun c0 => ?_) (fun c0 => ?_)
  · have hf := ifT c0 hf
    refine r_bipush (v := -3) 18 C dX11_needle_16 (by decide) rfl ?_
    exact r_iret C E (pr1 hf) (pr2 hf) dX11_needle_18
  · have hf := ifF c0 hf
    refine r_iload_n 8 2 C dX11_needle_7 rfl rfl rfl ?_
    refine r_iconst (v := 0) 9 C dX11_needle_8 (by decide) rfl ?_
    refine r_iconst (v := 1) 10 C dX11_needle_9 (by decide) rfl ?_
    obtain ⟨r1, u1, h1, hf⟩ := bd_of hf
    refine r_cSI 13 [.int v2, .int (0 : Int32), .int (1 : Int32)] C hR (c_X11_isWithin ad v2 (0 : Int32) (1 : Int32)    u0 r1 u1 h1) q_X11_isWithin tw_356 tw_357 (Nat.le_of_ble_eq_true rfl) (Nat.le_of_ble_eq_true rfl) rfl rfl (Nat.le_of_ble_eq_true rfl) dX11_needle_10 rfl ?_
    refine r_if_ne 16 19 C dX11_needle_13 (by decide) rfl (fun c1 => ?_) (fun c1 => ?_)
    · have hf := ifF c1 hf
      refine r_aload_n 20 0 C dX11_needle_19 rfl rfl rfl ?_
      refine r_get 23 0 8 C inX11 (wd_0 ad u1) rfl (by decide) tw_326 rfl rfl dX11_needle_20 rfl ?_
      refine r_getN 26 28 0 C inX9 (wd_28 ad u1) rfl (by decide) tn_263 rfl rfl dX11_needle_23 rfl ?_
      refine r_iload_n 27 1 C dX11_needle_26 rfl rfl rfl ?_
      obtain ⟨hc0, hf⟩ := ck_of hf
      refine r_iaload 28 29 8 C (wd_29 ad u1) hc0 dX11_needle_27 rfl ?_
      obtain ⟨x0, ex0, hf⟩ := nm_of hf
      refine r_nm ex0 ?_
      refine r_if_ne 31 33 C dX11_needle_28 (by decide) rfl (fun c2 => ?_) (fun c2 => ?_)
      · have hf := ifF c2 hf
        refine r_iload_n 34 2 C dX11_needle_33 rfl rfl rfl ?_
        refine r_if_ne 37 49 C dX11_needle_34 (by decide) rfl (fun c3 => ?_) (fun c3 => ?_)
        · have hf := ifF c3 hf
          refine r_aload_n 50 0 C dX11_needle_49 rfl rfl rfl ?_
          refine r_get 53 0 8 C inX11 (wd_0 ad u1) rfl (by decide) tw_326 rfl rfl dX11_needle_50 rfl ?_
          refine r_getN 56 28 2 C inX9 (wd_28 ad u1) rfl (by decide) tn_267 rfl rfl dX11_needle_53 rfl ?_
          refine r_iload_n 57 1 C dX11_needle_56 rfl rfl rfl ?_
          obtain ⟨hc1, hf⟩ := ck_of hf
          refine r_iaload 58 31 8 C (wd_31 ad u1) hc1 dX11_needle_57 rfl ?_
          obtain ⟨x1, ex1, hf⟩ := nm_of hf
          refine r_nm ex1 ?_
          refine r_ldc (v := 50000) 60 C tw_460 dX11_needle_58 rfl ?_
          refine r_iadd 61 C dX11_needle_60 rfl ?_
          exact r_iret C E (pr1 hf) (pr2 hf) dX11_needle_61
        · have hf := ifT c3 hf
          refine r_aload_n 38 0 C dX11_needle_37 rfl rfl rfl ?_
          refine r_get 41 0 8 C inX11 (wd_0 ad u1) rfl (by decide) tw_326 rfl rfl dX11_needle_38 rfl ?_
          refine r_getN 44 28 1 C inX9 (wd_28 ad u1) rfl (by decide) tn_265 rfl rfl dX11_needle_41 rfl ?_
          refine r_iload_n 45 1 C dX11_needle_44 rfl rfl rfl ?_
          obtain ⟨hc2, hf⟩ := ck_of hf
          refine r_iaload 46 30 8 C (wd_30 ad u1) hc2 dX11_needle_45 rfl ?_
          obtain ⟨x2, ex2, hf⟩ := nm_of hf
          refine r_nm ex2 ?_
          refine r_goto 58 C dX11_needle_46 (by decide) ?_
          refine r_ldc (v := 50000) 60 C tw_460 dX11_needle_58 rfl ?_
          refine r_iadd 61 C dX11_needle_60 rfl ?_
          exact r_iret C E (pr1 hf) (pr2 hf) dX11_needle_61
      · have hf := ifT c2 hf
        refine r_iconst (v := -1) 32 C dX11_needle_31 (by decide) rfl ?_
        exact r_iret C E (pr1 hf) (pr2 hf) dX11_needle_32
    · have hf := ifT c1 hf
      refine r_bipush (v := -3) 18 C dX11_needle_16 (by decide) rfl ?_
      exact r_iret C E (pr1 hf) (pr2 hf) dX11_needle_18
def f_X10_add (v1 : Int32) (v2 : Int32) (u : S2) : Option (Int32 × S2) := (if (u 32 2) < (10 : Int32) then ck (inb (u 32 2) 10) (nm (wr u 33 (Int32.toNatClampNeg (u 32 2)) v1) (fun u0 => ck (inb (u0 32 2) 10) (nm (wr u0 34 (Int32.toNatClampNeg (u0 32 2)) v2) (fun u1 => nm ((u1 32 2) + (1 : Int32)) (fun x0 => nm (wr u1 32 2 x0) (fun u2 => some (u2 32 2, u2))))))) else some ((-5 : Int32), u))
set_option maxRecDepth 20000 in
theorem c_X10_add (ad : Nat → Nat) (v1 : Int32) (v2 : Int32)   (u : S2) (r : Int32) (w : S2) (hf : f_X10_add v1 v2 u = some (r, w)) : HI yX10_add cX10_add 3 (some .int) 0 0 ad [.ref (ad 32), .int v1, .int v2] u r w := by
  refine HI_of (by decide) (Nat.le_of_ble_eq_true rfl) (fun K C hR E => ?_)
  refine r_sub [(0, .ref (ad 32)), (1, .int v1), (2, .int v2)] [0, 1, 2] rfl ?_
  unfold f_X10_add at hf
  refine r_aload_n 1 0 C dX10_add_0 rfl rfl rfl ?_
  refine r_get 4 32 2 C inX10 (wd_32 ad u) rfl (by decide) tw_289 rfl rfl dX10_add_1 rfl ?_
  refine r_bipush (v := 10) 6 C dX10_add_4 (by decide) rfl ?_
  refine r_icmp_lt 9 12 C dX10_add_6 (by decide) rfl (fun c0 => ?_) (fun c0 => ?_)
  · have hf := ifT c0 hf
    refine r_aload_n 13 0 C dX10_add_12 rfl rfl rfl ?_
    refine r_get 16 32 0 C inX10 (wd_32 ad u) rfl (by decide) tw_287 rfl rfl dX10_add_13 rfl ?_
    refine r_aload_n 17 0 C dX10_add_16 rfl rfl rfl ?_
    refine r_get 20 32 2 C inX10 (wd_32 ad u) rfl (by decide) tw_289 rfl rfl dX10_add_17 rfl ?_
    refine r_iload_n 21 1 C dX10_add_20 rfl rfl rfl ?_
    obtain ⟨hc0, hf⟩ := ck_of hf
    refine r_iastore 22 33 10 C (wd_33 ad u) (sA_33 ad u) hc0 dX10_add_21 rfl ?_
    obtain ⟨u0, eu0, hf⟩ := nm_of hf
    refine r_st eu0 ?_
    refine r_aload_n 23 0 C dX10_add_22 rfl rfl rfl ?_
    refine r_get 26 32 1 C inX10 (wd_32 ad u0) rfl (by decide) tw_288 rfl rfl dX10_add_23 rfl ?_
    refine r_aload_n 27 0 C dX10_add_26 rfl rfl rfl ?_
    refine r_get 30 32 2 C inX10 (wd_32 ad u0) rfl (by decide) tw_289 rfl rfl dX10_add_27 rfl ?_
    refine r_iload_n 31 2 C dX10_add_30 rfl rfl rfl ?_
    obtain ⟨hc1, hf⟩ := ck_of hf
    refine r_iastore 32 34 10 C (wd_34 ad u0) (sA_34 ad u0) hc1 dX10_add_31 rfl ?_
    obtain ⟨u1, eu1, hf⟩ := nm_of hf
    refine r_st eu1 ?_
    refine r_aload_n 33 0 C dX10_add_32 rfl rfl rfl ?_
    refine r_dup 34 C dX10_add_33 rfl rfl ?_
    refine r_get 37 32 2 C inX10 (wd_32 ad u1) rfl (by decide) tw_289 rfl rfl dX10_add_34 rfl ?_
    refine r_iconst (v := 1) 38 C dX10_add_37 (by decide) rfl ?_
    refine r_iadd 39 C dX10_add_38 rfl ?_
    obtain ⟨x0, ex0, hf⟩ := nm_of hf
    refine r_nm ex0 ?_
    refine r_put 42 32 2 C inX10 tyX10_ok nmX10 (wd_32 ad u1) (sF_32_2 ad u1 x0) rfl (by decide) tw_289 rfl rfl (tyX10_ok 2 (by decide)) rfl rfl (Nat.le_of_ble_eq_true rfl) dX10_add_39 rfl ?_
    obtain ⟨u2, eu2, hf⟩ := nm_of hf
    refine r_st eu2 ?_
    refine r_aload_n 43 0 C dX10_add_42 rfl rfl rfl ?_
    refine r_get 46 32 2 C inX10 (wd_32 ad u2) rfl (by decide) tw_289 rfl rfl dX10_add_43 rfl ?_
    exact r_iret C E (pr1 hf) (pr2 hf) dX10_add_46
  · have hf := ifF c0 hf
    refine r_bipush (v := -5) 11 C dX10_add_9 (by decide) rfl ?_
    exact r_iret C E (pr1 hf) (pr2 hf) dX10_add_11
def f_X11_watch (v1 : Int32) (v2 : Int32) (u : S2) : Option (Int32 × S2) := bd (f_X11_isWithin v1 (0 : Int32) (60 : Int32) u) (fun r0 u0 => (if r0 = 0 then some ((-3 : Int32), u0) else bd (f_X11_isOff v2 u0) (fun r1 u1 => (if r1 = 0 then some ((-3 : Int32), u1) else bd (f_X10_add v1 v2 u1) (fun r2 u2 => some (r2, u2))))))
set_option maxRecDepth 20000 in
theorem c_X11_watch (ad : Nat → Nat) (v1 : Int32) (v2 : Int32)   (u : S2) (r : Int32) (w : S2) (hf : f_X11_watch v1 v2 u = some (r, w)) : HI yX11_watch cX11_watch 3 (some .int) 2 42 ad [.ref (ad 0), .int v1, .int v2] u r w := by
  refine HI_of (by decide) (Nat.le_of_ble_eq_true rfl) (fun K C hR E => ?_)
  refine r_sub [(0, .ref (ad 0)), (1, .int v1), (2, .int v2)] [0, 1, 2] rfl ?_
  unfold f_X11_watch at hf
  refine r_iload_n 1 1 C dX11_watch_0 rfl rfl rfl ?_
  refine r_iconst (v := 0) 2 C dX11_watch_1 (by decide) rfl ?_
  refine r_bipush (v := 60) 4 C dX11_watch_2 (by decide) rfl ?_
  obtain ⟨r0, u0, h0, hf⟩ := bd_of hf
  refine r_cSI 7 [.int v1, .int (0 : Int32), .int (60 : Int32)] C hR (c_X11_isWithin ad v1 (0 : Int32) (60 : Int32)    u r0 u0 h0) q_X11_isWithin tw_356 tw_357 (Nat.le_of_ble_eq_true rfl) (Nat.le_of_ble_eq_true rfl) rfl rfl (Nat.le_of_ble_eq_true rfl) dX11_watch_4 rfl ?_
  refine r_if_eq 10 17 C dX11_watch_7 (by decide) rfl (fun c0 => ?_) (fun c0 => ?_)
  · have hf := ifT c0 hf
    refine r_bipush (v := -3) 19 C dX11_watch_17 (by decide) rfl ?_
    exact r_iret C E (pr1 hf) (pr2 hf) dX11_watch_19
  · have hf := ifF c0 hf
    refine r_iload_n 11 2 C dX11_watch_10 rfl rfl rfl ?_
    obtain ⟨r1, u1, h1, hf⟩ := bd_of hf
    refine r_cSI 14 [.int v2] C hR (c_X11_isOff ad v2  u0 r1 u1 h1) q_X11_isOff tw_410 tw_411 (Nat.le_of_ble_eq_true rfl) (Nat.le_of_ble_eq_true rfl) rfl rfl (Nat.le_of_ble_eq_true rfl) dX11_watch_11 rfl ?_
    refine r_if_ne 17 20 C dX11_watch_14 (by decide) rfl (fun c1 => ?_) (fun c1 => ?_)
    · have hf := ifF c1 hf
      refine r_aload_n 21 0 C dX11_watch_20 rfl rfl rfl ?_
      refine r_get 24 0 9 C inX11 (wd_0 ad u1) rfl (by decide) tw_327 rfl rfl dX11_watch_21 rfl ?_
      refine r_iload_n 25 1 C dX11_watch_24 rfl rfl rfl ?_
      refine r_iload_n 26 2 C dX11_watch_25 rfl rfl rfl ?_
      obtain ⟨r2, u2, h2, hf⟩ := bd_of hf
      refine r_cVNI 29 [.int v1, .int v2] C hR (c_X10_add ad v1 v2    u1 r2 u2 h2) q_X10_add tn_784 (wd_32 ad u1) rfl rfl tw_786 tp_37 (Nat.le_of_ble_eq_true rfl) (Nat.le_of_ble_eq_true rfl) rfl rfl (Nat.le_of_ble_eq_true rfl) dX11_watch_26 rfl ?_
      exact r_iret C E (pr1 hf) (pr2 hf) dX11_watch_29
    · have hf := ifT c1 hf
      refine r_bipush (v := -3) 19 C dX11_watch_17 (by decide) rfl ?_
      exact r_iret C E (pr1 hf) (pr2 hf) dX11_watch_19
def f_X10_follow_37  : Nat → Int32 → S2 → Option (S2)
  | 0, _, _ => none
  | n + 1, v3, u => (if (60 : Int32) < v3 then some u else bd (f_X11_holdOf (0 : Int32) u) (fun r0 u0 => bv (f_X4_sway (17) r0 (u0 17 4) (0 : Int32) (1 : Int32) u0) (fun u1 => nm (u1 17 4) (fun x0 => ck (inb v3 61) (nm (wr u1 35 (Int32.toNatClampNeg v3) x0) (fun u2 => nm (v3 + (1 : Int32)) (fun x1 => f_X10_follow_37  n x1 u2)))))))
theorem f_X10_follow_37_e  (n : Nat) (v3 : Int32) (u : S2) : f_X10_follow_37  (n + 1) v3 u = (if (60 : Int32) < v3 then some u else bd (f_X11_holdOf (0 : Int32) u) (fun r0 u0 => bv (f_X4_sway (17) r0 (u0 17 4) (0 : Int32) (1 : Int32) u0) (fun u1 => nm (u1 17 4) (fun x0 => ck (inb v3 61) (nm (wr u1 35 (Int32.toNatClampNeg v3) x0) (fun u2 => nm (v3 + (1 : Int32)) (fun x1 => f_X10_follow_37  n x1 u2))))))) := rfl
set_option maxRecDepth 20000 in
theorem w_X10_follow_37 {K : Ctx} {ad : Nat → Nat} (C : Cx K ad cX10_follow 4 yX10_follow.cls none) (hR : Rm K 3 66) {w : S2} (E : EV K ad w)  : ∀ (n : Nat) (v3 : Int32)  (u : S2) (hf : f_X10_follow_37  n v3 u = some w), RW K ad 4 37 [(0, .ref (ad 32)), (3, .int v3)] [] u := by
  intro n
  induction n with
  | zero => intro v3  u hf; cases hf
  | succ n ih =>
    intro v3  u hf
    rw [f_X10_follow_37_e] at hf
    refine r_iload_n 38 1 C dX10_follow_37 rfl rfl rfl ?_
    refine r_bipush (v := 60) 40 C dX10_follow_38 (by decide) rfl ?_
    refine r_icmp_gt 43 82 C dX10_follow_40 (by decide) rfl (fun c0 => ?_) (fun c0 => ?_)
    · have hf := ifT c0 hf
      exact r_vret C E (so_of hf) dX10_follow_82
    · have hf := ifF c0 hf
      refine r_aload_n 44 0 C dX10_follow_43 rfl rfl rfl ?_
      refine r_get 47 32 3 C inX10 (wd_32 ad u) rfl (by decide) tw_291 rfl rfl dX10_follow_44 rfl ?_
      refine r_iconst (v := 0) 48 C dX10_follow_47 (by decide) rfl ?_
      obtain ⟨r0, u0, h0, hf⟩ := bd_of hf
      refine r_cSNI 51 [.int (0 : Int32)] C hR (c_X11_holdOf ad (0 : Int32)  u r0 u0 h0) q_X11_holdOf tn_801 tw_448 (Nat.le_of_ble_eq_true rfl) (Nat.le_of_ble_eq_true rfl) rfl rfl (Nat.le_of_ble_eq_true rfl) dX10_follow_48 rfl ?_
      refine r_aload_n 52 0 C dX10_follow_51 rfl rfl rfl ?_
      refine r_get 55 32 3 C inX10 (wd_32 ad u0) rfl (by decide) tw_291 rfl rfl dX10_follow_52 rfl ?_
      refine r_getN 58 17 4 C inX4 (wd_P ad u0 (by decide) (by decide)) rfl (by decide) tn_79 rfl rfl dX10_follow_55 rfl ?_
      refine r_iconst (v := 0) 59 C dX10_follow_58 (by decide) rfl ?_
      refine r_iconst (v := 1) 60 C dX10_follow_59 (by decide) rfl ?_
      obtain ⟨u1, h1, hf⟩ := bv_of hf
      refine r_cVNV 63 [.int r0, .int (u0 17 4), .int (0 : Int32), .int (1 : Int32)] C hR (c_X4_sway ad (17) r0 (u0 17 4) (0 : Int32) (1 : Int32) (by decide) (by decide)     u0 u1 h1) q_X4_sway tn_802 (wd_P ad u0 (by decide) (by decide)) rfl rfl tw_514 tp_11 (Nat.le_of_ble_eq_true rfl) (Nat.le_of_ble_eq_true rfl) rfl rfl (Nat.le_of_ble_eq_true rfl) dX10_follow_60 rfl ?_
      refine r_aload_n 64 0 C dX10_follow_63 rfl rfl rfl ?_
      refine r_get 67 32 4 C inX10 (wd_32 ad u1) rfl (by decide) tw_292 rfl rfl dX10_follow_64 rfl ?_
      refine r_iload_n 68 1 C dX10_follow_67 rfl rfl rfl ?_
      refine r_aload_n 69 0 C dX10_follow_68 rfl rfl rfl ?_
      refine r_get 72 32 3 C inX10 (wd_32 ad u1) rfl (by decide) tw_291 rfl rfl dX10_follow_69 rfl ?_
      refine r_getN 75 17 4 C inX4 (wd_P ad u1 (by decide) (by decide)) rfl (by decide) tn_79 rfl rfl dX10_follow_72 rfl ?_
      obtain ⟨x0, ex0, hf⟩ := nm_of hf
      refine r_nm ex0 ?_
      obtain ⟨hc0, hf⟩ := ck_of hf
      refine r_iastore 76 35 61 C (wd_35 ad u1) (sA_35 ad u1) hc0 dX10_follow_75 rfl ?_
      obtain ⟨u2, eu2, hf⟩ := nm_of hf
      refine r_st eu2 ?_
      obtain ⟨x1, ex1, hf⟩ := nm_of hf
      refine r_iinc (v := x1) 79 1 [(0, .ref (ad 32)), (3, .int x1)] [1, 0] C dX10_follow_76 rfl (by rw [ex1]; rfl) (by decide) rfl rfl ?_
      refine r_goto 37 C dX10_follow_79 (by decide) ?_
      refine r_sub [(0, .ref (ad 32)), (3, .int x1)] [0, 1] rfl ?_
      exact ih x1  u2 hf
def f_X10_follow (v1 : Int32) (v2 : Int32) (u : S2) : Option (S2) := nm (wr u 17 1 v1) (fun u0 => nm (wr u0 17 2 v2) (fun u1 => bv (f_X4_layAt (17) (3000 : Int32) u1) (fun u2 => nm (wr u2 35 0 (3000 : Int32)) (fun u3 => f_X10_follow_37  FUEL (1 : Int32) u3))))
set_option maxRecDepth 20000 in
theorem c_X10_follow (ad : Nat → Nat) (v1 : Int32) (v2 : Int32)   (u : S2) (w : S2) (hf : f_X10_follow v1 v2 u = some w) : HV yX10_follow cX10_follow 4 none 3 66 ad [.ref (ad 32), .int v1, .int v2] u w := by
  refine HV_of (by decide) (Nat.le_of_ble_eq_true rfl) (fun K C hR E => ?_)
  refine r_sub [(0, .ref (ad 32)), (1, .int v1), (2, .int v2)] [0, 1, 2] rfl ?_
  unfold f_X10_follow at hf
  refine r_aload_n 1 0 C dX10_follow_0 rfl rfl rfl ?_
  refine r_get 4 32 3 C inX10 (wd_32 ad u) rfl (by decide) tw_291 rfl rfl dX10_follow_1 rfl ?_
  refine r_iload_n 5 1 C dX10_follow_4 rfl rfl rfl ?_
  refine r_putN 8 17 1 C inX4 tyX4_ok nmX4 (wd_P ad u (by decide) (by decide)) (sP_1 ad u (by decide) (by decide) v1) rfl (by decide) tn_71 rfl rfl (tyX4_ok 1 (by decide)) rfl rfl (Nat.le_of_ble_eq_true rfl) dX10_follow_5 rfl ?_
  obtain ⟨u0, eu0, hf⟩ := nm_of hf
  refine r_st eu0 ?_
  refine r_aload_n 9 0 C dX10_follow_8 rfl rfl rfl ?_
  refine r_get 12 32 3 C inX10 (wd_32 ad u0) rfl (by decide) tw_291 rfl rfl dX10_follow_9 rfl ?_
  refine r_iload_n 13 2 C dX10_follow_12 rfl rfl rfl ?_
  refine r_putN 16 17 2 C inX4 tyX4_ok nmX4 (wd_P ad u0 (by decide) (by decide)) (sP_2 ad u0 (by decide) (by decide) v2) rfl (by decide) tn_75 rfl rfl (tyX4_ok 2 (by decide)) rfl rfl (Nat.le_of_ble_eq_true rfl) dX10_follow_13 rfl ?_
  obtain ⟨u1, eu1, hf⟩ := nm_of hf
  refine r_st eu1 ?_
  refine r_aload_n 17 0 C dX10_follow_16 rfl rfl rfl ?_
  refine r_get 20 32 3 C inX10 (wd_32 ad u1) rfl (by decide) tw_291 rfl rfl dX10_follow_17 rfl ?_
  refine r_sipush (v := 3000) 23 C dX10_follow_20 (by decide) rfl ?_
  obtain ⟨u2, h0, hf⟩ := bv_of hf
  refine r_cVNV 26 [.int (3000 : Int32)] C hR (c_X4_layAt ad (17) (3000 : Int32) (by decide) (by decide)  u1 u2 h0) q_X4_layAt tn_800 (wd_P ad u1 (by decide) (by decide)) rfl rfl tw_396 tp_2 (Nat.le_of_ble_eq_true rfl) (Nat.le_of_ble_eq_true rfl) rfl rfl (Nat.le_of_ble_eq_true rfl) dX10_follow_23 rfl ?_
  refine r_aload_n 27 0 C dX10_follow_26 rfl rfl rfl ?_
  refine r_get 30 32 4 C inX10 (wd_32 ad u2) rfl (by decide) tw_292 rfl rfl dX10_follow_27 rfl ?_
  refine r_iconst (v := 0) 31 C dX10_follow_30 (by decide) rfl ?_
  refine r_sipush (v := 3000) 34 C dX10_follow_31 (by decide) rfl ?_
  refine r_iastore 35 35 61 C (wd_35 ad u2) (sA_35 ad u2) (by decide) dX10_follow_34 rfl ?_
  obtain ⟨u3, eu3, hf⟩ := nm_of hf
  refine r_st eu3 ?_
  refine r_iconst (v := 1) 36 C dX10_follow_35 (by decide) rfl ?_
  refine r_istore_n 37 [(0, .ref (ad 32)), (1, .int v1), (2, .int v2), (3, .int (1 : Int32))] [1, 2, 3, 0] C dX10_follow_36 rfl (by decide) rfl rfl ?_
  refine r_sub [(0, .ref (ad 32)), (3, .int (1 : Int32))] [0, 3] rfl ?_
  exact w_X10_follow_37 C hR E  FUEL (1 : Int32)  u3 hf
def f_X10_fits_2  : Nat → Int32 → Int32 → S2 → Option (Int32 × S2)
  | 0, _, _, _ => none
  | n + 1, v1, v2, u => (if (u 32 2) ≤ v2 then some ((1 : Int32), u) else ck (inb v2 10) (nm (u 33 (Int32.toNatClampNeg v2)) (fun x0 => ck (inb x0 61) (nm (u 35 (Int32.toNatClampNeg x0)) (fun x1 => ck (inb v2 10) (nm (u 34 (Int32.toNatClampNeg v2)) (fun x2 => bd (f_X11_apart x1 x2 u) (fun r0 u0 => (if r0 ≤ v1 then nm (v2 + (1 : Int32)) (fun x3 => f_X10_fits_2  n v1 x3 u0) else some ((0 : Int32), u0))))))))))
theorem f_X10_fits_2_e  (n : Nat) (v1 : Int32) (v2 : Int32) (u : S2) : f_X10_fits_2  (n + 1) v1 v2 u = (if (u 32 2) ≤ v2 then some ((1 : Int32), u) else ck (inb v2 10) (nm (u 33 (Int32.toNatClampNeg v2)) (fun x0 => ck (inb x0 61) (nm (u 35 (Int32.toNatClampNeg x0)) (fun x1 => ck (inb v2 10) (nm (u 34 (Int32.toNatClampNeg v2)) (fun x2 => bd (f_X11_apart x1 x2 u) (fun r0 u0 => (if r0 ≤ v1 then nm (v2 + (1 : Int32)) (fun x3 => f_X10_fits_2  n v1 x3 u0) else some ((0 : Int32), u0)))))))))) := rfl
set_option maxRecDepth 20000 in
theorem w_X10_fits_2 {K : Ctx} {ad : Nat → Nat} (C : Cx K ad cX10_fits 3 yX10_fits.cls (some .boolean)) (hR : Rm K 3 63) {r : Int32} {w : S2} (E : EI K ad r w)  : ∀ (n : Nat) (v1 : Int32) (v2 : Int32)   (u : S2) (hf : f_X10_fits_2  n v1 v2 u = some (r, w)), RW K ad 3 2 [(0, .ref (ad 32)), (1, .int v1), (2, .int v2)] [] u := by
  intro n
  induction n with
  | zero => intro v1 v2   u hf; cases hf
  | succ n ih =>
    intro v1 v2   u hf
    rw [f_X10_fits_2_e] at hf
    refine r_iload_n 3 2 C dX10_fits_2 rfl rfl rfl ?_
    refine r_aload_n 4 0 C dX10_fits_3 rfl rfl rfl ?_
    refine r_get 7 32 2 C inX10 (wd_32 ad u) rfl (by decide) tw_289 rfl rfl dX10_fits_4 rfl ?_
    refine r_icmp_ge 10 42 C dX10_fits_7 (by decide) rfl (fun c0 => ?_) (fun c0 => ?_)
    · have hf := ifT c0 hf
      refine r_iconst (v := 1) 43 C dX10_fits_42 (by decide) rfl ?_
      exact r_zret C E rfl (pr1 hf) (pr2 hf) dX10_fits_43
    · have hf := ifF c0 hf
      refine r_aload_n 11 0 C dX10_fits_10 rfl rfl rfl ?_
      refine r_get 14 32 4 C inX10 (wd_32 ad u) rfl (by decide) tw_292 rfl rfl dX10_fits_11 rfl ?_
      refine r_aload_n 15 0 C dX10_fits_14 rfl rfl rfl ?_
      refine r_get 18 32 0 C inX10 (wd_32 ad u) rfl (by decide) tw_287 rfl rfl dX10_fits_15 rfl ?_
      refine r_iload_n 19 2 C dX10_fits_18 rfl rfl rfl ?_
      obtain ⟨hc0, hf⟩ := ck_of hf
      refine r_iaload 20 33 10 C (wd_33 ad u) hc0 dX10_fits_19 rfl ?_
      obtain ⟨x0, ex0, hf⟩ := nm_of hf
      refine r_nm ex0 ?_
      obtain ⟨hc1, hf⟩ := ck_of hf
      refine r_iaload 21 35 61 C (wd_35 ad u) hc1 dX10_fits_20 rfl ?_
      obtain ⟨x1, ex1, hf⟩ := nm_of hf
      refine r_nm ex1 ?_
      refine r_aload_n 22 0 C dX10_fits_21 rfl rfl rfl ?_
      refine r_get 25 32 1 C inX10 (wd_32 ad u) rfl (by decide) tw_288 rfl rfl dX10_fits_22 rfl ?_
      refine r_iload_n 26 2 C dX10_fits_25 rfl rfl rfl ?_
      obtain ⟨hc2, hf⟩ := ck_of hf
      refine r_iaload 27 34 10 C (wd_34 ad u) hc2 dX10_fits_26 rfl ?_
      obtain ⟨x2, ex2, hf⟩ := nm_of hf
      refine r_nm ex2 ?_
      obtain ⟨r0, u0, h0, hf⟩ := bd_of hf
      refine r_cSNI 30 [.int x1, .int x2] C hR (c_X11_apart ad x1 x2   u r0 u0 h0) q_X11_apart tn_807 tw_731 (Nat.le_of_ble_eq_true rfl) (Nat.le_of_ble_eq_true rfl) rfl rfl (Nat.le_of_ble_eq_true rfl) dX10_fits_27 rfl ?_
      refine r_iload_n 31 1 C dX10_fits_30 rfl rfl rfl ?_
      refine r_icmp_le 34 36 C dX10_fits_31 (by decide) rfl (fun c1 => ?_) (fun c1 => ?_)
      · have hf := ifT c1 hf
        obtain ⟨x3, ex3, hf⟩ := nm_of hf
        refine r_iinc (v := x3) 39 2 [(0, .ref (ad 32)), (1, .int v1), (2, .int x3)] [1, 2, 0] C dX10_fits_36 rfl (by rw [ex3]; rfl) (by decide) rfl rfl ?_
        refine r_goto 2 C dX10_fits_39 (by decide) ?_
        refine r_sub [(0, .ref (ad 32)), (1, .int v1), (2, .int x3)] [0, 1, 2] rfl ?_
        exact ih v1 x3   u0 hf
      · have hf := ifF c1 hf
        refine r_iconst (v := 0) 35 C dX10_fits_34 (by decide) rfl ?_
        exact r_zret C E rfl (pr1 hf) (pr2 hf) dX10_fits_35
def f_X10_fits (v1 : Int32) (u : S2) : Option (Int32 × S2) := f_X10_fits_2  FUEL v1 (0 : Int32) u
set_option maxRecDepth 20000 in
theorem c_X10_fits (ad : Nat → Nat) (v1 : Int32)  (u : S2) (r : Int32) (w : S2) (hf : f_X10_fits v1 u = some (r, w)) : HI yX10_fits cX10_fits 3 (some .boolean) 3 63 ad [.ref (ad 32), .int v1] u r w := by
  refine HI_of (by decide) (Nat.le_of_ble_eq_true rfl) (fun K C hR E => ?_)
  refine r_sub [(0, .ref (ad 32)), (1, .int v1)] [0, 1] rfl ?_
  unfold f_X10_fits at hf
  refine r_iconst (v := 0) 1 C dX10_fits_0 (by decide) rfl ?_
  refine r_istore_n 2 [(0, .ref (ad 32)), (1, .int v1), (2, .int (0 : Int32))] [1, 2, 0] C dX10_fits_1 rfl (by decide) rfl rfl ?_
  refine r_sub [(0, .ref (ad 32)), (1, .int v1), (2, .int (0 : Int32))] [0, 1, 2] rfl ?_
  exact w_X10_fits_2 C hR E  FUEL v1 (0 : Int32)   u hf
def f_X10_widen_81 (z2 : Int32 → S2 → Option (S2)) (v1 : Int32) (t1 : Int32) (t2 : Int32) (u : S2) : Option (S2) := ck (inb t1 61) (nm (wr u 37 (Int32.toNatClampNeg t1) t2) (fun u0 => nm (v1 + (1 : Int32)) (fun x0 => z2 x0 u0)))
set_option maxRecDepth 20000 in
theorem w_X10_widen_81 {K : Ctx} {ad : Nat → Nat} (C : Cx K ad cX10_widen 2 yX10_widen.cls none) (hR : Rm K 1 15) {w : S2} (E : EV K ad w) (z2 : Int32 → S2 → Option (S2)) (hz2 : ∀ (v1 : Int32)  (u : S2), z2 v1 u = some w → RW K ad 2 2 [(0, .ref (ad 32)), (1, .int v1)] [] u) (v1 : Int32) (t1 : Int32) (t2 : Int32)    (u : S2) (hf : f_X10_widen_81 z2 v1 t1 t2 u = some w) : RW K ad 2 81 [(0, .ref (ad 32)), (1, .int v1)] [.int t2, .int t1, .ref (ad 37)] u := by
  unfold f_X10_widen_81 at hf
  obtain ⟨hc0, hf⟩ := ck_of hf
  refine r_iastore 82 37 61 C (wd_37 ad u) (sA_37 ad u) hc0 dX10_widen_81 rfl ?_
  obtain ⟨u0, eu0, hf⟩ := nm_of hf
  refine r_st eu0 ?_
  obtain ⟨x0, ex0, hf⟩ := nm_of hf
  refine r_iinc (v := x0) 85 1 [(0, .ref (ad 32)), (1, .int x0)] [1, 0] C dX10_widen_82 rfl (by rw [ex0]; rfl) (by decide) rfl rfl ?_
  refine r_goto 2 C dX10_widen_85 (by decide) ?_
  refine r_sub [(0, .ref (ad 32)), (1, .int x0)] [0, 1] rfl ?_
  exact hz2 x0  u0 hf
def f_X10_widen_44 (z2 : Int32 → S2 → Option (S2)) (v1 : Int32) (t1 : Int32) (t2 : Int32) (u : S2) : Option (S2) := ck (inb t1 61) (nm (wr u 36 (Int32.toNatClampNeg t1) t2) (fun u0 => (if (u0 32 7) = 0 then ck (inb v1 61) (nm (u0 35 (Int32.toNatClampNeg v1)) (fun x3 => f_X10_widen_81 z2  v1 v1 x3 u0)) else ck (inb v1 61) (nm (u0 37 (Int32.toNatClampNeg v1)) (fun x0 => ck (inb v1 61) (nm (u0 35 (Int32.toNatClampNeg v1)) (fun x1 => nm (jmax x0 x1) (fun x2 => f_X10_widen_81 z2  v1 v1 x2 u0))))))))
set_option maxRecDepth 20000 in
theorem w_X10_widen_44 {K : Ctx} {ad : Nat → Nat} (C : Cx K ad cX10_widen 2 yX10_widen.cls none) (hR : Rm K 1 15) {w : S2} (E : EV K ad w) (z2 : Int32 → S2 → Option (S2)) (hz2 : ∀ (v1 : Int32)  (u : S2), z2 v1 u = some w → RW K ad 2 2 [(0, .ref (ad 32)), (1, .int v1)] [] u) (v1 : Int32) (t1 : Int32) (t2 : Int32)    (u : S2) (hf : f_X10_widen_44 z2 v1 t1 t2 u = some w) : RW K ad 2 44 [(0, .ref (ad 32)), (1, .int v1)] [.int t2, .int t1, .ref (ad 36)] u := by
  unfold f_X10_widen_44 at hf
  obtain ⟨hc0, hf⟩ := ck_of hf
  refine r_iastore 45 36 61 C (wd_36 ad u) (sA_36 ad u) hc0 dX10_widen_44 rfl ?_
  obtain ⟨u0, eu0, hf⟩ := nm_of hf
  refine r_st eu0 ?_
  refine r_aload_n 46 0 C dX10_widen_45 rfl rfl rfl ?_
  refine r_get 49 32 6 C inX10 (wd_32 ad u0) rfl (by decide) tw_294 rfl rfl dX10_widen_46 rfl ?_
  refine r_iload_n 50 1 C dX10_widen_49 rfl rfl rfl ?_
  refine r_aload_n 51 0 C dX10_widen_50 rfl rfl rfl ?_
  refine r_get 54 32 7 C inX10 (wd_32 ad u0) rfl (by decide) tw_295 rfl rfl dX10_widen_51 rfl ?_
  refine r_if_ne 57 66 C dX10_widen_54 (by decide) rfl (fun c0 => ?_) (fun c0 => ?_)
  · have hf := ifF c0 hf
    refine r_aload_n 67 0 C dX10_widen_66 rfl rfl rfl ?_
    refine r_get 70 32 6 C inX10 (wd_32 ad u0) rfl (by decide) tw_294 rfl rfl dX10_widen_67 rfl ?_
    refine r_iload_n 71 1 C dX10_widen_70 rfl rfl rfl ?_
    obtain ⟨hc1, hf⟩ := ck_of hf
    refine r_iaload 72 37 61 C (wd_37 ad u0) hc1 dX10_widen_71 rfl ?_
    obtain ⟨x0, ex0, hf⟩ := nm_of hf
    refine r_nm ex0 ?_
    refine r_aload_n 73 0 C dX10_widen_72 rfl rfl rfl ?_
    refine r_get 76 32 4 C inX10 (wd_32 ad u0) rfl (by decide) tw_292 rfl rfl dX10_widen_73 rfl ?_
    refine r_iload_n 77 1 C dX10_widen_76 rfl rfl rfl ?_
    obtain ⟨hc2, hf⟩ := ck_of hf
    refine r_iaload 78 35 61 C (wd_35 ad u0) hc2 dX10_widen_77 rfl ?_
    obtain ⟨x1, ex1, hf⟩ := nm_of hf
    refine r_nm ex1 ?_
    refine r_mmax 81 C hR tw_813 tw_494 tw_15 tw_495 (Nat.le_of_ble_eq_true rfl) (Nat.le_of_ble_eq_true rfl) dX10_widen_78 rfl ?_
    obtain ⟨x2, ex2, hf⟩ := nm_of hf
    refine r_nm ex2 ?_
    refine r_sub [(0, .ref (ad 32)), (1, .int v1)] [0, 1] rfl ?_
    exact w_X10_widen_81 C hR E z2 hz2  v1 v1 x2    u0 hf
  · have hf := ifT c0 hf
    refine r_aload_n 58 0 C dX10_widen_57 rfl rfl rfl ?_
    refine r_get 61 32 4 C inX10 (wd_32 ad u0) rfl (by decide) tw_292 rfl rfl dX10_widen_58 rfl ?_
    refine r_iload_n 62 1 C dX10_widen_61 rfl rfl rfl ?_
    obtain ⟨hc3, hf⟩ := ck_of hf
    refine r_iaload 63 35 61 C (wd_35 ad u0) hc3 dX10_widen_62 rfl ?_
    obtain ⟨x3, ex3, hf⟩ := nm_of hf
    refine r_nm ex3 ?_
    refine r_goto 81 C dX10_widen_63 (by decide) ?_
    refine r_sub [(0, .ref (ad 32)), (1, .int v1)] [0, 1] rfl ?_
    exact w_X10_widen_81 C hR E z2 hz2  v1 v1 x3    u0 hf
def f_X10_widen_2  : Nat → Int32 → S2 → Option (S2)
  | 0, _, _ => none
  | n + 1, v1, u => (if (60 : Int32) < v1 then some u else (if (u 32 7) = 0 then ck (inb v1 61) (nm (u 35 (Int32.toNatClampNeg v1)) (fun x3 => f_X10_widen_44 (fun v1 u => f_X10_widen_2  n v1 u)  v1 v1 x3 u)) else ck (inb v1 61) (nm (u 36 (Int32.toNatClampNeg v1)) (fun x0 => ck (inb v1 61) (nm (u 35 (Int32.toNatClampNeg v1)) (fun x1 => nm (jmin x0 x1) (fun x2 => f_X10_widen_44 (fun v1 u => f_X10_widen_2  n v1 u)  v1 v1 x2 u)))))))
theorem f_X10_widen_2_e  (n : Nat) (v1 : Int32) (u : S2) : f_X10_widen_2  (n + 1) v1 u = (if (60 : Int32) < v1 then some u else (if (u 32 7) = 0 then ck (inb v1 61) (nm (u 35 (Int32.toNatClampNeg v1)) (fun x3 => f_X10_widen_44 (fun v1 u => f_X10_widen_2  n v1 u)  v1 v1 x3 u)) else ck (inb v1 61) (nm (u 36 (Int32.toNatClampNeg v1)) (fun x0 => ck (inb v1 61) (nm (u 35 (Int32.toNatClampNeg v1)) (fun x1 => nm (jmin x0 x1) (fun x2 => f_X10_widen_44 (fun v1 u => f_X10_widen_2  n v1 u)  v1 v1 x2 u))))))) := rfl
set_option maxRecDepth 20000 in
theorem w_X10_widen_2 {K : Ctx} {ad : Nat → Nat} (C : Cx K ad cX10_widen 2 yX10_widen.cls none) (hR : Rm K 1 15) {w : S2} (E : EV K ad w)  : ∀ (n : Nat) (v1 : Int32)  (u : S2) (hf : f_X10_widen_2  n v1 u = some w), RW K ad 2 2 [(0, .ref (ad 32)), (1, .int v1)] [] u := by
  intro n
  induction n with
  | zero => intro v1  u hf; cases hf
  | succ n ih =>
    intro v1  u hf
    rw [f_X10_widen_2_e] at hf
    refine r_iload_n 3 1 C dX10_widen_2 rfl rfl rfl ?_
    refine r_bipush (v := 60) 5 C dX10_widen_3 (by decide) rfl ?_
    refine r_icmp_gt 8 88 C dX10_widen_5 (by decide) rfl (fun c0 => ?_) (fun c0 => ?_)
    · have hf := ifT c0 hf
      exact r_vret C E (so_of hf) dX10_widen_88
    · have hf := ifF c0 hf
      refine r_aload_n 9 0 C dX10_widen_8 rfl rfl rfl ?_
      refine r_get 12 32 5 C inX10 (wd_32 ad u) rfl (by decide) tw_293 rfl rfl dX10_widen_9 rfl ?_
      refine r_iload_n 13 1 C dX10_widen_12 rfl rfl rfl ?_
      refine r_aload_n 14 0 C dX10_widen_13 rfl rfl rfl ?_
      refine r_get 17 32 7 C inX10 (wd_32 ad u) rfl (by decide) tw_295 rfl rfl dX10_widen_14 rfl ?_
      refine r_if_ne 20 29 C dX10_widen_17 (by decide) rfl (fun c1 => ?_) (fun c1 => ?_)
      · have hf := ifF c1 hf
        refine r_aload_n 30 0 C dX10_widen_29 rfl rfl rfl ?_
        refine r_get 33 32 5 C inX10 (wd_32 ad u) rfl (by decide) tw_293 rfl rfl dX10_widen_30 rfl ?_
        refine r_iload_n 34 1 C dX10_widen_33 rfl rfl rfl ?_
        obtain ⟨hc0, hf⟩ := ck_of hf
        refine r_iaload 35 36 61 C (wd_36 ad u) hc0 dX10_widen_34 rfl ?_
        obtain ⟨x0, ex0, hf⟩ := nm_of hf
        refine r_nm ex0 ?_
        refine r_aload_n 36 0 C dX10_widen_35 rfl rfl rfl ?_
        refine r_get 39 32 4 C inX10 (wd_32 ad u) rfl (by decide) tw_292 rfl rfl dX10_widen_36 rfl ?_
        refine r_iload_n 40 1 C dX10_widen_39 rfl rfl rfl ?_
        obtain ⟨hc1, hf⟩ := ck_of hf
        refine r_iaload 41 35 61 C (wd_35 ad u) hc1 dX10_widen_40 rfl ?_
        obtain ⟨x1, ex1, hf⟩ := nm_of hf
        refine r_nm ex1 ?_
        refine r_mmin 44 C hR tw_812 tw_454 tw_15 tw_455 (Nat.le_of_ble_eq_true rfl) (Nat.le_of_ble_eq_true rfl) dX10_widen_41 rfl ?_
        obtain ⟨x2, ex2, hf⟩ := nm_of hf
        refine r_nm ex2 ?_
        refine r_sub [(0, .ref (ad 32)), (1, .int v1)] [0, 1] rfl ?_
        exact w_X10_widen_44 C hR E (fun v1 u => f_X10_widen_2  n v1 u) (fun v1  u h => ih v1  u h)  v1 v1 x2    u hf
      · have hf := ifT c1 hf
        refine r_aload_n 21 0 C dX10_widen_20 rfl rfl rfl ?_
        refine r_get 24 32 4 C inX10 (wd_32 ad u) rfl (by decide) tw_292 rfl rfl dX10_widen_21 rfl ?_
        refine r_iload_n 25 1 C dX10_widen_24 rfl rfl rfl ?_
        obtain ⟨hc2, hf⟩ := ck_of hf
        refine r_iaload 26 35 61 C (wd_35 ad u) hc2 dX10_widen_25 rfl ?_
        obtain ⟨x3, ex3, hf⟩ := nm_of hf
        refine r_nm ex3 ?_
        refine r_goto 44 C dX10_widen_26 (by decide) ?_
        refine r_sub [(0, .ref (ad 32)), (1, .int v1)] [0, 1] rfl ?_
        exact w_X10_widen_44 C hR E (fun v1 u => f_X10_widen_2  n v1 u) (fun v1  u h => ih v1  u h)  v1 v1 x3    u hf
def f_X10_widen  (u : S2) : Option (S2) := f_X10_widen_2  FUEL (0 : Int32) u
set_option maxRecDepth 20000 in
theorem c_X10_widen (ad : Nat → Nat)   (u : S2) (w : S2) (hf : f_X10_widen  u = some w) : HV yX10_widen cX10_widen 2 none 1 15 ad [.ref (ad 32)] u w := by
  refine HV_of (by decide) (Nat.le_of_ble_eq_true rfl) (fun K C hR E => ?_)
  refine r_sub [(0, .ref (ad 32))] [0] rfl ?_
  unfold f_X10_widen at hf
  refine r_iconst (v := 0) 1 C dX10_widen_0 (by decide) rfl ?_
  refine r_istore_n 2 [(0, .ref (ad 32)), (1, .int (0 : Int32))] [1, 0] C dX10_widen_1 rfl (by decide) rfl rfl ?_
  refine r_sub [(0, .ref (ad 32)), (1, .int (0 : Int32))] [0, 1] rfl ?_
  exact w_X10_widen_2 C hR E  FUEL (0 : Int32)  u hf
def f_X10_findThoseThatFit_84 (z12 : Int32 → Int32 → S2 → Option (S2)) (v1 : Int32) (v2 : Int32) (u : S2) : Option (S2) := nm (v2 + (1 : Int32)) (fun x0 => z12 v1 x0 u)
set_option maxRecDepth 20000 in
theorem w_X10_findThoseThatFit_84 {K : Ctx} {ad : Nat → Nat} (C : Cx K ad cX10_findThoseThatFit 4 yX10_findThoseThatFit.cls none) (hR : Rm K 4 89) {w : S2} (E : EV K ad w) (z12 : Int32 → Int32 → S2 → Option (S2)) (hz12 : ∀ (v1 : Int32) (v2 : Int32)   (u : S2), z12 v1 v2 u = some w → RW K ad 4 12 [(0, .ref (ad 32)), (1, .int v1), (2, .int v2)] [] u) (v1 : Int32) (v2 : Int32)   (u : S2) (hf : f_X10_findThoseThatFit_84 z12 v1 v2 u = some w) : RW K ad 4 84 [(0, .ref (ad 32)), (1, .int v1), (2, .int v2)] [] u := by
  unfold f_X10_findThoseThatFit_84 at hf
  obtain ⟨x0, ex0, hf⟩ := nm_of hf
  refine r_iinc (v := x0) 87 2 [(0, .ref (ad 32)), (1, .int v1), (2, .int x0)] [1, 2, 0] C dX10_findThoseThatFit_84 rfl (by rw [ex0]; rfl) (by decide) rfl rfl ?_
  refine r_goto 12 C dX10_findThoseThatFit_87 (by decide) ?_
  refine r_sub [(0, .ref (ad 32)), (1, .int v1), (2, .int x0)] [0, 1, 2] rfl ?_
  exact hz12 v1 x0   u hf
def f_X10_findThoseThatFit_78 (z12 : Int32 → Int32 → S2 → Option (S2)) (z20 : Int32 → Int32 → Int32 → S2 → Option (S2)) (v1 : Int32) (v2 : Int32) (v3 : Int32) (u : S2) : Option (S2) := nm (v3 + (1 : Int32)) (fun x0 => z20 v1 v2 x0 u)
set_option maxRecDepth 20000 in
theorem w_X10_findThoseThatFit_78 {K : Ctx} {ad : Nat → Nat} (C : Cx K ad cX10_findThoseThatFit 4 yX10_findThoseThatFit.cls none) (hR : Rm K 4 89) {w : S2} (E : EV K ad w) (z12 : Int32 → Int32 → S2 → Option (S2)) (hz12 : ∀ (v1 : Int32) (v2 : Int32)   (u : S2), z12 v1 v2 u = some w → RW K ad 4 12 [(0, .ref (ad 32)), (1, .int v1), (2, .int v2)] [] u) (z20 : Int32 → Int32 → Int32 → S2 → Option (S2)) (hz20 : ∀ (v1 : Int32) (v2 : Int32) (v3 : Int32)    (u : S2), z20 v1 v2 v3 u = some w → RW K ad 4 20 [(0, .ref (ad 32)), (1, .int v1), (2, .int v2), (3, .int v3)] [] u) (v1 : Int32) (v2 : Int32) (v3 : Int32)    (u : S2) (hf : f_X10_findThoseThatFit_78 z12 z20 v1 v2 v3 u = some w) : RW K ad 4 78 [(0, .ref (ad 32)), (1, .int v1), (2, .int v2), (3, .int v3)] [] u := by
  unfold f_X10_findThoseThatFit_78 at hf
  obtain ⟨x0, ex0, hf⟩ := nm_of hf
  refine r_iinc (v := x0) 81 3 [(0, .ref (ad 32)), (1, .int v1), (2, .int v2), (3, .int x0)] [1, 2, 3, 0] C dX10_findThoseThatFit_78 rfl (by rw [ex0]; rfl) (by decide) rfl rfl ?_
  refine r_goto 20 C dX10_findThoseThatFit_81 (by decide) ?_
  refine r_sub [(0, .ref (ad 32)), (1, .int v1), (2, .int v2), (3, .int x0)] [0, 1, 2, 3] rfl ?_
  exact hz20 v1 v2 x0    u hf
def f_X10_findThoseThatFit_65 (z12 : Int32 → Int32 → S2 → Option (S2)) (z20 : Int32 → Int32 → Int32 → S2 → Option (S2)) (v1 : Int32) (v2 : Int32) (v3 : Int32) (t1 : Int32) (u : S2) : Option (S2) := nm (wr u 32 8 t1) (fun u0 => nm ((u0 32 7) + (1 : Int32)) (fun x0 => nm (wr u0 32 7 x0) (fun u1 => f_X10_findThoseThatFit_78 z12 z20  v1 v2 v3 u1)))
set_option maxRecDepth 20000 in
theorem w_X10_findThoseThatFit_65 {K : Ctx} {ad : Nat → Nat} (C : Cx K ad cX10_findThoseThatFit 4 yX10_findThoseThatFit.cls none) (hR : Rm K 4 89) {w : S2} (E : EV K ad w) (z12 : Int32 → Int32 → S2 → Option (S2)) (hz12 : ∀ (v1 : Int32) (v2 : Int32)   (u : S2), z12 v1 v2 u = some w → RW K ad 4 12 [(0, .ref (ad 32)), (1, .int v1), (2, .int v2)] [] u) (z20 : Int32 → Int32 → Int32 → S2 → Option (S2)) (hz20 : ∀ (v1 : Int32) (v2 : Int32) (v3 : Int32)    (u : S2), z20 v1 v2 v3 u = some w → RW K ad 4 20 [(0, .ref (ad 32)), (1, .int v1), (2, .int v2), (3, .int v3)] [] u) (v1 : Int32) (v2 : Int32) (v3 : Int32) (t1 : Int32)     (u : S2) (hf : f_X10_findThoseThatFit_65 z12 z20 v1 v2 v3 t1 u = some w) : RW K ad 4 65 [(0, .ref (ad 32)), (1, .int v1), (2, .int v2), (3, .int v3)] [.int t1, .ref (ad 32)] u := by
  unfold f_X10_findThoseThatFit_65 at hf
  refine r_put 68 32 8 C inX10 tyX10_ok nmX10 (wd_32 ad u) (sF_32_8 ad u t1) rfl (by decide) tw_297 rfl rfl (tyX10_ok 8 (by decide)) rfl rfl (Nat.le_of_ble_eq_true rfl) dX10_findThoseThatFit_65 rfl ?_
  obtain ⟨u0, eu0, hf⟩ := nm_of hf
  refine r_st eu0 ?_
  refine r_aload_n 69 0 C dX10_findThoseThatFit_68 rfl rfl rfl ?_
  refine r_dup 70 C dX10_findThoseThatFit_69 rfl rfl ?_
  refine r_get 73 32 7 C inX10 (wd_32 ad u0) rfl (by decide) tw_295 rfl rfl dX10_findThoseThatFit_70 rfl ?_
  refine r_iconst (v := 1) 74 C dX10_findThoseThatFit_73 (by decide) rfl ?_
  refine r_iadd 75 C dX10_findThoseThatFit_74 rfl ?_
  obtain ⟨x0, ex0, hf⟩ := nm_of hf
  refine r_nm ex0 ?_
  refine r_put 78 32 7 C inX10 tyX10_ok nmX10 (wd_32 ad u0) (sF_32_7 ad u0 x0) rfl (by decide) tw_295 rfl rfl (tyX10_ok 7 (by decide)) rfl rfl (Nat.le_of_ble_eq_true rfl) dX10_findThoseThatFit_75 rfl ?_
  obtain ⟨u1, eu1, hf⟩ := nm_of hf
  refine r_st eu1 ?_
  refine r_sub [(0, .ref (ad 32)), (1, .int v1), (2, .int v2), (3, .int v3)] [0, 1, 2, 3] rfl ?_
  exact w_X10_findThoseThatFit_78 C hR E z12 hz12 z20 hz20  v1 v2 v3    u1 hf
def f_X10_findThoseThatFit_20 (z12 : Int32 → Int32 → S2 → Option (S2)) : Nat → Int32 → Int32 → Int32 → S2 → Option (S2)
  | 0, _, _, _, _ => none
  | n + 1, v1, v2, v3, u => (if (20 : Int32) < v3 then f_X10_findThoseThatFit_84 z12  v1 v2 u else bv (f_X10_follow v2 v3 u) (fun u0 => bd (f_X10_fits v1 u0) (fun r0 u1 => (if r0 = 0 then f_X10_findThoseThatFit_78 z12 (fun v1 v2 v3 u => f_X10_findThoseThatFit_20 z12 n v1 v2 v3 u)  v1 v2 v3 u1 else bv (f_X10_widen  u1) (fun u2 => (if (u2 32 7) = 0 then f_X10_findThoseThatFit_65 z12 (fun v1 v2 v3 u => f_X10_findThoseThatFit_20 z12 n v1 v2 v3 u)  v1 v2 v3 (((100 : Int32) * v2) + v3) u2 else f_X10_findThoseThatFit_65 z12 (fun v1 v2 v3 u => f_X10_findThoseThatFit_20 z12 n v1 v2 v3 u)  v1 v2 v3 (u2 32 8) u2))))))
theorem f_X10_findThoseThatFit_20_e (z12 : Int32 → Int32 → S2 → Option (S2)) (n : Nat) (v1 : Int32) (v2 : Int32) (v3 : Int32) (u : S2) : f_X10_findThoseThatFit_20 z12 (n + 1) v1 v2 v3 u = (if (20 : Int32) < v3 then f_X10_findThoseThatFit_84 z12  v1 v2 u else bv (f_X10_follow v2 v3 u) (fun u0 => bd (f_X10_fits v1 u0) (fun r0 u1 => (if r0 = 0 then f_X10_findThoseThatFit_78 z12 (fun v1 v2 v3 u => f_X10_findThoseThatFit_20 z12 n v1 v2 v3 u)  v1 v2 v3 u1 else bv (f_X10_widen  u1) (fun u2 => (if (u2 32 7) = 0 then f_X10_findThoseThatFit_65 z12 (fun v1 v2 v3 u => f_X10_findThoseThatFit_20 z12 n v1 v2 v3 u)  v1 v2 v3 (((100 : Int32) * v2) + v3) u2 else f_X10_findThoseThatFit_65 z12 (fun v1 v2 v3 u => f_X10_findThoseThatFit_20 z12 n v1 v2 v3 u)  v1 v2 v3 (u2 32 8) u2)))))) := rfl
set_option maxRecDepth 20000 in
theorem w_X10_findThoseThatFit_20 {K : Ctx} {ad : Nat → Nat} (C : Cx K ad cX10_findThoseThatFit 4 yX10_findThoseThatFit.cls none) (hR : Rm K 4 89) {w : S2} (E : EV K ad w) (z12 : Int32 → Int32 → S2 → Option (S2)) (hz12 : ∀ (v1 : Int32) (v2 : Int32)   (u : S2), z12 v1 v2 u = some w → RW K ad 4 12 [(0, .ref (ad 32)), (1, .int v1), (2, .int v2)] [] u) : ∀ (n : Nat) (v1 : Int32) (v2 : Int32) (v3 : Int32)    (u : S2) (hf : f_X10_findThoseThatFit_20 z12 n v1 v2 v3 u = some w), RW K ad 4 20 [(0, .ref (ad 32)), (1, .int v1), (2, .int v2), (3, .int v3)] [] u := by
  intro n
  induction n with
  | zero => intro v1 v2 v3    u hf; cases hf
  | succ n ih =>
    intro v1 v2 v3    u hf
    rw [f_X10_findThoseThatFit_20_e] at hf
    refine r_iload_n 21 3 C dX10_findThoseThatFit_20 rfl rfl rfl ?_
    refine r_bipush (v := 20) 23 C dX10_findThoseThatFit_21 (by decide) rfl ?_
    refine r_icmp_gt 26 84 C dX10_findThoseThatFit_23 (by decide) rfl (fun c0 => ?_) (fun c0 => ?_)
    · have hf := ifT c0 hf
      refine r_sub [(0, .ref (ad 32)), (1, .int v1), (2, .int v2)] [0, 1, 2] rfl ?_
      exact w_X10_findThoseThatFit_84 C hR E z12 hz12  v1 v2   u hf
    · have hf := ifF c0 hf
      refine r_aload_n 27 0 C dX10_findThoseThatFit_26 rfl rfl rfl ?_
      refine r_iload_n 28 2 C dX10_findThoseThatFit_27 rfl rfl rfl ?_
      refine r_iload_n 29 3 C dX10_findThoseThatFit_28 rfl rfl rfl ?_
      obtain ⟨u0, h0, hf⟩ := bv_of hf
      refine r_cVV 32 [.int v2, .int v3] C hR (c_X10_follow ad v2 v3    u u0 h0) q_X10_follow tw_796 (wd_32 ad u) rfl rfl tw_798 tp_39 (Nat.le_of_ble_eq_true rfl) (Nat.le_of_ble_eq_true rfl) rfl rfl (Nat.le_of_ble_eq_true rfl) dX10_findThoseThatFit_29 rfl ?_
      refine r_aload_n 33 0 C dX10_findThoseThatFit_32 rfl rfl rfl ?_
      refine r_iload_n 34 1 C dX10_findThoseThatFit_33 rfl rfl rfl ?_
      obtain ⟨r0, u1, h1, hf⟩ := bd_of hf
      refine r_cVI 37 [.int v1] C hR (c_X10_fits ad v1   u0 r0 u1 h1) q_X10_fits tw_803 (wd_32 ad u0) rfl rfl tw_805 tp_40 (Nat.le_of_ble_eq_true rfl) (Nat.le_of_ble_eq_true rfl) rfl rfl (Nat.le_of_ble_eq_true rfl) dX10_findThoseThatFit_34 rfl ?_
      refine r_if_eq 40 78 C dX10_findThoseThatFit_37 (by decide) rfl (fun c1 => ?_) (fun c1 => ?_)
      · have hf := ifT c1 hf
        refine r_sub [(0, .ref (ad 32)), (1, .int v1), (2, .int v2), (3, .int v3)] [0, 1, 2, 3] rfl ?_
        exact w_X10_findThoseThatFit_78 C hR E z12 hz12 (fun v1 v2 v3 u => f_X10_findThoseThatFit_20 z12 n v1 v2 v3 u) (fun v1 v2 v3    u h => ih v1 v2 v3    u h)  v1 v2 v3    u1 hf
      · have hf := ifF c1 hf
        refine r_aload_n 41 0 C dX10_findThoseThatFit_40 rfl rfl rfl ?_
        obtain ⟨u2, h2, hf⟩ := bv_of hf
        refine r_cVV 44 [] C hR (c_X10_widen ad   u1 u2 h2) q_X10_widen tw_808 (wd_32 ad u1) rfl rfl tw_810 tp_41 (Nat.le_of_ble_eq_true rfl) (Nat.le_of_ble_eq_true rfl) rfl rfl (Nat.le_of_ble_eq_true rfl) dX10_findThoseThatFit_41 rfl ?_
        refine r_aload_n 45 0 C dX10_findThoseThatFit_44 rfl rfl rfl ?_
        refine r_aload_n 46 0 C dX10_findThoseThatFit_45 rfl rfl rfl ?_
        refine r_get 49 32 7 C inX10 (wd_32 ad u2) rfl (by decide) tw_295 rfl rfl dX10_findThoseThatFit_46 rfl ?_
        refine r_if_ne 52 61 C dX10_findThoseThatFit_49 (by decide) rfl (fun c2 => ?_) (fun c2 => ?_)
        · have hf := ifF c2 hf
          refine r_aload_n 62 0 C dX10_findThoseThatFit_61 rfl rfl rfl ?_
          refine r_get 65 32 8 C inX10 (wd_32 ad u2) rfl (by decide) tw_297 rfl rfl dX10_findThoseThatFit_62 rfl ?_
          refine r_sub [(0, .ref (ad 32)), (1, .int v1), (2, .int v2), (3, .int v3)] [0, 1, 2, 3] rfl ?_
          exact w_X10_findThoseThatFit_65 C hR E z12 hz12 (fun v1 v2 v3 u => f_X10_findThoseThatFit_20 z12 n v1 v2 v3 u) (fun v1 v2 v3    u h => ih v1 v2 v3    u h)  v1 v2 v3 (u2 32 8)     u2 hf
        · have hf := ifT c2 hf
          refine r_bipush (v := 100) 54 C dX10_findThoseThatFit_52 (by decide) rfl ?_
          refine r_iload_n 55 2 C dX10_findThoseThatFit_54 rfl rfl rfl ?_
          refine r_imul 56 C dX10_findThoseThatFit_55 rfl ?_
          refine r_iload_n 57 3 C dX10_findThoseThatFit_56 rfl rfl rfl ?_
          refine r_iadd 58 C dX10_findThoseThatFit_57 rfl ?_
          refine r_goto 65 C dX10_findThoseThatFit_58 (by decide) ?_
          refine r_sub [(0, .ref (ad 32)), (1, .int v1), (2, .int v2), (3, .int v3)] [0, 1, 2, 3] rfl ?_
          exact w_X10_findThoseThatFit_65 C hR E z12 hz12 (fun v1 v2 v3 u => f_X10_findThoseThatFit_20 z12 n v1 v2 v3 u) (fun v1 v2 v3    u h => ih v1 v2 v3    u h)  v1 v2 v3 (((100 : Int32) * v2) + v3)     u2 hf
def f_X10_findThoseThatFit_12  : Nat → Int32 → Int32 → S2 → Option (S2)
  | 0, _, _, _ => none
  | n + 1, v1, v2, u => (if (20 : Int32) < v2 then some u else f_X10_findThoseThatFit_20 (fun v1 v2 u => f_X10_findThoseThatFit_12  n v1 v2 u) FUEL v1 v2 (0 : Int32) u)
theorem f_X10_findThoseThatFit_12_e  (n : Nat) (v1 : Int32) (v2 : Int32) (u : S2) : f_X10_findThoseThatFit_12  (n + 1) v1 v2 u = (if (20 : Int32) < v2 then some u else f_X10_findThoseThatFit_20 (fun v1 v2 u => f_X10_findThoseThatFit_12  n v1 v2 u) FUEL v1 v2 (0 : Int32) u) := rfl
set_option maxRecDepth 20000 in
theorem w_X10_findThoseThatFit_12 {K : Ctx} {ad : Nat → Nat} (C : Cx K ad cX10_findThoseThatFit 4 yX10_findThoseThatFit.cls none) (hR : Rm K 4 89) {w : S2} (E : EV K ad w)  : ∀ (n : Nat) (v1 : Int32) (v2 : Int32)   (u : S2) (hf : f_X10_findThoseThatFit_12  n v1 v2 u = some w), RW K ad 4 12 [(0, .ref (ad 32)), (1, .int v1), (2, .int v2)] [] u := by
  intro n
  induction n with
  | zero => intro v1 v2   u hf; cases hf
  | succ n ih =>
    intro v1 v2   u hf
    rw [f_X10_findThoseThatFit_12_e] at hf
    refine r_iload_n 13 2 C dX10_findThoseThatFit_12 rfl rfl rfl ?_
    refine r_bipush (v := 20) 15 C dX10_findThoseThatFit_13 (by decide) rfl ?_
    refine r_icmp_gt 18 90 C dX10_findThoseThatFit_15 (by decide) rfl (fun c0 => ?_) (fun c0 => ?_)
    · have hf := ifT c0 hf
      exact r_vret C E (so_of hf) dX10_findThoseThatFit_90
    · have hf := ifF c0 hf
      refine r_iconst (v := 0) 19 C dX10_findThoseThatFit_18 (by decide) rfl ?_
      refine r_istore_n 20 [(0, .ref (ad 32)), (1, .int v1), (2, .int v2), (3, .int (0 : Int32))] [1, 2, 3, 0] C dX10_findThoseThatFit_19 rfl (by decide) rfl rfl ?_
      refine r_sub [(0, .ref (ad 32)), (1, .int v1), (2, .int v2), (3, .int (0 : Int32))] [0, 1, 2, 3] rfl ?_
      exact w_X10_findThoseThatFit_20 C hR E (fun v1 v2 u => f_X10_findThoseThatFit_12  n v1 v2 u) (fun v1 v2   u h => ih v1 v2   u h) FUEL v1 v2 (0 : Int32)    u hf
def f_X10_findThoseThatFit (v1 : Int32) (u : S2) : Option (S2) := nm (wr u 32 7 (0 : Int32)) (fun u0 => nm (wr u0 32 8 (-1 : Int32)) (fun u1 => f_X10_findThoseThatFit_12  FUEL v1 (0 : Int32) u1))
set_option maxRecDepth 20000 in
theorem c_X10_findThoseThatFit (ad : Nat → Nat) (v1 : Int32)  (u : S2) (w : S2) (hf : f_X10_findThoseThatFit v1 u = some w) : HV yX10_findThoseThatFit cX10_findThoseThatFit 4 none 4 89 ad [.ref (ad 32), .int v1] u w := by
  refine HV_of (by decide) (Nat.le_of_ble_eq_true rfl) (fun K C hR E => ?_)
  refine r_sub [(0, .ref (ad 32)), (1, .int v1)] [0, 1] rfl ?_
  unfold f_X10_findThoseThatFit at hf
  refine r_aload_n 1 0 C dX10_findThoseThatFit_0 rfl rfl rfl ?_
  refine r_iconst (v := 0) 2 C dX10_findThoseThatFit_1 (by decide) rfl ?_
  refine r_put 5 32 7 C inX10 tyX10_ok nmX10 (wd_32 ad u) (sF_32_7 ad u (0 : Int32)) rfl (by decide) tw_295 rfl rfl (tyX10_ok 7 (by decide)) rfl rfl (Nat.le_of_ble_eq_true rfl) dX10_findThoseThatFit_2 rfl ?_
  obtain ⟨u0, eu0, hf⟩ := nm_of hf
  refine r_st eu0 ?_
  refine r_aload_n 6 0 C dX10_findThoseThatFit_5 rfl rfl rfl ?_
  refine r_iconst (v := -1) 7 C dX10_findThoseThatFit_6 (by decide) rfl ?_
  refine r_put 10 32 8 C inX10 tyX10_ok nmX10 (wd_32 ad u0) (sF_32_8 ad u0 (-1 : Int32)) rfl (by decide) tw_297 rfl rfl (tyX10_ok 8 (by decide)) rfl rfl (Nat.le_of_ble_eq_true rfl) dX10_findThoseThatFit_7 rfl ?_
  obtain ⟨u1, eu1, hf⟩ := nm_of hf
  refine r_st eu1 ?_
  refine r_iconst (v := 0) 11 C dX10_findThoseThatFit_10 (by decide) rfl ?_
  refine r_istore_n 12 [(0, .ref (ad 32)), (1, .int v1), (2, .int (0 : Int32))] [1, 2, 0] C dX10_findThoseThatFit_11 rfl (by decide) rfl rfl ?_
  refine r_sub [(0, .ref (ad 32)), (1, .int v1), (2, .int (0 : Int32))] [0, 1, 2] rfl ?_
  exact w_X10_findThoseThatFit_12 C hR E  FUEL v1 (0 : Int32)   u1 hf
def f_X10_widestTick_50 (z13 : Int32 → Int32 → S2 → Option (Int32 × S2)) (v1 : Int32) (v2 : Int32) (u : S2) : Option (Int32 × S2) := nm (v2 + (1 : Int32)) (fun x0 => z13 v1 x0 u)
set_option maxRecDepth 20000 in
theorem w_X10_widestTick_50 {K : Ctx} {ad : Nat → Nat} (C : Cx K ad cX10_widestTick 3 yX10_widestTick.cls (some .int)) (hR : Rm K 0 0) {r : Int32} {w : S2} (E : EI K ad r w) (z13 : Int32 → Int32 → S2 → Option (Int32 × S2)) (hz13 : ∀ (v1 : Int32) (v2 : Int32)   (u : S2), z13 v1 v2 u = some (r, w) → RW K ad 3 13 [(0, .ref (ad 32)), (1, .int v1), (2, .int v2)] [] u) (v1 : Int32) (v2 : Int32)   (u : S2) (hf : f_X10_widestTick_50 z13 v1 v2 u = some (r, w)) : RW K ad 3 50 [(0, .ref (ad 32)), (1, .int v1), (2, .int v2)] [] u := by
  unfold f_X10_widestTick_50 at hf
  obtain ⟨x0, ex0, hf⟩ := nm_of hf
  refine r_iinc (v := x0) 53 2 [(0, .ref (ad 32)), (1, .int v1), (2, .int x0)] [1, 2, 0] C dX10_widestTick_50 rfl (by rw [ex0]; rfl) (by decide) rfl rfl ?_
  refine r_goto 13 C dX10_widestTick_53 (by decide) ?_
  refine r_sub [(0, .ref (ad 32)), (1, .int v1), (2, .int x0)] [0, 1, 2] rfl ?_
  exact hz13 v1 x0   u hf
def f_X10_widestTick_13  : Nat → Int32 → Int32 → S2 → Option (Int32 × S2)
  | 0, _, _, _ => none
  | n + 1, v1, v2, u => (if (60 : Int32) < v2 then some (v1, u) else ck (inb v2 61) (nm (u 37 (Int32.toNatClampNeg v2)) (fun x0 => ck (inb v2 61) (nm (u 36 (Int32.toNatClampNeg v2)) (fun x1 => ck (inb v1 61) (nm (u 37 (Int32.toNatClampNeg v1)) (fun x2 => ck (inb v1 61) (nm (u 36 (Int32.toNatClampNeg v1)) (fun x3 => (if (x0 - x1) ≤ (x2 - x3) then f_X10_widestTick_50 (fun v1 v2 u => f_X10_widestTick_13  n v1 v2 u)  v1 v2 u else f_X10_widestTick_50 (fun v1 v2 u => f_X10_widestTick_13  n v1 v2 u)  v2 v2 u))))))))))
theorem f_X10_widestTick_13_e  (n : Nat) (v1 : Int32) (v2 : Int32) (u : S2) : f_X10_widestTick_13  (n + 1) v1 v2 u = (if (60 : Int32) < v2 then some (v1, u) else ck (inb v2 61) (nm (u 37 (Int32.toNatClampNeg v2)) (fun x0 => ck (inb v2 61) (nm (u 36 (Int32.toNatClampNeg v2)) (fun x1 => ck (inb v1 61) (nm (u 37 (Int32.toNatClampNeg v1)) (fun x2 => ck (inb v1 61) (nm (u 36 (Int32.toNatClampNeg v1)) (fun x3 => (if (x0 - x1) ≤ (x2 - x3) then f_X10_widestTick_50 (fun v1 v2 u => f_X10_widestTick_13  n v1 v2 u)  v1 v2 u else f_X10_widestTick_50 (fun v1 v2 u => f_X10_widestTick_13  n v1 v2 u)  v2 v2 u)))))))))) := rfl
set_option maxRecDepth 20000 in
theorem w_X10_widestTick_13 {K : Ctx} {ad : Nat → Nat} (C : Cx K ad cX10_widestTick 3 yX10_widestTick.cls (some .int)) (hR : Rm K 0 0) {r : Int32} {w : S2} (E : EI K ad r w)  : ∀ (n : Nat) (v1 : Int32) (v2 : Int32)   (u : S2) (hf : f_X10_widestTick_13  n v1 v2 u = some (r, w)), RW K ad 3 13 [(0, .ref (ad 32)), (1, .int v1), (2, .int v2)] [] u := by
  intro n
  induction n with
  | zero => intro v1 v2   u hf; cases hf
  | succ n ih =>
    intro v1 v2   u hf
    rw [f_X10_widestTick_13_e] at hf
    refine r_iload_n 14 2 C dX10_widestTick_13 rfl rfl rfl ?_
    refine r_bipush (v := 60) 16 C dX10_widestTick_14 (by decide) rfl ?_
    refine r_icmp_gt 19 56 C dX10_widestTick_16 (by decide) rfl (fun c0 => ?_) (fun c0 => ?_)
    · have hf := ifT c0 hf
      refine r_iload_n 57 1 C dX10_widestTick_56 rfl rfl rfl ?_
      exact r_iret C E (pr1 hf) (pr2 hf) dX10_widestTick_57
    · have hf := ifF c0 hf
      refine r_aload_n 20 0 C dX10_widestTick_19 rfl rfl rfl ?_
      refine r_get 23 32 6 C inX10 (wd_32 ad u) rfl (by decide) tw_294 rfl rfl dX10_widestTick_20 rfl ?_
      refine r_iload_n 24 2 C dX10_widestTick_23 rfl rfl rfl ?_
      obtain ⟨hc0, hf⟩ := ck_of hf
      refine r_iaload 25 37 61 C (wd_37 ad u) hc0 dX10_widestTick_24 rfl ?_
      obtain ⟨x0, ex0, hf⟩ := nm_of hf
      refine r_nm ex0 ?_
      refine r_aload_n 26 0 C dX10_widestTick_25 rfl rfl rfl ?_
      refine r_get 29 32 5 C inX10 (wd_32 ad u) rfl (by decide) tw_293 rfl rfl dX10_widestTick_26 rfl ?_
      refine r_iload_n 30 2 C dX10_widestTick_29 rfl rfl rfl ?_
      obtain ⟨hc1, hf⟩ := ck_of hf
      refine r_iaload 31 36 61 C (wd_36 ad u) hc1 dX10_widestTick_30 rfl ?_
      obtain ⟨x1, ex1, hf⟩ := nm_of hf
      refine r_nm ex1 ?_
      refine r_isub 32 C dX10_widestTick_31 rfl ?_
      refine r_aload_n 33 0 C dX10_widestTick_32 rfl rfl rfl ?_
      refine r_get 36 32 6 C inX10 (wd_32 ad u) rfl (by decide) tw_294 rfl rfl dX10_widestTick_33 rfl ?_
      refine r_iload_n 37 1 C dX10_widestTick_36 rfl rfl rfl ?_
      obtain ⟨hc2, hf⟩ := ck_of hf
      refine r_iaload 38 37 61 C (wd_37 ad u) hc2 dX10_widestTick_37 rfl ?_
      obtain ⟨x2, ex2, hf⟩ := nm_of hf
      refine r_nm ex2 ?_
      refine r_aload_n 39 0 C dX10_widestTick_38 rfl rfl rfl ?_
      refine r_get 42 32 5 C inX10 (wd_32 ad u) rfl (by decide) tw_293 rfl rfl dX10_widestTick_39 rfl ?_
      refine r_iload_n 43 1 C dX10_widestTick_42 rfl rfl rfl ?_
      obtain ⟨hc3, hf⟩ := ck_of hf
      refine r_iaload 44 36 61 C (wd_36 ad u) hc3 dX10_widestTick_43 rfl ?_
      obtain ⟨x3, ex3, hf⟩ := nm_of hf
      refine r_nm ex3 ?_
      refine r_isub 45 C dX10_widestTick_44 rfl ?_
      refine r_icmp_le 48 50 C dX10_widestTick_45 (by decide) rfl (fun c1 => ?_) (fun c1 => ?_)
      · have hf := ifT c1 hf
        refine r_sub [(0, .ref (ad 32)), (1, .int v1), (2, .int v2)] [0, 1, 2] rfl ?_
        exact w_X10_widestTick_50 C hR E (fun v1 v2 u => f_X10_widestTick_13  n v1 v2 u) (fun v1 v2   u h => ih v1 v2   u h)  v1 v2   u hf
      · have hf := ifF c1 hf
        refine r_iload_n 49 2 C dX10_widestTick_48 rfl rfl rfl ?_
        refine r_istore_n 50 [(0, .ref (ad 32)), (1, .int v2), (2, .int v2)] [1, 0, 2] C dX10_widestTick_49 rfl (by decide) rfl rfl ?_
        refine r_sub [(0, .ref (ad 32)), (1, .int v2), (2, .int v2)] [0, 1, 2] rfl ?_
        exact w_X10_widestTick_50 C hR E (fun v1 v2 u => f_X10_widestTick_13  n v1 v2 u) (fun v1 v2   u h => ih v1 v2   u h)  v2 v2   u hf
def f_X10_widestTick  (u : S2) : Option (Int32 × S2) := (if (u 32 7) = 0 then some ((-1 : Int32), u) else f_X10_widestTick_13  FUEL (0 : Int32) (1 : Int32) u)
set_option maxRecDepth 20000 in
theorem c_X10_widestTick (ad : Nat → Nat)   (u : S2) (r : Int32) (w : S2) (hf : f_X10_widestTick  u = some (r, w)) : HI yX10_widestTick cX10_widestTick 3 (some .int) 0 0 ad [.ref (ad 32)] u r w := by
  refine HI_of (by decide) (Nat.le_of_ble_eq_true rfl) (fun K C hR E => ?_)
  refine r_sub [(0, .ref (ad 32))] [0] rfl ?_
  unfold f_X10_widestTick at hf
  refine r_aload_n 1 0 C dX10_widestTick_0 rfl rfl rfl ?_
  refine r_get 4 32 7 C inX10 (wd_32 ad u) rfl (by decide) tw_295 rfl rfl dX10_widestTick_1 rfl ?_
  refine r_if_ne 7 9 C dX10_widestTick_4 (by decide) rfl (fun c0 => ?_) (fun c0 => ?_)
  · have hf := ifF c0 hf
    refine r_iconst (v := 0) 10 C dX10_widestTick_9 (by decide) rfl ?_
    refine r_istore_n 11 [(0, .ref (ad 32)), (1, .int (0 : Int32))] [1, 0] C dX10_widestTick_10 rfl (by decide) rfl rfl ?_
    refine r_iconst (v := 1) 12 C dX10_widestTick_11 (by decide) rfl ?_
    refine r_istore_n 13 [(0, .ref (ad 32)), (1, .int (0 : Int32)), (2, .int (1 : Int32))] [1, 2, 0] C dX10_widestTick_12 rfl (by decide) rfl rfl ?_
    refine r_sub [(0, .ref (ad 32)), (1, .int (0 : Int32)), (2, .int (1 : Int32))] [0, 1, 2] rfl ?_
    exact w_X10_widestTick_13 C hR E  FUEL (0 : Int32) (1 : Int32)   u hf
  · have hf := ifT c0 hf
    refine r_iconst (v := -1) 8 C dX10_widestTick_7 (by decide) rfl ?_
    exact r_iret C E (pr1 hf) (pr2 hf) dX10_widestTick_8
def f_X11_may (v1 : Int32) (v2 : Int32) (u : S2) : Option (Int32 × S2) := bd (f_X11_isWithin v1 (0 : Int32) (999 : Int32) u) (fun r0 u0 => (if r0 = 0 then some ((-3 : Int32), u0) else bd (f_X11_isWithin v2 (0 : Int32) (2 : Int32) u0) (fun r1 u1 => (if r1 = 0 then some ((-3 : Int32), u1) else bv (f_X10_findThoseThatFit v1 u1) (fun u2 => (if v2 = 0 then some (u2 32 7, u2) else (if v2 = (1 : Int32) then some (u2 32 8, u2) else bd (f_X10_widestTick  u2) (fun r2 u3 => some (r2, u3)))))))))
set_option maxRecDepth 20000 in
theorem c_X11_may (ad : Nat → Nat) (v1 : Int32) (v2 : Int32)   (u : S2) (r : Int32) (w : S2) (hf : f_X11_may v1 v2 u = some (r, w)) : HI yX11_may cX11_may 3 (some .int) 5 112 ad [.ref (ad 0), .int v1, .int v2] u r w := by
  refine HI_of (by decide) (Nat.le_of_ble_eq_true rfl) (fun K C hR E => ?_)
  refine r_sub [(0, .ref (ad 0)), (1, .int v1), (2, .int v2)] [0, 1, 2] rfl ?_
  unfold f_X11_may at hf
  refine r_iload_n 1 1 C dX11_may_0 rfl rfl rfl ?_
  refine r_iconst (v := 0) 2 C dX11_may_1 (by decide) rfl ?_
  refine r_sipush (v := 999) 5 C dX11_may_2 (by decide) rfl ?_
  obtain ⟨r0, u0, h0, hf⟩ := bd_of hf
  refine r_cSI 8 [.int v1, .int (0 : Int32), .int (999 : Int32)] C hR (c_X11_isWithin ad v1 (0 : Int32) (999 : Int32)    u r0 u0 h0) q_X11_isWithin tw_356 tw_357 (Nat.le_of_ble_eq_true rfl) (Nat.le_of_ble_eq_true rfl) rfl rfl (Nat.le_of_ble_eq_true rfl) dX11_may_5 rfl ?_
  refine r_if_eq 11 20 C dX11_may_8 (by decide) rfl (fun c0 => ?_) (fun c0 => ?_)
  · have hf := ifT c0 hf
    refine r_bipush (v := -3) 22 C dX11_may_20 (by decide) rfl ?_
    exact r_iret C E (pr1 hf) (pr2 hf) dX11_may_22
  · have hf := ifF c0 hf
    refine r_iload_n 12 2 C dX11_may_11 rfl rfl rfl ?_
    refine r_iconst (v := 0) 13 C dX11_may_12 (by decide) rfl ?_
    refine r_iconst (v := 2) 14 C dX11_may_13 (by decide) rfl ?_
    obtain ⟨r1, u1, h1, hf⟩ := bd_of hf
    refine r_cSI 17 [.int v2, .int (0 : Int32), .int (2 : Int32)] C hR (c_X11_isWithin ad v2 (0 : Int32) (2 : Int32)    u0 r1 u1 h1) q_X11_isWithin tw_356 tw_357 (Nat.le_of_ble_eq_true rfl) (Nat.le_of_ble_eq_true rfl) rfl rfl (Nat.le_of_ble_eq_true rfl) dX11_may_14 rfl ?_
    refine r_if_ne 20 23 C dX11_may_17 (by decide) rfl (fun c1 => ?_) (fun c1 => ?_)
    · have hf := ifF c1 hf
      refine r_aload_n 24 0 C dX11_may_23 rfl rfl rfl ?_
      refine r_get 27 0 9 C inX11 (wd_0 ad u1) rfl (by decide) tw_327 rfl rfl dX11_may_24 rfl ?_
      refine r_iload_n 28 1 C dX11_may_27 rfl rfl rfl ?_
      obtain ⟨u2, h2, hf⟩ := bv_of hf
      refine r_cVNV 31 [.int v1] C hR (c_X10_findThoseThatFit ad v1   u1 u2 h2) q_X10_findThoseThatFit tn_792 (wd_32 ad u1) rfl rfl tw_794 tp_38 (Nat.le_of_ble_eq_true rfl) (Nat.le_of_ble_eq_true rfl) rfl rfl (Nat.le_of_ble_eq_true rfl) dX11_may_28 rfl ?_
      refine r_iload_n 32 2 C dX11_may_31 rfl rfl rfl ?_
      refine r_if_ne 35 43 C dX11_may_32 (by decide) rfl (fun c2 => ?_) (fun c2 => ?_)
      · have hf := ifF c2 hf
        refine r_iload_n 44 2 C dX11_may_43 rfl rfl rfl ?_
        refine r_iconst (v := 1) 45 C dX11_may_44 (by decide) rfl ?_
        refine r_icmp_ne 48 58 C dX11_may_45 (by decide) rfl (fun c3 => ?_) (fun c3 => ?_)
        · have hf := ifF c3 hf
          refine r_aload_n 59 0 C dX11_may_58 rfl rfl rfl ?_
          refine r_get 62 0 9 C inX11 (wd_0 ad u2) rfl (by decide) tw_327 rfl rfl dX11_may_59 rfl ?_
          obtain ⟨r2, u3, h3, hf⟩ := bd_of hf
          refine r_cVNI 65 [] C hR (c_X10_widestTick ad   u2 r2 u3 h3) q_X10_widestTick tn_814 (wd_32 ad u2) rfl rfl tw_816 tp_42 (Nat.le_of_ble_eq_true rfl) (Nat.le_of_ble_eq_true rfl) rfl rfl (Nat.le_of_ble_eq_true rfl) dX11_may_62 rfl ?_
          exact r_iret C E (pr1 hf) (pr2 hf) dX11_may_65
        · have hf := ifT c3 hf
          refine r_aload_n 49 0 C dX11_may_48 rfl rfl rfl ?_
          refine r_get 52 0 9 C inX11 (wd_0 ad u2) rfl (by decide) tw_327 rfl rfl dX11_may_49 rfl ?_
          refine r_getN 55 32 8 C inX10 (wd_32 ad u2) rfl (by decide) tn_298 rfl rfl dX11_may_52 rfl ?_
          refine r_goto 65 C dX11_may_55 (by decide) ?_
          exact r_iret C E (pr1 hf) (pr2 hf) dX11_may_65
      · have hf := ifT c2 hf
        refine r_aload_n 36 0 C dX11_may_35 rfl rfl rfl ?_
        refine r_get 39 0 9 C inX11 (wd_0 ad u2) rfl (by decide) tw_327 rfl rfl dX11_may_36 rfl ?_
        refine r_getN 42 32 7 C inX10 (wd_32 ad u2) rfl (by decide) tn_296 rfl rfl dX11_may_39 rfl ?_
        exact r_iret C E (pr1 hf) (pr2 hf) dX11_may_42
    · have hf := ifT c1 hf
      refine r_bipush (v := -3) 22 C dX11_may_20 (by decide) rfl ?_
      exact r_iret C E (pr1 hf) (pr2 hf) dX11_may_22
def f_X11_count (v1 : Int32) (u : S2) : Option (Int32 × S2) := (if v1 = 0 then some (u 5 8, u) else if v1 = 1 then some (u 5 4, u) else if v1 = 2 then some ((u 5 6) + (50 : Int32), u) else if v1 = 3 then some (u 1 1, u) else if v1 = 4 then some (u 21 1, u) else if v1 = 5 then some (u 26 1, u) else if v1 = 6 then some (u 28 3, u) else if v1 = 7 then some (u 32 2, u) else some ((-3 : Int32), u))
set_option maxRecDepth 20000 in
theorem c_X11_count (ad : Nat → Nat) (v1 : Int32)  (u : S2) (r : Int32) (w : S2) (hf : f_X11_count v1 u = some (r, w)) : HI yX11_count cX11_count 2 (some .int) 0 0 ad [.ref (ad 0), .int v1] u r w := by
  refine HI_of (by decide) (Nat.le_of_ble_eq_true rfl) (fun K C hR E => ?_)
  refine r_sub [(0, .ref (ad 0)), (1, .int v1)] [0, 1] rfl ?_
  unfold f_X11_count at hf
  refine r_iload_n 1 1 C dX11_count_0 rfl rfl rfl ?_
  by_cases c0 : v1 = 0
  · have hf := ifT c0 hf
    refine r_tableIn (x := v1) 48 C dX11_count_1 (by rw [c0]; decide) (by rw [c0]; decide) (by rw [c0]; rfl) (by decide) ?_
    refine r_aload_n 49 0 C dX11_count_48 rfl rfl rfl ?_
    refine r_get 52 0 2 C inX11 (wd_0 ad u) rfl (by decide) tw_320 rfl rfl dX11_count_49 rfl ?_
    refine r_getN 55 5 8 C inX7 (wd_5 ad u) rfl (by decide) tn_127 rfl rfl dX11_count_52 rfl ?_
    exact r_iret C E (pr1 hf) (pr2 hf) dX11_count_55
  have hf := ifF c0 hf
  by_cases c1 : v1 = 1
  · have hf := ifT c1 hf
    refine r_tableIn (x := v1) 56 C dX11_count_1 (by rw [c1]; decide) (by rw [c1]; decide) (by rw [c1]; rfl) (by decide) ?_
    refine r_aload_n 57 0 C dX11_count_56 rfl rfl rfl ?_
    refine r_get 60 0 2 C inX11 (wd_0 ad u) rfl (by decide) tw_320 rfl rfl dX11_count_57 rfl ?_
    refine r_getN 63 5 4 C inX7 (wd_5 ad u) rfl (by decide) tn_113 rfl rfl dX11_count_60 rfl ?_
    exact r_iret C E (pr1 hf) (pr2 hf) dX11_count_63
  have hf := ifF c1 hf
  by_cases c2 : v1 = 2
  · have hf := ifT c2 hf
    refine r_tableIn (x := v1) 64 C dX11_count_1 (by rw [c2]; decide) (by rw [c2]; decide) (by rw [c2]; rfl) (by decide) ?_
    refine r_aload_n 65 0 C dX11_count_64 rfl rfl rfl ?_
    refine r_get 68 0 2 C inX11 (wd_0 ad u) rfl (by decide) tw_320 rfl rfl dX11_count_65 rfl ?_
    refine r_getN 71 5 6 C inX7 (wd_5 ad u) rfl (by decide) tn_121 rfl rfl dX11_count_68 rfl ?_
    refine r_bipush (v := 50) 73 C dX11_count_71 (by decide) rfl ?_
    refine r_iadd 74 C dX11_count_73 rfl ?_
    exact r_iret C E (pr1 hf) (pr2 hf) dX11_count_74
  have hf := ifF c2 hf
  by_cases c3 : v1 = 3
  · have hf := ifT c3 hf
    refine r_tableIn (x := v1) 75 C dX11_count_1 (by rw [c3]; decide) (by rw [c3]; decide) (by rw [c3]; rfl) (by decide) ?_
    refine r_aload_n 76 0 C dX11_count_75 rfl rfl rfl ?_
    refine r_get 79 0 0 C inX11 (wd_0 ad u) rfl (by decide) tw_318 rfl rfl dX11_count_76 rfl ?_
    refine r_getN 82 1 1 C inX6 (wd_1 ad u) rfl (by decide) tn_36 rfl rfl dX11_count_79 rfl ?_
    exact r_iret C E (pr1 hf) (pr2 hf) dX11_count_82
  have hf := ifF c3 hf
  by_cases c4 : v1 = 4
  · have hf := ifT c4 hf
    refine r_tableIn (x := v1) 83 C dX11_count_1 (by rw [c4]; decide) (by rw [c4]; decide) (by rw [c4]; rfl) (by decide) ?_
    refine r_aload_n 84 0 C dX11_count_83 rfl rfl rfl ?_
    refine r_get 87 0 4 C inX11 (wd_0 ad u) rfl (by decide) tw_322 rfl rfl dX11_count_84 rfl ?_
    refine r_getN 90 21 1 C inX5 (wd_21 ad u) rfl (by decide) tn_183 rfl rfl dX11_count_87 rfl ?_
    exact r_iret C E (pr1 hf) (pr2 hf) dX11_count_90
  have hf := ifF c4 hf
  by_cases c5 : v1 = 5
  · have hf := ifT c5 hf
    refine r_tableIn (x := v1) 91 C dX11_count_1 (by rw [c5]; decide) (by rw [c5]; decide) (by rw [c5]; rfl) (by decide) ?_
    refine r_aload_n 92 0 C dX11_count_91 rfl rfl rfl ?_
    refine r_get 95 0 7 C inX11 (wd_0 ad u) rfl (by decide) tw_325 rfl rfl dX11_count_92 rfl ?_
    refine r_getN 98 26 1 C inX2 (wd_26 ad u) rfl (by decide) tn_250 rfl rfl dX11_count_95 rfl ?_
    exact r_iret C E (pr1 hf) (pr2 hf) dX11_count_98
  have hf := ifF c5 hf
  by_cases c6 : v1 = 6
  · have hf := ifT c6 hf
    refine r_tableIn (x := v1) 99 C dX11_count_1 (by rw [c6]; decide) (by rw [c6]; decide) (by rw [c6]; rfl) (by decide) ?_
    refine r_aload_n 100 0 C dX11_count_99 rfl rfl rfl ?_
    refine r_get 103 0 8 C inX11 (wd_0 ad u) rfl (by decide) tw_326 rfl rfl dX11_count_100 rfl ?_
    refine r_getN 106 28 3 C inX9 (wd_28 ad u) rfl (by decide) tn_269 rfl rfl dX11_count_103 rfl ?_
    exact r_iret C E (pr1 hf) (pr2 hf) dX11_count_106
  have hf := ifF c6 hf
  by_cases c7 : v1 = 7
  · have hf := ifT c7 hf
    refine r_tableIn (x := v1) 107 C dX11_count_1 (by rw [c7]; decide) (by rw [c7]; decide) (by rw [c7]; rfl) (by decide) ?_
    refine r_aload_n 108 0 C dX11_count_107 rfl rfl rfl ?_
    refine r_get 111 0 9 C inX11 (wd_0 ad u) rfl (by decide) tw_327 rfl rfl dX11_count_108 rfl ?_
    refine r_getN 114 32 2 C inX10 (wd_32 ad u) rfl (by decide) tn_290 rfl rfl dX11_count_111 rfl ?_
    exact r_iret C E (pr1 hf) (pr2 hf) dX11_count_114
  have hf := ifF c7 hf
  refine r_tableOut (x := v1) 115 C dX11_count_1 (tsw_8 c0 c1 c2 c3 c4 c5 c6 c7) (by decide) ?_
  refine r_bipush (v := -3) 117 C dX11_count_115 (by decide) rfl ?_
  exact r_iret C E (pr1 hf) (pr2 hf) dX11_count_117
