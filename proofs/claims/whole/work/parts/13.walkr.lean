def f_X5_isSpelt_15  : Nat → Int32 → Nat → Int32 → S2 → Option (Int32 × S2)
  | 0, _, _, _, _ => none
  | n + 1, v1, k3, v4, u => nm (sLen k3) (fun x0 => (if x0 ≤ v4 then some ((1 : Int32), u) else ck (inb (v1 + v4) 160) (nm (u 22 (Int32.toNatClampNeg (v1 + v4))) (fun x1 => ck (inb v4 (lenS.getD k3 0)) (nm (chS k3 (Int32.toNatClampNeg v4)) (fun x2 => (if x1 = x2 then nm (v4 + (1 : Int32)) (fun x3 => f_X5_isSpelt_15  n v1 k3 x3 u) else some ((0 : Int32), u))))))))
theorem f_X5_isSpelt_15_e  (n : Nat) (v1 : Int32) (k3 : Nat) (v4 : Int32) (u : S2) : f_X5_isSpelt_15  (n + 1) v1 k3 v4 u = nm (sLen k3) (fun x0 => (if x0 ≤ v4 then some ((1 : Int32), u) else ck (inb (v1 + v4) 160) (nm (u 22 (Int32.toNatClampNeg (v1 + v4))) (fun x1 => ck (inb v4 (lenS.getD k3 0)) (nm (chS k3 (Int32.toNatClampNeg v4)) (fun x2 => (if x1 = x2 then nm (v4 + (1 : Int32)) (fun x3 => f_X5_isSpelt_15  n v1 k3 x3 u) else some ((0 : Int32), u)))))))) := rfl
set_option maxRecDepth 20000 in
theorem w_X5_isSpelt_15 {K : Ctx} {ad : Nat → Nat} (C : Cx K ad cX5_isSpelt 5 yX5_isSpelt.cls (some .boolean)) (hR : Rm K 4 85) {r : Int32} {w : S2} (E : EI K ad r w)  : ∀ (n : Nat) (v1 : Int32) (k3 : Nat) (v4 : Int32)  (k3a : k3 < 6)  (u : S2) (hf : f_X5_isSpelt_15  n v1 k3 v4 u = some (r, w)), RW K ad 5 15 [(0, .ref (ad 21)), (1, .int v1), (3, .ref (ad (70 + k3))), (4, .int v4)] [] u := by
  intro n
  induction n with
  | zero => intro v1 k3 v4  k3a  u hf; cases hf
  | succ n ih =>
    intro v1 k3 v4  k3a  u hf
    rw [f_X5_isSpelt_15_e] at hf
    refine r_iload 17 3 C dX5_isSpelt_15 rfl rfl ?_
    refine r_aload_n 18 2 C dX5_isSpelt_17 rfl rfl rfl ?_
    refine r_sLen 21 C hR tw_571 k3a (Nat.le_of_ble_eq_true rfl) (Nat.le_of_ble_eq_true rfl) (Nat.le_of_ble_eq_true rfl) dX5_isSpelt_18 rfl ?_
    obtain ⟨x0, ex0, hf⟩ := nm_of hf
    refine r_nm ex0 ?_
    refine r_icmp_ge 24 50 C dX5_isSpelt_21 (by decide) rfl (fun c0 => ?_) (fun c0 => ?_)
    · have hf := ifT c0 hf
      refine r_iconst (v := 1) 51 C dX5_isSpelt_50 (by decide) rfl ?_
      exact r_zret C E rfl (pr1 hf) (pr2 hf) dX5_isSpelt_51
    · have hf := ifF c0 hf
      refine r_aload_n 25 0 C dX5_isSpelt_24 rfl rfl rfl ?_
      refine r_get 28 21 0 C inX5 (wd_21 ad u) rfl (by decide) tw_181 rfl rfl dX5_isSpelt_25 rfl ?_
      refine r_iload_n 29 1 C dX5_isSpelt_28 rfl rfl rfl ?_
      refine r_iload 31 3 C dX5_isSpelt_29 rfl rfl ?_
      refine r_iadd 32 C dX5_isSpelt_31 rfl ?_
      obtain ⟨hc0, hf⟩ := ck_of hf
      refine r_iaload 33 22 160 C (wd_22 ad u) hc0 dX5_isSpelt_32 rfl ?_
      obtain ⟨x1, ex1, hf⟩ := nm_of hf
      refine r_nm ex1 ?_
      refine r_aload_n 34 2 C dX5_isSpelt_33 rfl rfl rfl ?_
      refine r_iload 36 3 C dX5_isSpelt_34 rfl rfl ?_
      obtain ⟨hc1, hf⟩ := ck_of hf
      refine r_sChar 39 C hR tw_581 k3a hc1 (Nat.le_of_ble_eq_true rfl) (Nat.le_of_ble_eq_true rfl) (Nat.le_of_ble_eq_true rfl) dX5_isSpelt_36 rfl ?_
      obtain ⟨x2, ex2, hf⟩ := nm_of hf
      refine r_nm ex2 ?_
      refine r_icmp_eq 42 44 C dX5_isSpelt_39 (by decide) rfl (fun c1 => ?_) (fun c1 => ?_)
      · have hf := ifT c1 hf
        obtain ⟨x3, ex3, hf⟩ := nm_of hf
        refine r_iinc (v := x3) 47 3 [(0, .ref (ad 21)), (1, .int v1), (3, .ref (ad (70 + k3))), (4, .int x3)] [1, 2, 3, 0] C dX5_isSpelt_44 rfl (by rw [ex3]; rfl) (by decide) rfl rfl ?_
        refine r_goto 15 C dX5_isSpelt_47 (by decide) ?_
        refine r_sub [(0, .ref (ad 21)), (1, .int v1), (3, .ref (ad (70 + k3))), (4, .int x3)] [0, 1, 2, 3] rfl ?_
        exact ih v1 k3 x3  k3a  u hf
      · have hf := ifF c1 hf
        refine r_iconst (v := 0) 43 C dX5_isSpelt_42 (by decide) rfl ?_
        exact r_zret C E rfl (pr1 hf) (pr2 hf) dX5_isSpelt_43
def f_X5_isSpelt (v1 : Int32) (v2 : Int32) (k3 : Nat) (u : S2) : Option (Int32 × S2) := nm (sLen k3) (fun x0 => (if (v2 - v1) = x0 then f_X5_isSpelt_15  FUEL v1 k3 (0 : Int32) u else some ((0 : Int32), u)))
set_option maxRecDepth 20000 in
theorem c_X5_isSpelt (ad : Nat → Nat) (v1 : Int32) (v2 : Int32) (k3 : Nat)   (k3a : k3 < 6) (u : S2) (r : Int32) (w : S2) (hf : f_X5_isSpelt v1 v2 k3 u = some (r, w)) : HI yX5_isSpelt cX5_isSpelt 5 (some .boolean) 4 85 ad [.ref (ad 21), .int v1, .int v2, .ref (ad (70 + k3))] u r w := by
  refine HI_of (by decide) (Nat.le_of_ble_eq_true rfl) (fun K C hR E => ?_)
  refine r_sub [(0, .ref (ad 21)), (1, .int v1), (2, .int v2), (3, .ref (ad (70 + k3)))] [0, 1, 2, 3] rfl ?_
  unfold f_X5_isSpelt at hf
  refine r_iload_n 1 2 C dX5_isSpelt_0 rfl rfl rfl ?_
  refine r_iload_n 2 1 C dX5_isSpelt_1 rfl rfl rfl ?_
  refine r_isub 3 C dX5_isSpelt_2 rfl ?_
  refine r_aload_n 4 3 C dX5_isSpelt_3 rfl rfl rfl ?_
  refine r_sLen 7 C hR tw_571 k3a (Nat.le_of_ble_eq_true rfl) (Nat.le_of_ble_eq_true rfl) (Nat.le_of_ble_eq_true rfl) dX5_isSpelt_4 rfl ?_
  obtain ⟨x0, ex0, hf⟩ := nm_of hf
  refine r_nm ex0 ?_
  refine r_icmp_eq 10 12 C dX5_isSpelt_7 (by decide) rfl (fun c0 => ?_) (fun c0 => ?_)
  · have hf := ifT c0 hf
    refine r_iconst (v := 0) 13 C dX5_isSpelt_12 (by decide) rfl ?_
    refine r_istore 15 [(0, .ref (ad 21)), (1, .int v1), (2, .int v2), (3, .ref (ad (70 + k3))), (4, .int (0 : Int32))] [1, 2, 3, 4, 0] C dX5_isSpelt_13 (by decide) rfl rfl ?_
    refine r_sub [(0, .ref (ad 21)), (1, .int v1), (3, .ref (ad (70 + k3))), (4, .int (0 : Int32))] [0, 1, 3, 4] rfl ?_
    exact w_X5_isSpelt_15 C hR E  FUEL v1 k3 (0 : Int32)  k3a  u hf
  · have hf := ifF c0 hf
    refine r_iconst (v := 0) 11 C dX5_isSpelt_10 (by decide) rfl ?_
    exact r_zret C E rfl (pr1 hf) (pr2 hf) dX5_isSpelt_11
def f_X5_wordAt_8  : Nat → Int32 → Int32 → Int32 → S2 → Option (Int32 × S2)
  | 0, _, _, _, _ => none
  | n + 1, v1, v2, v3, u => (if (6 : Int32) ≤ v3 then some ((-1 : Int32), u) else nm (wIx v3) (fun kp0 => bd (f_X5_isSpelt v1 v2 kp0 u) (fun r0 u0 => (if r0 = 0 then nm (v3 + (1 : Int32)) (fun x0 => f_X5_wordAt_8  n v1 v2 x0 u0) else some (v3, u0)))))
theorem f_X5_wordAt_8_e  (n : Nat) (v1 : Int32) (v2 : Int32) (v3 : Int32) (u : S2) : f_X5_wordAt_8  (n + 1) v1 v2 v3 u = (if (6 : Int32) ≤ v3 then some ((-1 : Int32), u) else nm (wIx v3) (fun kp0 => bd (f_X5_isSpelt v1 v2 kp0 u) (fun r0 u0 => (if r0 = 0 then nm (v3 + (1 : Int32)) (fun x0 => f_X5_wordAt_8  n v1 v2 x0 u0) else some (v3, u0))))) := rfl
set_option maxRecDepth 20000 in
theorem w_X5_wordAt_8 {K : Ctx} {ad : Nat → Nat} (C : Cx K ad cX5_wordAt 4 yX5_wordAt.cls (some .int)) (hR : Rm K 5 109) {r : Int32} {w : S2} (E : EI K ad r w)  : ∀ (n : Nat) (v1 : Int32) (v2 : Int32) (v3 : Int32)    (u : S2) (hf : f_X5_wordAt_8  n v1 v2 v3 u = some (r, w)), RW K ad 4 8 [(0, .ref (ad 21)), (1, .int v1), (2, .int v2), (3, .int v3)] [] u := by
  intro n
  induction n with
  | zero => intro v1 v2 v3    u hf; cases hf
  | succ n ih =>
    intro v1 v2 v3    u hf
    rw [f_X5_wordAt_8_e] at hf
    refine r_iload_n 9 3 C dX5_wordAt_8 rfl rfl rfl ?_
    refine r_bipush (v := 6) 11 C dX5_wordAt_9 (by decide) rfl ?_
    refine r_icmp_ge 14 35 C dX5_wordAt_11 (by decide) rfl (fun c0 => ?_) (fun c0 => ?_)
    · have hf := ifT c0 hf
      refine r_iconst (v := -1) 36 C dX5_wordAt_35 (by decide) rfl ?_
      exact r_iret C E (pr1 hf) (pr2 hf) dX5_wordAt_36
    · have hf := ifF c0 hf
      refine r_aload_n 15 0 C dX5_wordAt_14 rfl rfl rfl ?_
      refine r_iload_n 16 1 C dX5_wordAt_15 rfl rfl rfl ?_
      refine r_iload_n 17 2 C dX5_wordAt_16 rfl rfl rfl ?_
      refine r_iload_n 18 3 C dX5_wordAt_17 rfl rfl rfl ?_
      obtain ⟨kp0, ekp0, hf⟩ := nm_of hf
      have kp0a : kp0 < 6 := wIx_lt ekp0
      refine r_nameOf 21 C hR tw_558 (Nat.le_of_ble_eq_true rfl) (Nat.le_of_ble_eq_true rfl) (Nat.le_of_ble_eq_true rfl) dX5_wordAt_18 rfl ?_
      refine r_nmS ekp0 ?_
      obtain ⟨r0, u0, h0, hf⟩ := bd_of hf
      refine r_cVI 24 [.int v1, .int v2, .ref (ad (70 + kp0))] C hR (c_X5_isSpelt ad v1 v2 kp0    kp0a u r0 u0 h0) q_X5_isSpelt tw_567 (wd_21 ad u) rfl rfl tw_569 tp_17 (Nat.le_of_ble_eq_true rfl) (Nat.le_of_ble_eq_true rfl) rfl rfl (Nat.le_of_ble_eq_true rfl) dX5_wordAt_21 rfl ?_
      refine r_if_eq 27 29 C dX5_wordAt_24 (by decide) rfl (fun c1 => ?_) (fun c1 => ?_)
      · have hf := ifT c1 hf
        obtain ⟨x0, ex0, hf⟩ := nm_of hf
        refine r_iinc (v := x0) 32 3 [(0, .ref (ad 21)), (1, .int v1), (2, .int v2), (3, .int x0)] [1, 2, 3, 0] C dX5_wordAt_29 rfl (by rw [ex0]; rfl) (by decide) rfl rfl ?_
        refine r_goto 8 C dX5_wordAt_32 (by decide) ?_
        refine r_sub [(0, .ref (ad 21)), (1, .int v1), (2, .int v2), (3, .int x0)] [0, 1, 2, 3] rfl ?_
        exact ih v1 v2 x0    u0 hf
      · have hf := ifF c1 hf
        refine r_iload_n 28 3 C dX5_wordAt_27 rfl rfl rfl ?_
        exact r_iret C E (pr1 hf) (pr2 hf) dX5_wordAt_28
def f_X5_wordAt (v1 : Int32) (u : S2) : Option (Int32 × S2) := bd (f_X5_tokenEnd v1 u) (fun r0 u0 => f_X5_wordAt_8  FUEL v1 r0 (0 : Int32) u0)
set_option maxRecDepth 20000 in
theorem c_X5_wordAt (ad : Nat → Nat) (v1 : Int32)  (u : S2) (r : Int32) (w : S2) (hf : f_X5_wordAt v1 u = some (r, w)) : HI yX5_wordAt cX5_wordAt 4 (some .int) 5 109 ad [.ref (ad 21), .int v1] u r w := by
  refine HI_of (by decide) (Nat.le_of_ble_eq_true rfl) (fun K C hR E => ?_)
  refine r_sub [(0, .ref (ad 21)), (1, .int v1)] [0, 1] rfl ?_
  unfold f_X5_wordAt at hf
  refine r_aload_n 1 0 C dX5_wordAt_0 rfl rfl rfl ?_
  refine r_iload_n 2 1 C dX5_wordAt_1 rfl rfl rfl ?_
  obtain ⟨r0, u0, h0, hf⟩ := bd_of hf
  refine r_cVI 5 [.int v1] C hR (c_X5_tokenEnd ad v1   u r0 u0 h0) q_X5_tokenEnd tw_548 (wd_21 ad u) rfl rfl tw_550 tp_16 (Nat.le_of_ble_eq_true rfl) (Nat.le_of_ble_eq_true rfl) rfl rfl (Nat.le_of_ble_eq_true rfl) dX5_wordAt_2 rfl ?_
  refine r_istore_n 6 [(0, .ref (ad 21)), (1, .int v1), (2, .int r0)] [1, 2, 0] C dX5_wordAt_5 rfl (by decide) rfl rfl ?_
  refine r_iconst (v := 0) 7 C dX5_wordAt_6 (by decide) rfl ?_
  refine r_istore_n 8 [(0, .ref (ad 21)), (1, .int v1), (2, .int r0), (3, .int (0 : Int32))] [1, 2, 3, 0] C dX5_wordAt_7 rfl (by decide) rfl rfl ?_
  refine r_sub [(0, .ref (ad 21)), (1, .int v1), (2, .int r0), (3, .int (0 : Int32))] [0, 1, 2, 3] rfl ?_
  exact w_X5_wordAt_8 C hR E  FUEL v1 r0 (0 : Int32)    u0 hf
def f_X5_read_18  : Nat → Int32 → Int32 → S2 → Option (Int32 × S2)
  | 0, _, _, _ => none
  | n + 1, v1, v2, u => (if (8 : Int32) < v2 then some (v1, u) else bd (f_X5_behindBlanks v1 u) (fun r0 u0 => bd (f_X5_wordAt r0 u0) (fun r1 u1 => (if r1 = (-1 : Int32) then some (r0, u1) else bd (f_X5_tokenEnd r0 u1) (fun r2 u2 => bd (f_X5_behindBlanks r2 u2) (fun r3 u3 => bd (f_X5_numberAt r3 u3) (fun r4 u4 => ck (inb r1 6) (nm (aL (Int32.toNatClampNeg r1)) (fun x0 => ck (inb r1 6) (nm (aG (Int32.toNatClampNeg r1)) (fun x1 => bd (f_X11_isWithin r4 x0 x1 u4) (fun r5 u5 => (if r5 = 0 then some (r3, u5) else ck (inb r1 6) (nm (wr u5 23 (Int32.toNatClampNeg r1) r4) (fun u6 => nm (wr u6 21 3 v2) (fun u7 => bd (f_X5_tokenEnd r3 u7) (fun r6 u8 => bd (f_X5_behindBlanks r6 u8) (fun r7 u9 => (if r7 < (u9 21 1) then ck (inb r7 160) (nm (u9 22 (Int32.toNatClampNeg r7)) (fun x2 => (if x2 = (59 : Int32) then (if v2 = (8 : Int32) then some (r7, u9) else nm (r7 + (1 : Int32)) (fun x3 => nm (v2 + (1 : Int32)) (fun x4 => f_X5_read_18  n x3 x4 u9))) else some (r7, u9)))) else some ((-1 : Int32), u9))))))))))))))))))))
theorem f_X5_read_18_e  (n : Nat) (v1 : Int32) (v2 : Int32) (u : S2) : f_X5_read_18  (n + 1) v1 v2 u = (if (8 : Int32) < v2 then some (v1, u) else bd (f_X5_behindBlanks v1 u) (fun r0 u0 => bd (f_X5_wordAt r0 u0) (fun r1 u1 => (if r1 = (-1 : Int32) then some (r0, u1) else bd (f_X5_tokenEnd r0 u1) (fun r2 u2 => bd (f_X5_behindBlanks r2 u2) (fun r3 u3 => bd (f_X5_numberAt r3 u3) (fun r4 u4 => ck (inb r1 6) (nm (aL (Int32.toNatClampNeg r1)) (fun x0 => ck (inb r1 6) (nm (aG (Int32.toNatClampNeg r1)) (fun x1 => bd (f_X11_isWithin r4 x0 x1 u4) (fun r5 u5 => (if r5 = 0 then some (r3, u5) else ck (inb r1 6) (nm (wr u5 23 (Int32.toNatClampNeg r1) r4) (fun u6 => nm (wr u6 21 3 v2) (fun u7 => bd (f_X5_tokenEnd r3 u7) (fun r6 u8 => bd (f_X5_behindBlanks r6 u8) (fun r7 u9 => (if r7 < (u9 21 1) then ck (inb r7 160) (nm (u9 22 (Int32.toNatClampNeg r7)) (fun x2 => (if x2 = (59 : Int32) then (if v2 = (8 : Int32) then some (r7, u9) else nm (r7 + (1 : Int32)) (fun x3 => nm (v2 + (1 : Int32)) (fun x4 => f_X5_read_18  n x3 x4 u9))) else some (r7, u9)))) else some ((-1 : Int32), u9)))))))))))))))))))) := rfl
set_option maxRecDepth 20000 in
theorem w_X5_read_18 {K : Ctx} {ad : Nat → Nat} (C : Cx K ad cX5_read 7 yX5_read.cls (some .int)) (hR : Rm K 6 132) {r : Int32} {w : S2} (E : EI K ad r w)  : ∀ (n : Nat) (v1 : Int32) (v2 : Int32)   (u : S2) (hf : f_X5_read_18  n v1 v2 u = some (r, w)), RW K ad 7 18 [(0, .ref (ad 21)), (1, .int v1), (2, .int v2)] [] u := by
  intro n
  induction n with
  | zero => intro v1 v2   u hf; cases hf
  | succ n ih =>
    intro v1 v2   u hf
    rw [f_X5_read_18_e] at hf
    refine r_iload_n 19 2 C dX5_read_18 rfl rfl rfl ?_
    refine r_bipush (v := 8) 21 C dX5_read_19 (by decide) rfl ?_
    refine r_icmp_gt 24 150 C dX5_read_21 (by decide) rfl (fun c0 => ?_) (fun c0 => ?_)
    · have hf := ifT c0 hf
      refine r_iload_n 151 1 C dX5_read_150 rfl rfl rfl ?_
      exact r_iret C E (pr1 hf) (pr2 hf) dX5_read_151
    · have hf := ifF c0 hf
      refine r_aload_n 25 0 C dX5_read_24 rfl rfl rfl ?_
      refine r_iload_n 26 1 C dX5_read_25 rfl rfl rfl ?_
      obtain ⟨r0, u0, h0, hf⟩ := bd_of hf
      refine r_cVI 29 [.int v1] C hR (c_X5_behindBlanks ad v1   u r0 u0 h0) q_X5_behindBlanks tw_540 (wd_21 ad u) rfl rfl tw_542 tp_14 (Nat.le_of_ble_eq_true rfl) (Nat.le_of_ble_eq_true rfl) rfl rfl (Nat.le_of_ble_eq_true rfl) dX5_read_26 rfl ?_
      refine r_istore_n 30 [(0, .ref (ad 21)), (1, .int v1), (2, .int v2), (3, .int r0)] [1, 2, 3, 0] C dX5_read_29 rfl (by decide) rfl rfl ?_
      refine r_aload_n 31 0 C dX5_read_30 rfl rfl rfl ?_
      refine r_iload_n 32 3 C dX5_read_31 rfl rfl rfl ?_
      obtain ⟨r1, u1, h1, hf⟩ := bd_of hf
      refine r_cVI 35 [.int r0] C hR (c_X5_wordAt ad r0   u0 r1 u1 h1) q_X5_wordAt tw_544 (wd_21 ad u0) rfl rfl tw_546 tp_15 (Nat.le_of_ble_eq_true rfl) (Nat.le_of_ble_eq_true rfl) rfl rfl (Nat.le_of_ble_eq_true rfl) dX5_read_32 rfl ?_
      refine r_istore 37 [(0, .ref (ad 21)), (1, .int v1), (2, .int v2), (3, .int r0), (4, .int r1)] [1, 2, 3, 4, 0] C dX5_read_35 (by decide) rfl rfl ?_
      refine r_iload 39 4 C dX5_read_37 rfl rfl ?_
      refine r_iconst (v := -1) 40 C dX5_read_39 (by decide) rfl ?_
      refine r_icmp_ne 43 45 C dX5_read_40 (by decide) rfl (fun c1 => ?_) (fun c1 => ?_)
      · have hf := ifF c1 hf
        refine r_aload_n 46 0 C dX5_read_45 rfl rfl rfl ?_
        refine r_aload_n 47 0 C dX5_read_46 rfl rfl rfl ?_
        refine r_iload_n 48 3 C dX5_read_47 rfl rfl rfl ?_
        obtain ⟨r2, u2, h2, hf⟩ := bd_of hf
        refine r_cVI 51 [.int r0] C hR (c_X5_tokenEnd ad r0   u1 r2 u2 h2) q_X5_tokenEnd tw_548 (wd_21 ad u1) rfl rfl tw_550 tp_16 (Nat.le_of_ble_eq_true rfl) (Nat.le_of_ble_eq_true rfl) rfl rfl (Nat.le_of_ble_eq_true rfl) dX5_read_48 rfl ?_
        obtain ⟨r3, u3, h3, hf⟩ := bd_of hf
        refine r_cVI 54 [.int r2] C hR (c_X5_behindBlanks ad r2   u2 r3 u3 h3) q_X5_behindBlanks tw_540 (wd_21 ad u2) rfl rfl tw_542 tp_14 (Nat.le_of_ble_eq_true rfl) (Nat.le_of_ble_eq_true rfl) rfl rfl (Nat.le_of_ble_eq_true rfl) dX5_read_51 rfl ?_
        refine r_istore 56 [(0, .ref (ad 21)), (1, .int v1), (2, .int v2), (3, .int r0), (4, .int r1), (5, .int r3)] [1, 2, 3, 4, 5, 0] C dX5_read_54 (by decide) rfl rfl ?_
        refine r_aload_n 57 0 C dX5_read_56 rfl rfl rfl ?_
        refine r_iload 59 5 C dX5_read_57 rfl rfl ?_
        obtain ⟨r4, u4, h4, hf⟩ := bd_of hf
        refine r_cVI 62 [.int r3] C hR (c_X5_numberAt ad r3   u3 r4 u4 h4) q_X5_numberAt tw_619 (wd_21 ad u3) rfl rfl tw_621 tp_18 (Nat.le_of_ble_eq_true rfl) (Nat.le_of_ble_eq_true rfl) rfl rfl (Nat.le_of_ble_eq_true rfl) dX5_read_59 rfl ?_
        refine r_istore 64 [(0, .ref (ad 21)), (1, .int v1), (2, .int v2), (3, .int r0), (4, .int r1), (5, .int r3), (6, .int r4)] [1, 2, 3, 4, 5, 6, 0] C dX5_read_62 (by decide) rfl rfl ?_
        refine r_iload 66 6 C dX5_read_64 rfl rfl ?_
        refine r_gets_65 69 C tw_623 dX5_read_66 rfl ?_
        refine r_iload 71 4 C dX5_read_69 rfl rfl ?_
        obtain ⟨hc0, hf⟩ := ck_of hf
        refine r_tiload_65 72 C hc0 dX5_read_71 rfl ?_
        obtain ⟨x0, ex0, hf⟩ := nm_of hf
        refine r_nm ex0 ?_
        refine r_gets_66 75 C tw_625 dX5_read_72 rfl ?_
        refine r_iload 77 4 C dX5_read_75 rfl rfl ?_
        obtain ⟨hc1, hf⟩ := ck_of hf
        refine r_tiload_66 78 C hc1 dX5_read_77 rfl ?_
        obtain ⟨x1, ex1, hf⟩ := nm_of hf
        refine r_nm ex1 ?_
        obtain ⟨r5, u5, h5, hf⟩ := bd_of hf
        refine r_cSNI 81 [.int r4, .int x0, .int x1] C hR (c_X11_isWithin ad r4 x0 x1    u4 r5 u5 h5) q_X11_isWithin tn_627 tw_357 (Nat.le_of_ble_eq_true rfl) (Nat.le_of_ble_eq_true rfl) rfl rfl (Nat.le_of_ble_eq_true rfl) dX5_read_78 rfl ?_
        refine r_if_ne 84 87 C dX5_read_81 (by decide) rfl (fun c2 => ?_) (fun c2 => ?_)
        · have hf := ifF c2 hf
          refine r_aload_n 88 0 C dX5_read_87 rfl rfl rfl ?_
          refine r_get 91 21 2 C inX5 (wd_21 ad u5) rfl (by decide) tw_184 rfl rfl dX5_read_88 rfl ?_
          refine r_iload 93 4 C dX5_read_91 rfl rfl ?_
          refine r_iload 95 6 C dX5_read_93 rfl rfl ?_
          obtain ⟨hc2, hf⟩ := ck_of hf
          refine r_iastore 96 23 6 C (wd_23 ad u5) (sA_23 ad u5) hc2 dX5_read_95 rfl ?_
          obtain ⟨u6, eu6, hf⟩ := nm_of hf
          refine r_st eu6 ?_
          refine r_aload_n 97 0 C dX5_read_96 rfl rfl rfl ?_
          refine r_iload_n 98 2 C dX5_read_97 rfl rfl rfl ?_
          refine r_put 101 21 3 C inX5 tyX5_ok nmX5 (wd_21 ad u6) (sF_21_3 ad u6 v2) rfl (by decide) tw_186 rfl rfl (tyX5_ok 3 (by decide)) rfl rfl (Nat.le_of_ble_eq_true rfl) dX5_read_98 rfl ?_
          obtain ⟨u7, eu7, hf⟩ := nm_of hf
          refine r_st eu7 ?_
          refine r_aload_n 102 0 C dX5_read_101 rfl rfl rfl ?_
          refine r_aload_n 103 0 C dX5_read_102 rfl rfl rfl ?_
          refine r_iload 105 5 C dX5_read_103 rfl rfl ?_
          obtain ⟨r6, u8, h6, hf⟩ := bd_of hf
          refine r_cVI 108 [.int r3] C hR (c_X5_tokenEnd ad r3   u7 r6 u8 h6) q_X5_tokenEnd tw_548 (wd_21 ad u7) rfl rfl tw_550 tp_16 (Nat.le_of_ble_eq_true rfl) (Nat.le_of_ble_eq_true rfl) rfl rfl (Nat.le_of_ble_eq_true rfl) dX5_read_105 rfl ?_
          obtain ⟨r7, u9, h7, hf⟩ := bd_of hf
          refine r_cVI 111 [.int r6] C hR (c_X5_behindBlanks ad r6   u8 r7 u9 h7) q_X5_behindBlanks tw_540 (wd_21 ad u8) rfl rfl tw_542 tp_14 (Nat.le_of_ble_eq_true rfl) (Nat.le_of_ble_eq_true rfl) rfl rfl (Nat.le_of_ble_eq_true rfl) dX5_read_108 rfl ?_
          refine r_istore_n 112 [(0, .ref (ad 21)), (1, .int r7), (2, .int v2), (3, .int r0), (4, .int r1), (5, .int r3), (6, .int r4)] [1, 0, 2, 3, 4, 5, 6] C dX5_read_111 rfl (by decide) rfl rfl ?_
          refine r_iload_n 113 1 C dX5_read_112 rfl rfl rfl ?_
          refine r_aload_n 114 0 C dX5_read_113 rfl rfl rfl ?_
          refine r_get 117 21 1 C inX5 (wd_21 ad u9) rfl (by decide) tw_182 rfl rfl dX5_read_114 rfl ?_
          refine r_icmp_lt 120 122 C dX5_read_117 (by decide) rfl (fun c3 => ?_) (fun c3 => ?_)
          · have hf := ifT c3 hf
            refine r_aload_n 123 0 C dX5_read_122 rfl rfl rfl ?_
            refine r_get 126 21 0 C inX5 (wd_21 ad u9) rfl (by decide) tw_181 rfl rfl dX5_read_123 rfl ?_
            refine r_iload_n 127 1 C dX5_read_126 rfl rfl rfl ?_
            obtain ⟨hc3, hf⟩ := ck_of hf
            refine r_iaload 128 22 160 C (wd_22 ad u9) hc3 dX5_read_127 rfl ?_
            obtain ⟨x2, ex2, hf⟩ := nm_of hf
            refine r_nm ex2 ?_
            refine r_bipush (v := 59) 130 C dX5_read_128 (by decide) rfl ?_
            refine r_icmp_ne 133 139 C dX5_read_130 (by decide) rfl (fun c4 => ?_) (fun c4 => ?_)
            · have hf := ifF c4 hf
              refine r_iload_n 140 1 C dX5_read_139 rfl rfl rfl ?_
              exact r_iret C E (pr1 hf) (pr2 hf) dX5_read_140
            · have hf := ifT c4 hf
              refine r_iload_n 134 2 C dX5_read_133 rfl rfl rfl ?_
              refine r_bipush (v := 8) 136 C dX5_read_134 (by decide) rfl ?_
              refine r_icmp_ne 139 141 C dX5_read_136 (by decide) rfl (fun c5 => ?_) (fun c5 => ?_)
              · have hf := ifF c5 hf
                obtain ⟨x3, ex3, hf⟩ := nm_of hf
                refine r_iinc (v := x3) 144 1 [(0, .ref (ad 21)), (1, .int x3), (2, .int v2), (3, .int r0), (4, .int r1), (5, .int r3), (6, .int r4)] [1, 0, 2, 3, 4, 5, 6] C dX5_read_141 rfl (by rw [ex3]; rfl) (by decide) rfl rfl ?_
                obtain ⟨x4, ex4, hf⟩ := nm_of hf
                refine r_iinc (v := x4) 147 2 [(0, .ref (ad 21)), (1, .int x3), (2, .int x4), (3, .int r0), (4, .int r1), (5, .int r3), (6, .int r4)] [1, 2, 0, 3, 4, 5, 6] C dX5_read_144 rfl (by rw [ex4]; rfl) (by decide) rfl rfl ?_
                refine r_goto 18 C dX5_read_147 (by decide) ?_
                refine r_sub [(0, .ref (ad 21)), (1, .int x3), (2, .int x4)] [0, 1, 2] rfl ?_
                exact ih x3 x4   u9 hf
              · have hf := ifT c5 hf
                refine r_iload_n 140 1 C dX5_read_139 rfl rfl rfl ?_
                exact r_iret C E (pr1 hf) (pr2 hf) dX5_read_140
          · have hf := ifF c3 hf
            refine r_iconst (v := -1) 121 C dX5_read_120 (by decide) rfl ?_
            exact r_iret C E (pr1 hf) (pr2 hf) dX5_read_121
        · have hf := ifT c2 hf
          refine r_iload 86 5 C dX5_read_84 rfl rfl ?_
          exact r_iret C E (pr1 hf) (pr2 hf) dX5_read_86
      · have hf := ifT c1 hf
        refine r_iload_n 44 3 C dX5_read_43 rfl rfl rfl ?_
        exact r_iret C E (pr1 hf) (pr2 hf) dX5_read_44
def f_X5_read  (u : S2) : Option (Int32 × S2) := nm (va_up u 23 (va_cpy aF (u 23) 0 0 6)) (fun u0 => f_X5_read_18  FUEL (0 : Int32) (1 : Int32) u0)
set_option maxRecDepth 20000 in
theorem c_X5_read (ad : Nat → Nat)   (u : S2) (r : Int32) (w : S2) (hf : f_X5_read  u = some (r, w)) : HI yX5_read cX5_read 7 (some .int) 6 132 ad [.ref (ad 21)] u r w := by
  refine HI_of (by decide) (Nat.le_of_ble_eq_true rfl) (fun K C hR E => ?_)
  refine r_sub [(0, .ref (ad 21))] [0] rfl ?_
  unfold f_X5_read at hf
  refine r_gets_64 3 C tw_538 dX5_read_0 rfl ?_
  refine r_iconst (v := 0) 4 C dX5_read_3 (by decide) rfl ?_
  refine r_aload_n 5 0 C dX5_read_4 rfl rfl rfl ?_
  refine r_get 8 21 2 C inX5 (wd_21 ad u) rfl (by decide) tw_184 rfl rfl dX5_read_5 rfl ?_
  refine r_iconst (v := 0) 9 C dX5_read_8 (by decide) rfl ?_
  refine r_bipush (v := 6) 11 C dX5_read_9 (by decide) rfl ?_
  refine r_copyAF 14 23 C hR tw_539 (wd_23 ad u) (sA_23 ad u) (Nat.le_of_ble_eq_true rfl) (Nat.le_of_ble_eq_true rfl) dX5_read_11 rfl ?_
  obtain ⟨u0, eu0, hf⟩ := nm_of hf
  refine r_st eu0 ?_
  refine r_iconst (v := 0) 15 C dX5_read_14 (by decide) rfl ?_
  refine r_istore_n 16 [(0, .ref (ad 21)), (1, .int (0 : Int32))] [1, 0] C dX5_read_15 rfl (by decide) rfl rfl ?_
  refine r_iconst (v := 1) 17 C dX5_read_16 (by decide) rfl ?_
  refine r_istore_n 18 [(0, .ref (ad 21)), (1, .int (0 : Int32)), (2, .int (1 : Int32))] [1, 2, 0] C dX5_read_17 rfl (by decide) rfl rfl ?_
  refine r_sub [(0, .ref (ad 21)), (1, .int (0 : Int32)), (2, .int (1 : Int32))] [0, 1, 2] rfl ?_
  exact w_X5_read_18 C hR E  FUEL (0 : Int32) (1 : Int32)   u0 hf
def f_X11_fault  (u : S2) : Option (Int32 × S2) := bd (f_X5_read  u) (fun r0 u0 => some (r0, u0))
set_option maxRecDepth 20000 in
theorem c_X11_fault (ad : Nat → Nat)   (u : S2) (r : Int32) (w : S2) (hf : f_X11_fault  u = some (r, w)) : HI yX11_fault cX11_fault 1 (some .int) 7 158 ad [.ref (ad 0)] u r w := by
  refine HI_of (by decide) (Nat.le_of_ble_eq_true rfl) (fun K C hR E => ?_)
  refine r_sub [(0, .ref (ad 0))] [0] rfl ?_
  unfold f_X11_fault at hf
  refine r_aload_n 1 0 C dX11_fault_0 rfl rfl rfl ?_
  refine r_get 4 0 4 C inX11 (wd_0 ad u) rfl (by decide) tw_322 rfl rfl dX11_fault_1 rfl ?_
  obtain ⟨r0, u0, h0, hf⟩ := bd_of hf
  refine r_cVNI 7 [] C hR (c_X5_read ad   u r0 u0 h0) q_X5_read tn_534 (wd_21 ad u) rfl rfl tw_536 tp_13 (Nat.le_of_ble_eq_true rfl) (Nat.le_of_ble_eq_true rfl) rfl rfl (Nat.le_of_ble_eq_true rfl) dX11_fault_4 rfl ?_
  exact r_iret C E (pr1 hf) (pr2 hf) dX11_fault_7
def f_X11_steerer  (u : S2) : Option (Int32 × S2) := bd (f_X5_read  u) (fun r0 u0 => (if r0 = (-1 : Int32) then bv (f_X0_become_9  u0) (fun u1 => nm (wr u1 21 1 (0 : Int32)) (fun u2 => some (u2 21 3, u2))) else some ((-4 : Int32), u0)))
set_option maxRecDepth 20000 in
theorem c_X11_steerer (ad : Nat → Nat)   (u : S2) (r : Int32) (w : S2) (hf : f_X11_steerer  u = some (r, w)) : HI yX11_steerer cX11_steerer 1 (some .int) 7 158 ad [.ref (ad 0)] u r w := by
  refine HI_of (by decide) (Nat.le_of_ble_eq_true rfl) (fun K C hR E => ?_)
  refine r_sub [(0, .ref (ad 0))] [0] rfl ?_
  unfold f_X11_steerer at hf
  refine r_aload_n 1 0 C dX11_steerer_0 rfl rfl rfl ?_
  refine r_get 4 0 4 C inX11 (wd_0 ad u) rfl (by decide) tw_322 rfl rfl dX11_steerer_1 rfl ?_
  obtain ⟨r0, u0, h0, hf⟩ := bd_of hf
  refine r_cVNI 7 [] C hR (c_X5_read ad   u r0 u0 h0) q_X5_read tn_534 (wd_21 ad u) rfl rfl tw_536 tp_13 (Nat.le_of_ble_eq_true rfl) (Nat.le_of_ble_eq_true rfl) rfl rfl (Nat.le_of_ble_eq_true rfl) dX11_steerer_4 rfl ?_
  refine r_iconst (v := -1) 8 C dX11_steerer_7 (by decide) rfl ?_
  refine r_icmp_eq 11 14 C dX11_steerer_8 (by decide) rfl (fun c0 => ?_) (fun c0 => ?_)
  · have hf := ifT c0 hf
    refine r_aload_n 15 0 C dX11_steerer_14 rfl rfl rfl ?_
    refine r_get 18 0 3 C inX11 (wd_0 ad u0) rfl (by decide) tw_321 rfl rfl dX11_steerer_15 rfl ?_
    refine r_aload_n 19 0 C dX11_steerer_18 rfl rfl rfl ?_
    refine r_get 22 0 4 C inX11 (wd_0 ad u0) rfl (by decide) tw_322 rfl rfl dX11_steerer_19 rfl ?_
    refine r_getN 25 21 2 C inX5 (wd_21 ad u0) rfl (by decide) tn_185 rfl rfl dX11_steerer_22 rfl ?_
    obtain ⟨u1, h1, hf⟩ := bv_of hf
    refine r_cVNV 28 [.ref (ad 23)] C hR (c_X0_become_9 ad    u0 u1 h1) q_X0_become tn_633 (wd_9 ad u0) rfl rfl tw_635 tp_19 (Nat.le_of_ble_eq_true rfl) (Nat.le_of_ble_eq_true rfl) rfl rfl (Nat.le_of_ble_eq_true rfl) dX11_steerer_25 rfl ?_
    refine r_aload_n 29 0 C dX11_steerer_28 rfl rfl rfl ?_
    refine r_get 32 0 4 C inX11 (wd_0 ad u1) rfl (by decide) tw_322 rfl rfl dX11_steerer_29 rfl ?_
    refine r_iconst (v := 0) 33 C dX11_steerer_32 (by decide) rfl ?_
    refine r_putN 36 21 1 C inX5 tyX5_ok nmX5 (wd_21 ad u1) (sF_21_1 ad u1 (0 : Int32)) rfl (by decide) tn_183 rfl rfl (tyX5_ok 1 (by decide)) rfl rfl (Nat.le_of_ble_eq_true rfl) dX11_steerer_33 rfl ?_
    obtain ⟨u2, eu2, hf⟩ := nm_of hf
    refine r_st eu2 ?_
    refine r_aload_n 37 0 C dX11_steerer_36 rfl rfl rfl ?_
    refine r_get 40 0 4 C inX11 (wd_0 ad u2) rfl (by decide) tw_322 rfl rfl dX11_steerer_37 rfl ?_
    refine r_getN 43 21 3 C inX5 (wd_21 ad u2) rfl (by decide) tn_187 rfl rfl dX11_steerer_40 rfl ?_
    exact r_iret C E (pr1 hf) (pr2 hf) dX11_steerer_43
  · have hf := ifF c0 hf
    refine r_bipush (v := -4) 13 C dX11_steerer_11 (by decide) rfl ?_
    exact r_iret C E (pr1 hf) (pr2 hf) dX11_steerer_13
