def chS (w j : Nat) : Int32 := (bytS.getD w []).getD j 0
def sLen (w : Nat) : Int32 := Int32.ofNat (lenS.getD w 0)
def wIx (v : Int32) : Nat := if v = 0 then 0 else if v = 1 then 1 else if v = 2 then 2 else if v = 3 then 3 else if v = 4 then 4 else 5
theorem wIx_lt {v : Int32} {k : Nat} (e : k = wIx v) : k < 6 := by
  rw [e]
  unfold wIx
  split
  · decide
  split
  · decide
  split
  · decide
  split
  · decide
  split
  · decide
  · decide
theorem ch_all : ∀ w, w < 6 → ∀ j, j < lenS.getD w 0 → ((chS w j &&& 255).toUInt32 % 65536).toInt32 = chS w j ∧ narrow .char (.int (chS w j)) = .int (chS w j) := by decide +kernel
theorem sLen_shr : ∀ w, w < 6 → sLen w >>> ((0 : Int32) &&& 31) = sLen w := by decide +kernel
section RWs2
variable {K : Ctx} {ad : Nat → Nat} {cc : ByteArray} {nL pc : Nat} {own : String} {ret : Option FieldType} {lv : List (Nat × Value)} {st : List Value} {σ : S2}
theorem r_nmS {x y : Nat} (e : x = y) (k : RW K ad nL pc lv (.ref (ad (70 + x)) :: st) σ) : RW K ad nL pc lv (.ref (ad (70 + y)) :: st) σ := e ▸ k
theorem r_getCS (n : Nat) (C : Cx K ad cc nL own ret) {index : Nat} (hw : Cond.fieldLink own index "java/lang/String" "COMPACT_STRINGS" "Z" ∈ tblG) (hd : decode cc pc = .ok (.getstatic index, 3)) (hn : pc + 3 = n) (k : RW K ad nL n lv (.int 1 :: st) σ) : RW K ad nL pc lv st σ := by
  obtain ⟨p, l, e, R, s, m, args, below, meth, c, Q, D, cI, cP, A, cl, sl⟩ := K
  obtain ⟨hx, hb, hml, hown, hts, hr, hlk, hE, hcl, hsl⟩ := C
  subst hn
  exact fun H locs ls hP hS hl => va_gets hx hb hE.2.2.2.2.2.2.2.2.2.1 hS hown (hts _ hw) (fun _ h => h) hd (k H locs ls hP hS hl)
theorem r_getSIO (n : Nat) (C : Cx K ad cc nL own ret) {index : Nat} (hw : Cond.fieldLink own index "jdk/internal/util/Preconditions" "SIOOBE_FORMATTER" "Ljava/util/function/BiFunction;" ∈ tblG) (hd : decode cc pc = .ok (.getstatic index, 3)) (hn : pc + 3 = n) (k : ∀ o : Option Nat, RW K ad nL n lv (va_rf o :: st) σ) : RW K ad nL pc lv st σ := by
  obtain ⟨p, l, e, R, s, m, args, below, meth, c, Q, D, cI, cP, A, cl, sl⟩ := K
  obtain ⟨hx, hb, hml, hown, hts, hr, hlk, hE, hcl, hsl⟩ := C
  subst hn
  intro H locs ls hP hS hl
  rcases hE.2.2.2.2.2.2.2.2.2.2.2.2.2.2.2.2.2 with h | ⟨t, h⟩
  · exact va_gets hx hb h hS hown (hts _ hw) (fun _ h => h) hd (k none H locs ls hP hS hl)
  · exact va_gets hx hb h hS hown (hts _ hw) (fun _ h => h) hd (k (some t) H locs ls hP hS hl)
theorem r_getCoder (n : Nat) {w : Nat} (hw6 : w < 6) (C : Cx K ad cc nL own ret) {index : Nat} (hw : Cond.fieldLink own index "java/lang/String" "coder" "B" ∈ tblG) (hd : decode cc pc = .ok (.getfield index, 3)) (hn : pc + 3 = n) (k : RW K ad nL n lv (.int 0 :: st) σ) : RW K ad nL pc lv (.ref (ad (70 + w)) :: st) σ := by
  obtain ⟨p, l, e, R, s, m, args, below, meth, c, Q, D, cI, cP, A, cl, sl⟩ := K
  obtain ⟨hx, hb, hml, hown, hts, hr, hlk, hE, hcl, hsl⟩ := C
  subst hn
  exact fun H locs ls hP hS hl => vk_getf hx hb (hE.2.2.2.2.2.2.2.2.2.2.1.1 w hw6).2.1 hS hown (hts _ hw) (fun _ h => h) hd (k H locs ls hP hS hl)
theorem r_getValue (n : Nat) {w : Nat} (hw6 : w < 6) (C : Cx K ad cc nL own ret) {index : Nat} (hw : Cond.fieldLink own index "java/lang/String" "value" "[B" ∈ tblG) (hd : decode cc pc = .ok (.getfield index, 3)) (hn : pc + 3 = n) (k : RW K ad nL n lv (.ref (ad (80 + w)) :: st) σ) : RW K ad nL pc lv (.ref (ad (70 + w)) :: st) σ := by
  obtain ⟨p, l, e, R, s, m, args, below, meth, c, Q, D, cI, cP, A, cl, sl⟩ := K
  obtain ⟨hx, hb, hml, hown, hts, hr, hlk, hE, hcl, hsl⟩ := C
  subst hn
  exact fun H locs ls hP hS hl => vk_getf hx hb (hE.2.2.2.2.2.2.2.2.2.2.1.1 w hw6).2.2.1 hS hown (hts _ hw) (fun _ h => h) hd (k H locs ls hP hS hl)
theorem r_vlen (n : Nat) {w : Nat} (hw6 : w < 6) (C : Cx K ad cc nL own ret) (hd : decode cc pc = .ok (.arraylength, 1)) (hn : pc + 1 = n) (k : RW K ad nL n lv (.int (sLen w) :: st) σ) : RW K ad nL pc lv (.ref (ad (80 + w)) :: st) σ := by
  obtain ⟨p, l, e, R, s, m, args, below, meth, c, Q, D, cI, cP, A, cl, sl⟩ := K
  obtain ⟨hx, hb, hml, hown, hts, hr, hlk, hE, hcl, hsl⟩ := C
  subst hn
  exact fun H locs ls hP hS hl => va_tlen hx hb (hE.2.2.2.2.2.2.2.2.2.2.1.1 w hw6).2.2.2 hS rfl hd (k H locs ls hP hS hl)
theorem r_vld (n : Nat) {w : Nat} (hw6 : w < 6) (C : Cx K ad cc nL own ret) {i : Int32} (hi : inb i (lenS.getD w 0) = true) (hd : decode cc pc = .ok (.baload, 1)) (hn : pc + 1 = n) (k : RW K ad nL n lv (.int (chS w i.toNatClampNeg) :: st) σ) : RW K ad nL pc lv (.int i :: .ref (ad (80 + w)) :: st) σ := by
  obtain ⟨p, l, e, R, s, m, args, below, meth, c, Q, D, cI, cP, A, cl, sl⟩ := K
  obtain ⟨hx, hb, hml, hown, hts, hr, hlk, hE, hcl, hsl⟩ := C
  subst hn
  exact fun H locs ls hP hS hl => va_tb hx hb (hE.2.2.2.2.2.2.2.2.2.2.1.1 w hw6).2.2.2 hS (inb_in hi) rfl hd (k H locs ls hP hS hl)
theorem r_i2c (n : Nat) (C : Cx K ad cc nL own ret) {x : Int32} (hd : decode cc pc = .ok (.i2c, 1)) (hn : pc + 1 = n) (k : RW K ad nL n lv (.int (x.toUInt32 % 65536).toInt32 :: st) σ) : RW K ad nL pc lv (.int x :: st) σ := by
  obtain ⟨p, l, e, R, s, m, args, below, meth, c, Q, D, cI, cP, A, cl, sl⟩ := K
  obtain ⟨hx, hb, hml, hown, hts, hr, hlk, hE, hcl, hsl⟩ := C
  subst hn
  exact fun H locs ls hP hS hl => lv_i2c hx hb hd rfl (k H locs ls hP hS hl)
theorem r_cT (n : Nat) (As : List Value) {w : Nat} (hw6 : w < 6) (C : Cx K ad cc nL own ret) {fr lc fr' lc' : Nat} (hR : Rm K fr lc) {y : MethodName} {cb : ByteArray} {mL np index : Nat} {rt : Option FieldType} {r : Int32} {σ' : S2} (hM : HI y cb mL rt fr' lc' ad (.ref (ad (70 + w)) :: As) σ r σ') (ca : Cal y cb mL rt np) (hw : Cond.methodLink own index y ∈ tblG) (hq : "java/lang/String" = y.cls) (h1 : Cond.instanceMethod y ∈ tblG) (h2 : Cond.selects y.cls y y ∈ tblG) (hf : fr' + 1 ≤ fr) (hlo : 8 + (mL + 11) + lc' ≤ lc) (hnp : As.length = np) {st0 : List Value} (hst : st0 = As.reverse ++ .ref (ad (70 + w)) :: st) (hcat : (st.map fun v => v.category).sum ≤ 8) (hd : decode cc pc = .ok (.invokevirtual index, 3)) (hn : pc + 3 = n) (k : RW K ad nL n lv (.int r :: st) σ') : RW K ad nL pc lv st0 σ := by
  obtain ⟨p, l, e, R, s, m, args, below, meth, c, Q, D, cI, cP, A, cl, sl⟩ := K
  obtain ⟨hx, hb, hml, hown, hts, hr, hlk, hE, hcl, hsl⟩ := C
  subst hn
  subst hst
  subst hnp
  intro H locs ls hP hS hl
  have hrc := vk_recv hE.2.2.2.2.2.2.2.2.2.2.1 hw6 hS
  rw [hq] at hrc
  refine va_calli (va_runV (As := As) (rest := st) ⟨hx, hb, hml, hown, hts⟩ (hM l D cI cP A) ⟨callB_of As.length hts (gAll (fun w h => h) ca.1) rfl rfl rfl (hts _ ca.2.1) (hts _ hw) ca.2.2 ⟨Nat.le_trans hf hR.1, Nat.le_trans hlo hR.2⟩, hts _ h1, hts _ h2⟩ ⟨PW.blind, hrc, fun U hU hW => ⟨rfl, hE.warm hS hU hW, by rw [hU]; exact hP⟩⟩ rfl rfl hl.1 rfl (lv_room hcat) hd ⟨hcl, hsl⟩) hS (fun q _ h => h) (fun q h => h) (fun r1 u t H1 locs1 ht hvm hw1 hB _ _ hS1 => ?_)
  obtain ⟨rfl, rfl⟩ := hw1
  exact k H1 locs1 ls (by rw [← ht]; exact hB) hS1 hl
end RWs2
set_option maxRecDepth 20000 in
theorem c_pcheck (ad : Nat → Nat) (i n : Int32) (o : Option Nat) (u : S2) (h0 : 0 ≤ i) (h1 : i < n) : HI yJ3_checkIndex_8e157 cJ3_checkIndex_8e157 3 (some .int) 0 0 ad [.int i, .int n, va_rf o] u i u := by
  cases o with
  | none =>
    refine HI_ofF (by decide +kernel) (Nat.le_of_ble_eq_true rfl) (fun K C hR E => ?_)
    refine r_sub [(0, .int i), (1, .int n), (2, .null)] [0, 1, 2] rfl ?_
    refine r_iload_n 1 0 C dJ3_checkIndex_8e157_0 rfl rfl rfl ?_
    refine r_if_lt 4 9 C dJ3_checkIndex_8e157_1 (by decide) rfl (fun c => absurd h0 (Int32.not_le.mpr c)) (fun _ => ?_)
    refine r_iload_n 5 0 C dJ3_checkIndex_8e157_4 rfl rfl rfl ?_
    refine r_iload_n 6 1 C dJ3_checkIndex_8e157_5 rfl rfl rfl ?_
    refine r_icmp_lt 9 16 C dJ3_checkIndex_8e157_6 (by decide) rfl (fun _ => ?_) (fun c => absurd h1 c)
    refine r_iload_n 17 0 C dJ3_checkIndex_8e157_16 rfl rfl rfl ?_
    exact r_iret C E rfl rfl dJ3_checkIndex_8e157_17
  | some t =>
    refine HI_ofF (by decide +kernel) (Nat.le_of_ble_eq_true rfl) (fun K C hR E => ?_)
    refine r_sub [(0, .int i), (1, .int n), (2, .ref t)] [0, 1, 2] rfl ?_
    refine r_iload_n 1 0 C dJ3_checkIndex_8e157_0 rfl rfl rfl ?_
    refine r_if_lt 4 9 C dJ3_checkIndex_8e157_1 (by decide) rfl (fun c => absurd h0 (Int32.not_le.mpr c)) (fun _ => ?_)
    refine r_iload_n 5 0 C dJ3_checkIndex_8e157_4 rfl rfl rfl ?_
    refine r_iload_n 6 1 C dJ3_checkIndex_8e157_5 rfl rfl rfl ?_
    refine r_icmp_lt 9 16 C dJ3_checkIndex_8e157_6 (by decide) rfl (fun _ => ?_) (fun c => absurd h1 c)
    refine r_iload_n 17 0 C dJ3_checkIndex_8e157_16 rfl rfl rfl ?_
    exact r_iret C E rfl rfl dJ3_checkIndex_8e157_17
theorem q_pc : Cal yJ3_checkIndex_8e157 cJ3_checkIndex_8e157 3 (some .int) 3 := ⟨tw_599, tw_18, by decide +kernel⟩
theorem HV_ofF {y : MethodName} {cc : ByteArray} {nL fr lc : Nat} {ret : Option FieldType} {ad : Nat → Nat} {av : List Value} {σ σ' : S2} (hy : plainFor y = true) (hsl : (lg_sl av).length ≤ nL) (h : ∀ K : Ctx, Cx K ad cc nL y.cls ret → Rm K fr lc → EV K ad σ' → RW K ad nL 0 (lv_args 0 av) [] σ) : HV y cc nL ret fr lc ad av σ σ' := by
  intro l D cI cP A
  refine Met_ofWF (cc := cc) (maxL := nL) (ret := ret) hy rfl ?_
  intro p e s m args below meth c s₁ B hml hv
  obtain ⟨rfl, hE, hP⟩ := hv
  have hts := atoms_spec (ws := wsM y cc nL ret) B.pre
  have hown : s.vm.findClass y.cls = some m.cls := findClass_of_methodNamed B.named
  have hC : Cx (p, l, e, ({ frames := fr, cells := 0, slots := 0, locals := lc } : Room), s, m, av.toArray, below, meth, c, MQ below (QV D ad cI cP A σ') av.toArray s 0 0 A, D, cI, cP, A, 0, 0) ad cc nL y.cls ret := ⟨B.exec, B.bytes, hml, hown, fun w hw => hts w (List.mem_cons_of_mem _ hw), B.returns, B.notSynchronized, hE, Nat.le_refl _, Nat.le_refl _⟩
  have hl := lv_entry av (n := nL) hsl
  rw [lg_entry_eq]
  exact h _ hC ⟨Nat.le_refl _, Nat.le_refl _⟩ rfl s.heap [] _ hP va_S.rf hl
set_option maxRecDepth 20000 in
theorem c_scheck (ad : Nat → Nat) (i n : Int32) (u : S2) (h0 : 0 ≤ i) (h1 : i < n) : HV yJ0_checkIndex_df160 cJ0_checkIndex_df160 2 none 1 22 ad [.int i, .int n] u u := by
  refine HV_ofF (by decide +kernel) (Nat.le_of_ble_eq_true rfl) (fun K C hR E => ?_)
  refine r_sub [(0, .int i), (1, .int n)] [0, 1] rfl ?_
  refine r_iload_n 1 0 C dJ0_checkIndex_df160_0 rfl rfl rfl ?_
  refine r_iload_n 2 1 C dJ0_checkIndex_df160_1 rfl rfl rfl ?_
  refine r_getSIO 5 C tw_595 dJ0_checkIndex_df160_2 rfl (fun o => ?_)
  refine r_cSI 8 [.int i, .int n, va_rf o] C hR (c_pcheck ad i n o u h0 h1) q_pc tw_597 tw_598 (Nat.le_of_ble_eq_true rfl) (Nat.le_of_ble_eq_true rfl) rfl rfl (Nat.le_of_ble_eq_true rfl) dJ0_checkIndex_df160_5 rfl ?_
  refine r_pop 9 C dJ0_checkIndex_df160_8 rfl rfl ?_
  exact r_vret C E rfl dJ0_checkIndex_df160_9
set_option maxRecDepth 20000 in
theorem c_l1char (ad : Nat → Nat) (w : Nat) (hw : w < 6) (i : Int32) (hi : inb i (lenS.getD w 0) = true) (u : S2) : HI yJ1_charAt_3b067 cJ1_charAt_3b067 2 (some .char) 2 43 ad [.ref (ad (80 + w)), .int i] u (chS w i.toNatClampNeg) u := by
  refine HI_ofF (by decide +kernel) (Nat.le_of_ble_eq_true rfl) (fun K C hR E => ?_)
  have hlt := inb_lt hi
  have hle : 0 ≤ i := by
    unfold inb at hi
    rw [Bool.and_eq_true, decide_eq_true_eq] at hi
    exact hi.1
  have hl6 : ∀ w, w < 6 → lenS.getD w 0 ≤ 5 := by decide
  have h5 := hl6 w hw
  have hlt2 : i < sLen w := by
    obtain ⟨j, hj, e⟩ := nI_of (x := i) (Int32.not_lt.mpr hle)
    rw [e] at hlt ⊢
    rw [nI_clamp hj] at hlt
    exact nI_lt hlt (by omega)
  obtain ⟨ha, hb⟩ := ch_all w hw i.toNatClampNeg hlt
  refine r_sub [(0, .ref (ad (80 + w))), (1, .int i)] [0, 1] rfl ?_
  refine r_iload_n 1 1 C dJ1_charAt_3b067_0 rfl rfl rfl ?_
  refine r_aload_n 2 0 C dJ1_charAt_3b067_1 rfl rfl rfl ?_
  refine r_vlen 3 hw C dJ1_charAt_3b067_2 rfl ?_
  refine r_cSV 6 [.int i, .int (sLen w)] C hR (c_scheck ad i (sLen w) u hle hlt2) q_J0_checkIndex_df160 tw_592 tw_593 (Nat.le_of_ble_eq_true rfl) (Nat.le_of_ble_eq_true rfl) rfl rfl (Nat.le_of_ble_eq_true rfl) dJ1_charAt_3b067_3 rfl ?_
  refine r_aload_n 7 0 C dJ1_charAt_3b067_6 rfl rfl rfl ?_
  refine r_iload_n 8 1 C dJ1_charAt_3b067_7 rfl rfl rfl ?_
  refine r_vld 9 hw C hi dJ1_charAt_3b067_8 rfl ?_
  refine r_sipush (v := 255) 12 C dJ1_charAt_3b067_9 (by decide) rfl ?_
  refine r_iand 13 C dJ1_charAt_3b067_12 rfl ?_
  refine r_i2c 14 C dJ1_charAt_3b067_13 rfl ?_
  refine r_nm ha.symm ?_
  exact r_zret C E hb rfl rfl dJ1_charAt_3b067_14
set_option maxRecDepth 20000 in
theorem c_isLatin (ad : Nat → Nat) (w : Nat) (hw : w < 6) (u : S2) : HI yJ0_isLatin1_aae02 cJ0_isLatin1_aae02 1 (some .boolean) 0 0 ad [.ref (ad (70 + w))] u 1 u := by
  refine HI_ofF (by decide +kernel) (Nat.le_of_ble_eq_true rfl) (fun K C hR E => ?_)
  refine r_sub [(0, .ref (ad (70 + w)))] [0] rfl ?_
  refine r_getCS 3 C tw_579 dJ0_isLatin1_aae02_0 rfl ?_
  refine r_if_eq 6 17 C dJ0_isLatin1_aae02_3 (by decide) rfl (fun c => absurd c (by decide)) (fun _ => ?_)
  refine r_aload_n 7 0 C dJ0_isLatin1_aae02_6 rfl rfl rfl ?_
  refine r_getCoder 10 hw C tw_1216 dJ0_isLatin1_aae02_7 rfl ?_
  refine r_if_ne 13 17 C dJ0_isLatin1_aae02_10 (by decide) rfl (fun c => absurd rfl c) (fun _ => ?_)
  refine r_iconst (v := 1) 14 C dJ0_isLatin1_aae02_13 (by decide) rfl ?_
  refine r_goto 18 C dJ0_isLatin1_aae02_14 (by decide) ?_
  exact r_zret C E rfl rfl rfl dJ0_isLatin1_aae02_18
set_option maxRecDepth 20000 in
theorem c_coder (ad : Nat → Nat) (w : Nat) (hw : w < 6) (u : S2) : HI yJ0_coder_7d493 cJ0_coder_7d493 1 (some .byte) 0 0 ad [.ref (ad (70 + w))] u 0 u := by
  refine HI_ofF (by decide +kernel) (Nat.le_of_ble_eq_true rfl) (fun K C hR E => ?_)
  refine r_sub [(0, .ref (ad (70 + w)))] [0] rfl ?_
  refine r_getCS 3 C tw_579 dJ0_coder_7d493_0 rfl ?_
  refine r_if_eq 6 13 C dJ0_coder_7d493_3 (by decide) rfl (fun c => absurd c (by decide)) (fun _ => ?_)
  refine r_aload_n 7 0 C dJ0_coder_7d493_6 rfl rfl rfl ?_
  refine r_getCoder 10 hw C tw_1216 dJ0_coder_7d493_7 rfl ?_
  refine r_goto 14 C dJ0_coder_7d493_10 (by decide) ?_
  exact r_zret C E rfl rfl rfl dJ0_coder_7d493_14
set_option maxRecDepth 20000 in
theorem c_slen (ad : Nat → Nat) (w : Nat) (hw : w < 6) (u : S2) : HI yJ0_length_8abf5 cJ0_length_8abf5 1 (some .int) 1 20 ad [.ref (ad (70 + w))] u (sLen w) u := by
  refine HI_ofF (by decide +kernel) (Nat.le_of_ble_eq_true rfl) (fun K C hR E => ?_)
  refine r_sub [(0, .ref (ad (70 + w)))] [0] rfl ?_
  refine r_aload_n 1 0 C dJ0_length_8abf5_0 rfl rfl rfl ?_
  refine r_getValue 4 hw C tw_1215 dJ0_length_8abf5_1 rfl ?_
  refine r_vlen 5 hw C dJ0_length_8abf5_4 rfl ?_
  refine r_aload_n 6 0 C dJ0_length_8abf5_5 rfl rfl rfl ?_
  refine r_cT 9 [] hw C hR (c_coder ad w hw u) q_J0_coder_7d493 tw_575 rfl tw_576 tw_577 (Nat.le_of_ble_eq_true rfl) (Nat.le_of_ble_eq_true rfl) rfl rfl (Nat.le_of_ble_eq_true rfl) dJ0_length_8abf5_6 rfl ?_
  refine r_ishr 10 C dJ0_length_8abf5_9 rfl ?_
  exact r_iret C E (sLen_shr w hw) rfl dJ0_length_8abf5_10
set_option maxRecDepth 20000 in
theorem c_schar (ad : Nat → Nat) (w : Nat) (hw : w < 6) (i : Int32) (hi : inb i (lenS.getD w 0) = true) (u : S2) : HI yJ0_charAt_5068e cJ0_charAt_5068e 2 (some .char) 3 64 ad [.ref (ad (70 + w)), .int i] u (chS w i.toNatClampNeg) u := by
  refine HI_ofF (by decide +kernel) (Nat.le_of_ble_eq_true rfl) (fun K C hR E => ?_)
  refine r_sub [(0, .ref (ad (70 + w))), (1, .int i)] [0, 1] rfl ?_
  refine r_aload_n 1 0 C dJ0_charAt_5068e_0 rfl rfl rfl ?_
  refine r_cT 4 [] hw C hR (c_isLatin ad w hw u) q_J0_isLatin1_aae02 tw_585 rfl tw_586 tw_587 (Nat.le_of_ble_eq_true rfl) (Nat.le_of_ble_eq_true rfl) rfl rfl (Nat.le_of_ble_eq_true rfl) dJ0_charAt_5068e_1 rfl ?_
  refine r_if_eq 7 16 C dJ0_charAt_5068e_4 (by decide) rfl (fun c => absurd c (by decide)) (fun _ => ?_)
  refine r_aload_n 8 0 C dJ0_charAt_5068e_7 rfl rfl rfl ?_
  refine r_getValue 11 hw C tw_1215 dJ0_charAt_5068e_8 rfl ?_
  refine r_iload_n 12 1 C dJ0_charAt_5068e_11 rfl rfl rfl ?_
  refine r_cSI 15 [.ref (ad (80 + w)), .int i] C hR (c_l1char ad w hw i hi u) q_J1_charAt_3b067 tw_589 tw_590 (Nat.le_of_ble_eq_true rfl) (Nat.le_of_ble_eq_true rfl) rfl rfl (Nat.le_of_ble_eq_true rfl) dJ0_charAt_5068e_12 rfl ?_
  exact r_zret C E (ch_all w hw _ (inb_lt hi)).2 rfl rfl dJ0_charAt_5068e_15
theorem tsw_5 {x : Int32} (h0 : ¬ x = 0) (h1 : ¬ x = 1) (h2 : ¬ x = 2) (h3 : ¬ x = 3) (h4 : ¬ x = 4) : x.toInt < 0 ∨ 4 < x.toInt := by
  have e0 : x.toInt ≠ 0 := tsw_ne h0
  have e1 : x.toInt ≠ 1 := tsw_ne h1
  have e2 : x.toInt ≠ 2 := tsw_ne h2
  have e3 : x.toInt ≠ 3 := tsw_ne h3
  have e4 : x.toInt ≠ 4 := tsw_ne h4
  omega
section RWs3
variable {K : Ctx} {ad : Nat → Nat} {cc : ByteArray} {nL pc : Nat} {ret : Option FieldType} {lv : List (Nat × Value)} {st : List Value} {σ : S2}
theorem r_ldcS_0 (n : Nat) (C : Cx K ad cc nL "NorthWheel$Script" ret) (hd : decode cc pc = .ok (.ldc 83, 2)) (hn : pc + 2 = n) (k : RW K ad nL n lv (.ref (ad 70) :: st) σ) : RW K ad nL pc lv st σ := by
  obtain ⟨p, l, e, R, s, m, args, below, meth, c, Q, D, cI, cP, A, cl, sl⟩ := K
  obtain ⟨hx, hb, hml, hown, hts, hr, hlk, hE, hcl, hsl⟩ := C
  subst hn
  exact fun H locs ls hP hS hl => va_ldcS hx hb hown hE.2.2.2.2.2.2.2.2.2.2.2.1 hd (k H locs ls hP hS hl)
theorem r_ldcS_1 (n : Nat) (C : Cx K ad cc nL "NorthWheel$Script" ret) (hd : decode cc pc = .ok (.ldc 85, 2)) (hn : pc + 2 = n) (k : RW K ad nL n lv (.ref (ad 71) :: st) σ) : RW K ad nL pc lv st σ := by
  obtain ⟨p, l, e, R, s, m, args, below, meth, c, Q, D, cI, cP, A, cl, sl⟩ := K
  obtain ⟨hx, hb, hml, hown, hts, hr, hlk, hE, hcl, hsl⟩ := C
  subst hn
  exact fun H locs ls hP hS hl => va_ldcS hx hb hown hE.2.2.2.2.2.2.2.2.2.2.2.2.1 hd (k H locs ls hP hS hl)
theorem r_ldcS_2 (n : Nat) (C : Cx K ad cc nL "NorthWheel$Script" ret) (hd : decode cc pc = .ok (.ldc 87, 2)) (hn : pc + 2 = n) (k : RW K ad nL n lv (.ref (ad 72) :: st) σ) : RW K ad nL pc lv st σ := by
  obtain ⟨p, l, e, R, s, m, args, below, meth, c, Q, D, cI, cP, A, cl, sl⟩ := K
  obtain ⟨hx, hb, hml, hown, hts, hr, hlk, hE, hcl, hsl⟩ := C
  subst hn
  exact fun H locs ls hP hS hl => va_ldcS hx hb hown hE.2.2.2.2.2.2.2.2.2.2.2.2.2.1 hd (k H locs ls hP hS hl)
theorem r_ldcS_3 (n : Nat) (C : Cx K ad cc nL "NorthWheel$Script" ret) (hd : decode cc pc = .ok (.ldc 89, 2)) (hn : pc + 2 = n) (k : RW K ad nL n lv (.ref (ad 73) :: st) σ) : RW K ad nL pc lv st σ := by
  obtain ⟨p, l, e, R, s, m, args, below, meth, c, Q, D, cI, cP, A, cl, sl⟩ := K
  obtain ⟨hx, hb, hml, hown, hts, hr, hlk, hE, hcl, hsl⟩ := C
  subst hn
  exact fun H locs ls hP hS hl => va_ldcS hx hb hown hE.2.2.2.2.2.2.2.2.2.2.2.2.2.2.1 hd (k H locs ls hP hS hl)
theorem r_ldcS_4 (n : Nat) (C : Cx K ad cc nL "NorthWheel$Script" ret) (hd : decode cc pc = .ok (.ldc 91, 2)) (hn : pc + 2 = n) (k : RW K ad nL n lv (.ref (ad 74) :: st) σ) : RW K ad nL pc lv st σ := by
  obtain ⟨p, l, e, R, s, m, args, below, meth, c, Q, D, cI, cP, A, cl, sl⟩ := K
  obtain ⟨hx, hb, hml, hown, hts, hr, hlk, hE, hcl, hsl⟩ := C
  subst hn
  exact fun H locs ls hP hS hl => va_ldcS hx hb hown hE.2.2.2.2.2.2.2.2.2.2.2.2.2.2.2.1 hd (k H locs ls hP hS hl)
theorem r_ldcS_5 (n : Nat) (C : Cx K ad cc nL "NorthWheel$Script" ret) (hd : decode cc pc = .ok (.ldc 93, 2)) (hn : pc + 2 = n) (k : RW K ad nL n lv (.ref (ad 75) :: st) σ) : RW K ad nL pc lv st σ := by
  obtain ⟨p, l, e, R, s, m, args, below, meth, c, Q, D, cI, cP, A, cl, sl⟩ := K
  obtain ⟨hx, hb, hml, hown, hts, hr, hlk, hE, hcl, hsl⟩ := C
  subst hn
  exact fun H locs ls hP hS hl => va_ldcS hx hb hown hE.2.2.2.2.2.2.2.2.2.2.2.2.2.2.2.2.1 hd (k H locs ls hP hS hl)
end RWs3
set_option maxRecDepth 20000 in
theorem c_nameOf (ad : Nat → Nat) (v : Int32) (u : S2) : HQ yX5_nameOf cX5_nameOf 1 (some (.object "java/lang/String")) 0 0 ad [.int v] u (some (70 + wIx v)) u := by
  refine HQ_of (by decide) (Nat.le_of_ble_eq_true rfl) (fun K C hR E => ?_)
  refine r_sub [(0, .int v)] [0] rfl ?_
  refine r_iload_n 1 0 C dX5_nameOf_0 rfl rfl rfl ?_
  by_cases c0 : v = 0
  · subst c0
    refine r_tableIn (x := 0) 36 C dX5_nameOf_1 (by decide) (by decide) rfl (by decide) ?_
    refine r_ldcS_0 38 C dX5_nameOf_36 rfl ?_
    exact r_qret C E rfl rfl dX5_nameOf_38
  by_cases c1 : v = 1
  · subst c1
    refine r_tableIn (x := 1) 39 C dX5_nameOf_1 (by decide) (by decide) rfl (by decide) ?_
    refine r_ldcS_1 41 C dX5_nameOf_39 rfl ?_
    exact r_qret C E rfl rfl dX5_nameOf_41
  by_cases c2 : v = 2
  · subst c2
    refine r_tableIn (x := 2) 42 C dX5_nameOf_1 (by decide) (by decide) rfl (by decide) ?_
    refine r_ldcS_2 44 C dX5_nameOf_42 rfl ?_
    exact r_qret C E rfl rfl dX5_nameOf_44
  by_cases c3 : v = 3
  · subst c3
    refine r_tableIn (x := 3) 45 C dX5_nameOf_1 (by decide) (by decide) rfl (by decide) ?_
    refine r_ldcS_3 47 C dX5_nameOf_45 rfl ?_
    exact r_qret C E rfl rfl dX5_nameOf_47
  by_cases c4 : v = 4
  · subst c4
    refine r_tableIn (x := 4) 48 C dX5_nameOf_1 (by decide) (by decide) rfl (by decide) ?_
    refine r_ldcS_4 50 C dX5_nameOf_48 rfl ?_
    exact r_qret C E rfl rfl dX5_nameOf_50
  refine r_tableOut (x := v) 51 C dX5_nameOf_1 (tsw_5 c0 c1 c2 c3 c4) (by decide) ?_
  refine r_ldcS_5 53 C dX5_nameOf_51 rfl ?_
  have e : wIx v = 5 := by
    unfold wIx
    rw [if_neg c0, if_neg c1, if_neg c2, if_neg c3, if_neg c4]
  exact r_qret C E rfl (by rw [e]; rfl) dX5_nameOf_53
section RWs4
variable {K : Ctx} {ad : Nat → Nat} {cc : ByteArray} {nL pc : Nat} {own : String} {ret : Option FieldType} {lv : List (Nat × Value)} {st : List Value} {σ : S2}
theorem r_sLen (n : Nat) (C : Cx K ad cc nL own ret) {fr lc index : Nat} (hR : Rm K fr lc) (hw : Cond.methodLink own index yJ0_length_8abf5 ∈ tblG) {w : Nat} (hw6 : w < 6) (hf : 1 + 1 ≤ fr) (hlo : 8 + (1 + 11) + 20 ≤ lc) (hcat : (st.map fun v => v.category).sum ≤ 8) (hd : decode cc pc = .ok (.invokevirtual index, 3)) (hn : pc + 3 = n) (k : RW K ad nL n lv (.int (sLen w) :: st) σ) : RW K ad nL pc lv (.ref (ad (70 + w)) :: st) σ := r_cT n [] hw6 C hR (c_slen ad w hw6 σ) q_J0_length_8abf5 hw rfl tw_572 tw_573 hf hlo rfl rfl hcat hd hn k
theorem r_sChar (n : Nat) (C : Cx K ad cc nL own ret) {fr lc index : Nat} (hR : Rm K fr lc) (hw : Cond.methodLink own index yJ0_charAt_5068e ∈ tblG) {w : Nat} (hw6 : w < 6) {i : Int32} (hi : inb i (lenS.getD w 0) = true) (hf : 3 + 1 ≤ fr) (hlo : 8 + (2 + 11) + 64 ≤ lc) (hcat : (st.map fun v => v.category).sum ≤ 8) (hd : decode cc pc = .ok (.invokevirtual index, 3)) (hn : pc + 3 = n) (k : RW K ad nL n lv (.int (chS w i.toNatClampNeg) :: st) σ) : RW K ad nL pc lv (.int i :: .ref (ad (70 + w)) :: st) σ := r_cT n [.int i] hw6 C hR (c_schar ad w hw6 i hi σ) q_J0_charAt_5068e hw rfl tw_582 tw_583 hf hlo rfl rfl hcat hd hn k
theorem r_nameOf (n : Nat) (C : Cx K ad cc nL own ret) {fr lc index : Nat} (hR : Rm K fr lc) (hw : Cond.methodLink own index yX5_nameOf ∈ tblG) {v : Int32} (hf : 0 + 1 ≤ fr) (hlo : 8 + (1 + 11) + 0 ≤ lc) (hcat : (st.map fun v => v.category).sum ≤ 8) (hd : decode cc pc = .ok (.invokestatic index, 3)) (hn : pc + 3 = n) (k : RW K ad nL n lv (.ref (ad (70 + wIx v)) :: st) σ) : RW K ad nL pc lv (.int v :: st) σ := by
  obtain ⟨p, l, e, R, s, m, args, below, meth, c, Q, D, cI, cP, A, cl, sl⟩ := K
  obtain ⟨hx, hb, hml, hown, hts, hr, hlk, hE, hcl, hsl⟩ := C
  subst hn
  intro H locs ls hP hS hl
  have ca := q_X5_nameOf
  refine va_callq (va_runS (As := [.int v]) (rest := st) ⟨hx, hb, hml, hown, hts⟩ (c_nameOf ad v σ l D cI cP A) ⟨callB_of 1 hts (gAll (fun w h => h) ca.1) rfl rfl rfl (hts _ ca.2.1) (hts _ hw) ca.2.2 ⟨Nat.le_trans hf hR.1, Nat.le_trans hlo hR.2⟩, hts _ tw_559⟩ ⟨PW.blind, fun U hU hW => ⟨rfl, hE.warm hS hU hW, by rw [hU]; exact hP⟩⟩ rfl rfl hl.1 rfl (lv_room hcat) hd ⟨hcl, hsl⟩) hS (fun q _ h => h) (fun q h => h) (fun r1 u t H1 locs1 ht hvm hw1 hB _ _ hS1 => ?_)
  obtain ⟨rfl, rfl⟩ := hw1
  exact k H1 locs1 ls (by rw [← ht]; exact hB) hS1 hl
end RWs4
