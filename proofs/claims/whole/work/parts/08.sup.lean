def FUEL : Nat := 1000
def jabs (x : Int32) : Int32 := if 0 ≤ x then x else 0 - x
def jmax (x y : Int32) : Int32 := if x < y then y else x
def jmin (x y : Int32) : Int32 := if y < x then y else x
theorem pr1 {α β : Type} {a c : α} {b d : β} (h : some (a, b) = some (c, d)) : a = c := congrArg Prod.fst (Option.some.inj h)
theorem pr2 {α β : Type} {a c : α} {b d : β} (h : some (a, b) = some (c, d)) : b = d := congrArg Prod.snd (Option.some.inj h)
theorem isB_fit {x : Int32} (h : isB x = true) : fits .boolean (.int x) = true := by
  unfold isB at h
  rw [Bool.or_eq_true, decide_eq_true_eq, decide_eq_true_eq] at h
  rcases h with rfl | rfl <;> rfl
theorem inb_lt {i : Int32} {n : Nat} (h : inb i n = true) : i.toNatClampNeg < n := by
  unfold inb at h
  rw [Bool.and_eq_true, decide_eq_true_eq, decide_eq_true_eq] at h
  exact h.2
theorem pt_10 {k : Nat} {i : Int32} (e : k = 10 + Int32.toNatClampNeg i) (h : inb i 3 = true) : 10 ≤ k ∧ k < 18 := by
  have := inb_lt h
  omega
theorem pt_13 {k : Nat} {i : Int32} (e : k = 13 + Int32.toNatClampNeg i) (h : inb i 3 = true) : 10 ≤ k ∧ k < 18 := by
  have := inb_lt h
  omega
theorem tsw_ne {x : Int32} {k : Int32} (h : ¬ x = k) : x.toInt ≠ k.toInt := fun e => h (Int32.toInt_inj.mp e)
theorem tsw_8 {x : Int32} (h0 : ¬ x = 0) (h1 : ¬ x = 1) (h2 : ¬ x = 2) (h3 : ¬ x = 3) (h4 : ¬ x = 4) (h5 : ¬ x = 5) (h6 : ¬ x = 6) (h7 : ¬ x = 7) : x.toInt < 0 ∨ 7 < x.toInt := by
  have e0 : x.toInt ≠ 0 := tsw_ne h0
  have e1 : x.toInt ≠ 1 := tsw_ne h1
  have e2 : x.toInt ≠ 2 := tsw_ne h2
  have e3 : x.toInt ≠ 3 := tsw_ne h3
  have e4 : x.toInt ≠ 4 := tsw_ne h4
  have e5 : x.toInt ≠ 5 := tsw_ne h5
  have e6 : x.toInt ≠ 6 := tsw_ne h6
  have e7 : x.toInt ≠ 7 := tsw_ne h7
  omega
theorem Met_ofWF {l : Launch} {y : MethodName} {ws ws' : List Cond} {rm : Room} {Pc : Array Value → State → Prop} {Qc : Array Value → State → Outcome → State → Prop} {mc ms : Nat} {free : Addr → Prop} {cc : ByteArray} {maxL : Nat} {ret : Option FieldType}
    (hy : plainFor y = true) (hw : ws = Cond.code y cc maxL ret :: ws')
    (body : ∀ p e s m args below meth c s₁, BodyLoose p l y (headSpec ws rm) cc maxL ret e s m args below meth c s₁ → c.maxLocals = maxL → Pc args s →
      W p l e (headSpec ws rm).room s m args below meth c s.heap [] 0 0 (MQ below Qc args s mc ms free) (entryFrame m args maxL)) : Met l y ws rm Pc Qc mc ms free := by
  refine MetFree.of_bodySF (code := cc) (maxLocals := maxL) (ret := ret) hy ?_ ?_
  · intro args s m h hn
    obtain ⟨meth, c, h1, h2, h3, h4, h5, h6, -, -⟩ := Cond.code_spec hn (atoms_spec (ws := ws) h _ (by rw [hw]; exact List.mem_cons_self))
    exact ⟨meth, c, h1, h2, h3, h4, h5, h6⟩
  · intro p e s m args below meth c s₁ B hml hP _
    have hh0 : s₁.heap = s.heap := by rw [B.state]; rfl
    obtain ⟨t, a1, o, b1, b2, b3⟩ := body p e s m args below meth c s₁ B hml hP s₁ hh0 (Stand.of_body B)
    exact ⟨t, o, a1, b1, b2, ⟨b3.1, b3.2⟩⟩
theorem HI_ofF {y : MethodName} {cc : ByteArray} {nL fr lc : Nat} {ret : Option FieldType} {ad : Nat → Nat} {av : List Value} {σ σ' : S2} {r : Int32} (hy : plainFor y = true) (hsl : (lg_sl av).length ≤ nL) (h : ∀ K : Ctx, Cx K ad cc nL y.cls ret → Rm K fr lc → EI K ad r σ' → RW K ad nL 0 (lv_args 0 av) [] σ) : HI y cc nL ret fr lc ad av σ r σ' := by
  intro l D cI cP A
  refine Met_ofWF (cc := cc) (maxL := nL) (ret := ret) hy rfl ?_
  intro p e s m args below meth c s₁ B hml hv
  obtain ⟨rfl, hE, hP⟩ := hv
  have hts := atoms_spec (ws := wsM y cc nL ret) B.pre
  have hown : s.vm.findClass y.cls = some m.cls := findClass_of_methodNamed B.named
  have hC : Cx (p, l, e, ({ frames := fr, cells := 0, slots := 0, locals := lc } : Room), s, m, av.toArray, below, meth, c, MQ below (QI D ad cI cP A r σ') av.toArray s 0 0 A, D, cI, cP, A, 0, 0) ad cc nL y.cls ret := ⟨B.exec, B.bytes, hml, hown, fun w hw => hts w (List.mem_cons_of_mem _ hw), B.returns, B.notSynchronized, hE, Nat.le_refl _, Nat.le_refl _⟩
  have hl := lv_entry av (n := nL) hsl
  rw [lg_entry_eq]
  exact h _ hC ⟨Nat.le_refl _, Nat.le_refl _⟩ rfl s.heap [] _ hP va_S.rf hl
section RWt
variable {K : Ctx} {ad : Nat → Nat} {cc : ByteArray} {nL pc : Nat} {own : String} {ret : Option FieldType} {lv : List (Nat × Value)} {st : List Value} {σ : S2}
theorem r_nmR {x y : Nat} (e : x = y) (k : RW K ad nL pc lv (.ref (ad x) :: st) σ) : RW K ad nL pc lv (.ref (ad y) :: st) σ := e ▸ k
theorem r_null (n : Nat) (C : Cx K ad cc nL own ret) (hd : decode cc pc = .ok (.aconst_null, 1)) (hn : pc + 1 = n) (k : RW K ad nL n lv (.null :: st) σ) : RW K ad nL pc lv st σ := by
  obtain ⟨p, l, e, R, s, m, args, below, meth, c, Q, D, cI, cP, A, cl, sl⟩ := K
  obtain ⟨hx, hb, hml, hown, hts, hr, hlk, hE, hcl, hsl⟩ := C
  subst hn
  exact fun H locs ls hP hS hl => lv_null hx hb hd (k H locs ls hP hS hl)
theorem r_aload_nN (n q : Nat) (C : Cx K ad cc nL own ret) {j : Fin 4} {i : Nat} (hd : decode cc pc = .ok (.aload_n j, 1)) (hi : (j : Nat) = i) (hq : lv[q]? = some (i, .null)) (hn : pc + 1 = n) (k : RW K ad nL n lv (.null :: st) σ) : RW K ad nL pc lv st σ := by
  obtain ⟨p, l, e, R, s, m, args, below, meth, c, Q, D, cI, cP, A, cl, sl⟩ := K
  obtain ⟨hx, hb, hml, hown, hts, hr, hlk, hE, hcl, hsl⟩ := C
  subst hn
  exact fun H locs ls hP hS hl => lv_aload_nN hx hb hd hi (lv_at hl q hq) (k H locs ls hP hS hl)
theorem r_aloadN (n q : Nat) (C : Cx K ad cc nL own ret) {i : Nat} (hd : decode cc pc = .ok (.aload i, 2)) (hq : lv[q]? = some (i, .null)) (hn : pc + 2 = n) (k : RW K ad nL n lv (.null :: st) σ) : RW K ad nL pc lv st σ := by
  obtain ⟨p, l, e, R, s, m, args, below, meth, c, Q, D, cI, cP, A, cl, sl⟩ := K
  obtain ⟨hx, hb, hml, hown, hts, hr, hlk, hE, hcl, hsl⟩ := C
  subst hn
  exact fun H locs ls hP hS hl => lv_aloadN hx hb hd (lv_at hl q hq) (k H locs ls hP hS hl)
theorem r_astore_nN (n : Nat) (lv' : List (Nat × Value)) (ks : List Nat) (C : Cx K ad cc nL own ret) {j : Fin 4} {i : Nat} (hd : decode cc pc = .ok (.astore_n j, 1)) (hi : (j : Nat) = i) (hi2 : i < nL) (hv : lv_pick ((i, Value.null) :: lv.filter (fun q => !(q.1 == i) && !(q.1 + 1 == i && q.2.category == 2))) ks = lv') (hn : pc + 1 = n) (k : RW K ad nL n lv' st σ) : RW K ad nL pc lv (.null :: st) σ := by
  obtain ⟨p, l, e, R, s, m, args, below, meth, c, Q, D, cI, cP, A, cl, sl⟩ := K
  obtain ⟨hx, hb, hml, hown, hts, hr, hlk, hE, hcl, hsl⟩ := C
  subst hn
  exact fun H locs ls hP hS hl => lv_astore_nN hx hb hd hi hl hi2 rfl (fun ls' hl' => k H locs ls' hP hS (lv_sub hl' ks hv))
theorem r_astoreN (n : Nat) (lv' : List (Nat × Value)) (ks : List Nat) (C : Cx K ad cc nL own ret) {i : Nat} (hd : decode cc pc = .ok (.astore i, 2)) (hi2 : i < nL) (hv : lv_pick ((i, Value.null) :: lv.filter (fun q => !(q.1 == i) && !(q.1 + 1 == i && q.2.category == 2))) ks = lv') (hn : pc + 2 = n) (k : RW K ad nL n lv' st σ) : RW K ad nL pc lv (.null :: st) σ := by
  obtain ⟨p, l, e, R, s, m, args, below, meth, c, Q, D, cI, cP, A, cl, sl⟩ := K
  obtain ⟨hx, hb, hml, hown, hts, hr, hlk, hE, hcl, hsl⟩ := C
  subst hn
  exact fun H locs ls hP hS hl => lv_astoreN hx hb hd hl hi2 rfl (fun ls' hl' => k H locs ls' hP hS (lv_sub hl' ks hv))
theorem r_aaload_6 (n : Nat) (C : Cx K ad cc nL own ret) {i : Int32} (hi : inb i 3 = true) (hd : decode cc pc = .ok (.aaload, 1)) (hn : pc + 1 = n) (k : RW K ad nL n lv (.ref (ad (10 + i.toNatClampNeg)) :: st) σ) : RW K ad nL pc lv (.int i :: .ref (ad 6) :: st) σ := by
  obtain ⟨p, l, e, R, s, m, args, below, meth, c, Q, D, cI, cP, A, cl, sl⟩ := K
  obtain ⟨hx, hb, hml, hown, hts, hr, hlk, hE, hcl, hsl⟩ := C
  subst hn
  exact fun H locs ls hP hS hl => va_aldq hx hb hE.1 hP 6 1 (wd_6 ad σ cI cP) rfl (inb_in hi) hd (k H locs ls hP hS hl)
theorem r_aaload_8 (n : Nat) (C : Cx K ad cc nL own ret) {i : Int32} (hi : inb i 3 = true) (hd : decode cc pc = .ok (.aaload, 1)) (hn : pc + 1 = n) (k : RW K ad nL n lv (.ref (ad (13 + i.toNatClampNeg)) :: st) σ) : RW K ad nL pc lv (.int i :: .ref (ad 8) :: st) σ := by
  obtain ⟨p, l, e, R, s, m, args, below, meth, c, Q, D, cI, cP, A, cl, sl⟩ := K
  obtain ⟨hx, hb, hml, hown, hts, hr, hlk, hE, hcl, hsl⟩ := C
  subst hn
  exact fun H locs ls hP hS hl => va_aldq hx hb hE.1 hP 8 1 (wd_8 ad σ cI cP) rfl (inb_in hi) hd (k H locs ls hP hS hl)
theorem r_tableIn {x : Int32} (tgt : Nat) (C : Cx K ad cc nL own ret) {dflt lo hi off : Int} {offs : Array Int} {len : Nat} (hd : decode cc pc = .ok (.tableswitch dflt lo hi offs, len)) (h1 : ¬ x.toInt < lo) (h2 : ¬ hi < x.toInt) (ho : offs[(x.toInt - lo).toNat]? = some off) (ht : (pc : Int) + off = (tgt : Int)) (k : RW K ad nL tgt lv st σ) : RW K ad nL pc lv (.int x :: st) σ := by
  obtain ⟨p, l, e, R, s, m, args, below, meth, c, Q, D, cI, cP, A, cl, sl⟩ := K
  obtain ⟨hx, hb, hml, hown, hts, hr, hlk, hE, hcl, hsl⟩ := C
  exact fun H locs ls hP hS hl => lv_tableIn hx hb hd h1 h2 ho ht (k H locs ls hP hS hl)
theorem r_tableOut {x : Int32} (tgt : Nat) (C : Cx K ad cc nL own ret) {dflt lo hi : Int} {offs : Array Int} {len : Nat} (hd : decode cc pc = .ok (.tableswitch dflt lo hi offs, len)) (h : x.toInt < lo ∨ hi < x.toInt) (ht : (pc : Int) + dflt = (tgt : Int)) (k : RW K ad nL tgt lv st σ) : RW K ad nL pc lv (.int x :: st) σ := by
  obtain ⟨p, l, e, R, s, m, args, below, meth, c, Q, D, cI, cP, A, cl, sl⟩ := K
  obtain ⟨hx, hb, hml, hown, hts, hr, hlk, hE, hcl, hsl⟩ := C
  exact fun H locs ls hP hS hl => lv_tableOut hx hb hd h ht (k H locs ls hP hS hl)
theorem r_gets_64 (n : Nat) (C : Cx K ad cc nL own ret) {index : Nat} (hw : Cond.fieldLink own index "NorthWheel$Script" "AT_FIRST" "[I" ∈ tblG) (hd : decode cc pc = .ok (.getstatic index, 3)) (hn : pc + 3 = n) (k : RW K ad nL n lv (.ref (ad 64) :: st) σ) : RW K ad nL pc lv st σ := by
  obtain ⟨p, l, e, R, s, m, args, below, meth, c, Q, D, cI, cP, A, cl, sl⟩ := K
  obtain ⟨hx, hb, hml, hown, hts, hr, hlk, hE, hcl, hsl⟩ := C
  subst hn
  exact fun H locs ls hP hS hl => va_gets hx hb hE.2.2.2.1 hS hown (hts _ hw) (fun _ h => h) hd (k H locs ls hP hS hl)
theorem r_gets_65 (n : Nat) (C : Cx K ad cc nL own ret) {index : Nat} (hw : Cond.fieldLink own index "NorthWheel$Script" "LEAST" "[I" ∈ tblG) (hd : decode cc pc = .ok (.getstatic index, 3)) (hn : pc + 3 = n) (k : RW K ad nL n lv (.ref (ad 65) :: st) σ) : RW K ad nL pc lv st σ := by
  obtain ⟨p, l, e, R, s, m, args, below, meth, c, Q, D, cI, cP, A, cl, sl⟩ := K
  obtain ⟨hx, hb, hml, hown, hts, hr, hlk, hE, hcl, hsl⟩ := C
  subst hn
  exact fun H locs ls hP hS hl => va_gets hx hb hE.2.2.2.2.2.1 hS hown (hts _ hw) (fun _ h => h) hd (k H locs ls hP hS hl)
theorem r_gets_66 (n : Nat) (C : Cx K ad cc nL own ret) {index : Nat} (hw : Cond.fieldLink own index "NorthWheel$Script" "GREATEST" "[I" ∈ tblG) (hd : decode cc pc = .ok (.getstatic index, 3)) (hn : pc + 3 = n) (k : RW K ad nL n lv (.ref (ad 66) :: st) σ) : RW K ad nL pc lv st σ := by
  obtain ⟨p, l, e, R, s, m, args, below, meth, c, Q, D, cI, cP, A, cl, sl⟩ := K
  obtain ⟨hx, hb, hml, hown, hts, hr, hlk, hE, hcl, hsl⟩ := C
  subst hn
  exact fun H locs ls hP hS hl => va_gets hx hb hE.2.2.2.2.2.2.2.1 hS hown (hts _ hw) (fun _ h => h) hd (k H locs ls hP hS hl)
theorem r_tiload_65 (n : Nat) (C : Cx K ad cc nL own ret) {i : Int32} (hi : inb i 6 = true) (hd : decode cc pc = .ok (.iaload, 1)) (hn : pc + 1 = n) (k : RW K ad nL n lv (.int (aL i.toNatClampNeg) :: st) σ) : RW K ad nL pc lv (.int i :: .ref (ad 65) :: st) σ := by
  obtain ⟨p, l, e, R, s, m, args, below, meth, c, Q, D, cI, cP, A, cl, sl⟩ := K
  obtain ⟨hx, hb, hml, hown, hts, hr, hlk, hE, hcl, hsl⟩ := C
  subst hn
  exact fun H locs ls hP hS hl => va_ti hx hb hE.2.2.2.2.2.2.1 hS (inb_in hi) rfl hd (k H locs ls hP hS hl)
theorem r_tiload_66 (n : Nat) (C : Cx K ad cc nL own ret) {i : Int32} (hi : inb i 6 = true) (hd : decode cc pc = .ok (.iaload, 1)) (hn : pc + 1 = n) (k : RW K ad nL n lv (.int (aG i.toNatClampNeg) :: st) σ) : RW K ad nL pc lv (.int i :: .ref (ad 66) :: st) σ := by
  obtain ⟨p, l, e, R, s, m, args, below, meth, c, Q, D, cI, cP, A, cl, sl⟩ := K
  obtain ⟨hx, hb, hml, hown, hts, hr, hlk, hE, hcl, hsl⟩ := C
  subst hn
  exact fun H locs ls hP hS hl => va_ti hx hb hE.2.2.2.2.2.2.2.2.1 hS (inb_in hi) rfl hd (k H locs ls hP hS hl)
theorem r_copy6 (n k0 k1 : Nat) (C : Cx K ad cc nL own ret) {fr lc index : Nat} (hR : Rm K fr lc) (hw : Cond.methodLink own index arraycopyName ∈ tblG) (he : ∀ cI cP : ClassId, (wd ad cI cP σ)[k0]? = some (ad k0, .inl (cI, 6, .inl (σ k0)))) (he1 : ∀ cI cP : ClassId, (wd ad cI cP σ)[k1]? = some (ad k1, .inl (cI, 6, .inl (σ k1)))) (hset : ∀ (f : Nat → Int32) (cI cP : ClassId), (wd ad cI cP σ).set k1 (ad k1, .inl (cI, 6, .inl f)) = wd ad cI cP (va_up σ k1 f)) (hf : 1 ≤ fr) (hlo : (st.map fun v => v.category).sum + (nativeFrameWords "java/lang/System" "arraycopy" 5 + 11) ≤ lc) (hd : decode cc pc = .ok (.invokestatic index, 3)) (hn : pc + 3 = n) (k : RW K ad nL n lv st (va_up σ k1 (va_cpy (σ k0) (σ k1) 0 0 6))) : RW K ad nL pc lv (.int 6 :: .int 0 :: .ref (ad k1) :: .int 0 :: .ref (ad k0) :: st) σ := by
  obtain ⟨p, l, e, R, s, m, args, below, meth, c, Q, D, cI, cP, A, cl, sl⟩ := K
  obtain ⟨hx, hb, hml, hown, hts, hr, hlk, hE, hcl, hsl⟩ := C
  subst hn
  exact fun H locs ls hP hS hl => va_copyi hx hb (hml.trans hl.1.symm) hown (hts _ hw) (hts _ tw_157) (hts _ tw_156) (hts _ tw_8) hE.1 hP (hE.2.2.1 σ) hS k0 k1 0 0 (he cI cP) (he1 cI cP) rfl rfl rfl (by decide) (by decide) (by decide) (by decide) (by decide) (fun i hi => rfl) (Nat.le_trans hf hR.1) (Nat.le_trans hlo hR.2) hd (fun H1 locs1 hP1 _ hS1 => k H1 locs1 ls (by rw [← hset]; exact hP1) hS1 hl)
theorem r_copyAF (n k1 : Nat) (C : Cx K ad cc nL own ret) {fr lc index : Nat} (hR : Rm K fr lc) (hw : Cond.methodLink own index arraycopyName ∈ tblG) (he1 : ∀ cI cP : ClassId, (wd ad cI cP σ)[k1]? = some (ad k1, .inl (cI, 6, .inl (σ k1)))) (hset : ∀ (f : Nat → Int32) (cI cP : ClassId), (wd ad cI cP σ).set k1 (ad k1, .inl (cI, 6, .inl f)) = wd ad cI cP (va_up σ k1 f)) (hf : 1 ≤ fr) (hlo : (st.map fun v => v.category).sum + (nativeFrameWords "java/lang/System" "arraycopy" 5 + 11) ≤ lc) (hd : decode cc pc = .ok (.invokestatic index, 3)) (hn : pc + 3 = n) (k : RW K ad nL n lv st (va_up σ k1 (va_cpy aF (σ k1) 0 0 6))) : RW K ad nL pc lv (.int 6 :: .int 0 :: .ref (ad k1) :: .int 0 :: .ref (ad 64) :: st) σ := by
  obtain ⟨p, l, e, R, s, m, args, below, meth, c, Q, D, cI, cP, A, cl, sl⟩ := K
  obtain ⟨hx, hb, hml, hown, hts, hr, hlk, hE, hcl, hsl⟩ := C
  subst hn
  obtain ⟨hX, hbl, hbA⟩ := hE.2.2.2.2.1
  exact fun H locs ls hP hS hl => va_copyx hx hb (hml.trans hl.1.symm) hown (hts _ hw) (hts _ tw_157) (hts _ tw_156) (hts _ tw_8) hE.1 hP (hE.2.2.1 σ) hS hX hbl hbA k1 0 (he1 cI cP) rfl (by decide) (by decide) (by decide) (by decide) (by decide) (Nat.le_trans hf hR.1) (Nat.le_trans hlo hR.2) hd (fun H1 locs1 hP1 _ hS1 => k H1 locs1 ls (by rw [← hset]; exact hP1) hS1 hl)
end RWt
theorem inX0 : ∀ w ∈ u_ws RX0 TX0 4, w ∈ tblG := List.forall_mem_cons.mpr ⟨tw_166, List.forall_mem_cons.mpr ⟨tw_168, List.forall_mem_cons.mpr ⟨tw_170, List.forall_mem_cons.mpr ⟨tw_172, fun _ h => absurd h List.not_mem_nil⟩⟩⟩⟩
theorem inX1 : ∀ w ∈ u_ws RX1 TX1 4, w ∈ tblG := List.forall_mem_cons.mpr ⟨tw_233, List.forall_mem_cons.mpr ⟨tw_235, List.forall_mem_cons.mpr ⟨tw_237, List.forall_mem_cons.mpr ⟨tw_239, fun _ h => absurd h List.not_mem_nil⟩⟩⟩⟩
theorem inX2 : ∀ w ∈ u_ws RX2 TX2 2, w ∈ tblG := List.forall_mem_cons.mpr ⟨tw_251, List.forall_mem_cons.mpr ⟨tw_253, fun _ h => absurd h List.not_mem_nil⟩⟩
theorem inX3 : ∀ w ∈ u_ws RX3 TX3 1, w ∈ tblG := List.forall_mem_cons.mpr ⟨tw_51, fun _ h => absurd h List.not_mem_nil⟩
theorem inX4 : ∀ w ∈ u_ws RX4 TX4 8, w ∈ tblG := List.forall_mem_cons.mpr ⟨tw_87, List.forall_mem_cons.mpr ⟨tw_89, List.forall_mem_cons.mpr ⟨tw_91, List.forall_mem_cons.mpr ⟨tw_93, List.forall_mem_cons.mpr ⟨tw_95, List.forall_mem_cons.mpr ⟨tw_97, List.forall_mem_cons.mpr ⟨tw_99, List.forall_mem_cons.mpr ⟨tw_101, fun _ h => absurd h List.not_mem_nil⟩⟩⟩⟩⟩⟩⟩⟩
theorem inX5 : ∀ w ∈ u_ws RX5 TX5 4, w ∈ tblG := List.forall_mem_cons.mpr ⟨tw_188, List.forall_mem_cons.mpr ⟨tw_190, List.forall_mem_cons.mpr ⟨tw_192, List.forall_mem_cons.mpr ⟨tw_194, fun _ h => absurd h List.not_mem_nil⟩⟩⟩⟩
theorem inX6 : ∀ w ∈ u_ws RX6 TX6 2, w ∈ tblG := List.forall_mem_cons.mpr ⟨tw_37, List.forall_mem_cons.mpr ⟨tw_39, fun _ h => absurd h List.not_mem_nil⟩⟩
theorem inX7 : ∀ w ∈ u_ws RX7 TX7 9, w ∈ tblG := List.forall_mem_cons.mpr ⟨tw_128, List.forall_mem_cons.mpr ⟨tw_130, List.forall_mem_cons.mpr ⟨tw_132, List.forall_mem_cons.mpr ⟨tw_134, List.forall_mem_cons.mpr ⟨tw_136, List.forall_mem_cons.mpr ⟨tw_138, List.forall_mem_cons.mpr ⟨tw_140, List.forall_mem_cons.mpr ⟨tw_142, List.forall_mem_cons.mpr ⟨tw_144, fun _ h => absurd h List.not_mem_nil⟩⟩⟩⟩⟩⟩⟩⟩⟩
theorem inX8 : ∀ w ∈ u_ws RX8 TX8 4, w ∈ tblG := List.forall_mem_cons.mpr ⟨tw_212, List.forall_mem_cons.mpr ⟨tw_214, List.forall_mem_cons.mpr ⟨tw_216, List.forall_mem_cons.mpr ⟨tw_218, fun _ h => absurd h List.not_mem_nil⟩⟩⟩⟩
theorem inX9 : ∀ w ∈ u_ws RX9 TX9 4, w ∈ tblG := List.forall_mem_cons.mpr ⟨tw_270, List.forall_mem_cons.mpr ⟨tw_272, List.forall_mem_cons.mpr ⟨tw_274, List.forall_mem_cons.mpr ⟨tw_276, fun _ h => absurd h List.not_mem_nil⟩⟩⟩⟩
theorem inX10 : ∀ w ∈ u_ws RX10 TX10 9, w ∈ tblG := List.forall_mem_cons.mpr ⟨tw_299, List.forall_mem_cons.mpr ⟨tw_301, List.forall_mem_cons.mpr ⟨tw_303, List.forall_mem_cons.mpr ⟨tw_305, List.forall_mem_cons.mpr ⟨tw_307, List.forall_mem_cons.mpr ⟨tw_309, List.forall_mem_cons.mpr ⟨tw_311, List.forall_mem_cons.mpr ⟨tw_313, List.forall_mem_cons.mpr ⟨tw_315, fun _ h => absurd h List.not_mem_nil⟩⟩⟩⟩⟩⟩⟩⟩⟩
theorem inX11 : ∀ w ∈ u_ws RX11 TX11 10, w ∈ tblG := List.forall_mem_cons.mpr ⟨tw_328, List.forall_mem_cons.mpr ⟨tw_330, List.forall_mem_cons.mpr ⟨tw_332, List.forall_mem_cons.mpr ⟨tw_334, List.forall_mem_cons.mpr ⟨tw_336, List.forall_mem_cons.mpr ⟨tw_338, List.forall_mem_cons.mpr ⟨tw_340, List.forall_mem_cons.mpr ⟨tw_342, List.forall_mem_cons.mpr ⟨tw_344, List.forall_mem_cons.mpr ⟨tw_346, fun _ h => absurd h List.not_mem_nil⟩⟩⟩⟩⟩⟩⟩⟩⟩⟩
theorem inX12 : ∀ w ∈ u_ws RX12 TX12 37, w ∈ tblG := List.forall_mem_cons.mpr ⟨tw_865, List.forall_mem_cons.mpr ⟨tw_867, List.forall_mem_cons.mpr ⟨tw_869, List.forall_mem_cons.mpr ⟨tw_871, List.forall_mem_cons.mpr ⟨tw_873, List.forall_mem_cons.mpr ⟨tw_875, List.forall_mem_cons.mpr ⟨tw_877, List.forall_mem_cons.mpr ⟨tw_879, List.forall_mem_cons.mpr ⟨tw_881, List.forall_mem_cons.mpr ⟨tw_883, List.forall_mem_cons.mpr ⟨tw_885, List.forall_mem_cons.mpr ⟨tw_887, List.forall_mem_cons.mpr ⟨tw_889, List.forall_mem_cons.mpr ⟨tw_891, List.forall_mem_cons.mpr ⟨tw_893, List.forall_mem_cons.mpr ⟨tw_895, List.forall_mem_cons.mpr ⟨tw_897, List.forall_mem_cons.mpr ⟨tw_899, List.forall_mem_cons.mpr ⟨tw_901, List.forall_mem_cons.mpr ⟨tw_903, List.forall_mem_cons.mpr ⟨tw_905, List.forall_mem_cons.mpr ⟨tw_907, List.forall_mem_cons.mpr ⟨tw_909, List.forall_mem_cons.mpr ⟨tw_911, List.forall_mem_cons.mpr ⟨tw_913, List.forall_mem_cons.mpr ⟨tw_915, List.forall_mem_cons.mpr ⟨tw_917, List.forall_mem_cons.mpr ⟨tw_919, List.forall_mem_cons.mpr ⟨tw_921, List.forall_mem_cons.mpr ⟨tw_923, List.forall_mem_cons.mpr ⟨tw_925, List.forall_mem_cons.mpr ⟨tw_927, List.forall_mem_cons.mpr ⟨tw_929, List.forall_mem_cons.mpr ⟨tw_931, List.forall_mem_cons.mpr ⟨tw_933, List.forall_mem_cons.mpr ⟨tw_935, List.forall_mem_cons.mpr ⟨tw_937, fun _ h => absurd h List.not_mem_nil⟩⟩⟩⟩⟩⟩⟩⟩⟩⟩⟩⟩⟩⟩⟩⟩⟩⟩⟩⟩⟩⟩⟩⟩⟩⟩⟩⟩⟩⟩⟩⟩⟩⟩⟩⟩⟩
theorem q_X11_set : Cal yX11_set cX11_set 4 (some .int) 2 := ⟨tw_352, tw_1, by decide +kernel⟩
theorem q_X11_head : Cal yX11_head cX11_head 3 (some .int) 1 := ⟨tw_365, tw_1, by decide +kernel⟩
theorem q_X11_sea : Cal yX11_sea cX11_sea 2 (some .int) 1 := ⟨tw_373, tw_1, by decide +kernel⟩
theorem q_X11_calm : Cal yX11_calm cX11_calm 2 (some .int) 0 := ⟨tw_384, tw_1, by decide +kernel⟩
theorem q_X11_kind : Cal yX11_kind cX11_kind 5 (some .int) 2 := ⟨tw_388, tw_1, by decide +kernel⟩
theorem q_X11_tune : Cal yX11_tune cX11_tune 5 (some .int) 3 := ⟨tw_401, tw_1, by decide +kernel⟩
theorem q_X11_off : Cal yX11_off cX11_off 4 (some .int) 2 := ⟨tw_409, tw_1, by decide +kernel⟩
theorem q_X11_told : Cal yX11_told cX11_told 5 (some .int) 3 := ⟨tw_416, tw_1, by decide +kernel⟩
theorem q_X11_iron : Cal yX11_iron cX11_iron 3 (some .int) 2 := ⟨tw_420, tw_1, by decide +kernel⟩
theorem q_X11_shows : Cal yX11_shows cX11_shows 3 (some .int) 1 := ⟨tw_427, tw_1, by decide +kernel⟩
theorem q_X11_now : Cal yX11_now cX11_now 4 (some .int) 2 := ⟨tw_459, tw_1, by decide +kernel⟩
theorem q_X11_lean : Cal yX11_lean cX11_lean 4 (some .int) 3 := ⟨tw_464, tw_1, by decide +kernel⟩
theorem q_X11_deviation : Cal yX11_deviation cX11_deviation 2 (some .int) 1 := ⟨tw_470, tw_1, by decide +kernel⟩
theorem q_X11_run : Cal yX11_run cX11_run 4 (some .int) 2 := ⟨tw_475, tw_1, by decide +kernel⟩
theorem q_X11_write : Cal yX11_write cX11_write 4 (some .int) 2 := ⟨tw_520, tw_1, by decide +kernel⟩
theorem q_X11_erase : Cal yX11_erase cX11_erase 2 (some .int) 0 := ⟨tw_529, tw_1, by decide +kernel⟩
theorem q_X11_fault : Cal yX11_fault cX11_fault 1 (some .int) 0 := ⟨tw_533, tw_1, by decide +kernel⟩
theorem q_X11_steerer : Cal yX11_steerer cX11_steerer 1 (some .int) 0 := ⟨tw_632, tw_1, by decide +kernel⟩
theorem q_X11_steers : Cal yX11_steers cX11_steers 2 (some .int) 1 := ⟨tw_640, tw_1, by decide +kernel⟩
theorem q_X11_course : Cal yX11_course cX11_course 3 (some .int) 1 := ⟨tw_644, tw_1, by decide +kernel⟩
theorem q_X11_swing : Cal yX11_swing cX11_swing 6 (some .int) 4 := ⟨tw_652, tw_1, by decide +kernel⟩
theorem q_X11_noUse : Cal yX11_noUse cX11_noUse 3 (some .int) 1 := ⟨tw_675, tw_1, by decide +kernel⟩
theorem q_X11_turned : Cal yX11_turned cX11_turned 6 (some .int) 4 := ⟨tw_685, tw_1, by decide +kernel⟩
theorem q_X11_bestPull : Cal yX11_bestPull cX11_bestPull 6 (some .int) 4 := ⟨tw_700, tw_1, by decide +kernel⟩
theorem q_X11_kept : Cal yX11_kept cX11_kept 4 (some .int) 3 := ⟨tw_709, tw_1, by decide +kernel⟩
theorem q_X11_bestDead : Cal yX11_bestDead cX11_bestDead 6 (some .int) 2 := ⟨tw_738, tw_1, by decide +kernel⟩
theorem q_X11_look : Cal yX11_look cX11_look 4 (some .int) 3 := ⟨tw_742, tw_1, by decide +kernel⟩
theorem q_X11_wrong : Cal yX11_wrong cX11_wrong 3 (some .int) 2 := ⟨tw_750, tw_1, by decide +kernel⟩
theorem q_X11_about : Cal yX11_about cX11_about 3 (some .int) 2 := ⟨tw_767, tw_1, by decide +kernel⟩
theorem q_X11_needle : Cal yX11_needle cX11_needle 3 (some .int) 2 := ⟨tw_779, tw_1, by decide +kernel⟩
theorem q_X11_watch : Cal yX11_watch cX11_watch 3 (some .int) 2 := ⟨tw_783, tw_1, by decide +kernel⟩
theorem q_X11_may : Cal yX11_may cX11_may 3 (some .int) 2 := ⟨tw_791, tw_1, by decide +kernel⟩
theorem q_X11_count : Cal yX11_count cX11_count 2 (some .int) 1 := ⟨tw_821, tw_1, by decide +kernel⟩
theorem q_X11_isWithin : Cal yX11_isWithin cX11_isWithin 3 (some .boolean) 3 := ⟨tw_358, tw_1, by decide +kernel⟩
theorem q_X11_isHeading : Cal yX11_isHeading cX11_isHeading 1 (some .boolean) 1 := ⟨tw_368, tw_1, by decide +kernel⟩
theorem q_X11_isOff : Cal yX11_isOff cX11_isOff 1 (some .boolean) 1 := ⟨tw_412, tw_1, by decide +kernel⟩
theorem q_X11_isPlace : Cal yX11_isPlace cX11_isPlace 1 (some .boolean) 1 := ⟨tw_355, tw_1, by decide +kernel⟩
theorem q_X11_isSpeed : Cal yX11_isSpeed cX11_isSpeed 1 (some .boolean) 1 := ⟨tw_361, tw_1, by decide +kernel⟩
theorem q_X11_isTurn : Cal yX11_isTurn cX11_isTurn 1 (some .boolean) 1 := ⟨tw_376, tw_1, by decide +kernel⟩
theorem q_X11_isEighth : Cal yX11_isEighth cX11_isEighth 1 (some .boolean) 1 := ⟨tw_423, tw_1, by decide +kernel⟩
theorem q_X11_isTrial : Cal yX11_isTrial cX11_isTrial 1 (some .boolean) 1 := ⟨tw_691, tw_1, by decide +kernel⟩
theorem q_X11_isQuickTurn : Cal yX11_isQuickTurn cX11_isQuickTurn 3 (some .boolean) 3 := ⟨tw_688, tw_1, by decide +kernel⟩
theorem q_X11_asHeading : Cal yX11_asHeading cX11_asHeading 1 (some .int) 1 := ⟨tw_441, tw_1, by decide +kernel⟩
theorem q_X11_asOff : Cal yX11_asOff cX11_asOff 1 (some .int) 1 := ⟨tw_484, tw_1, by decide +kernel⟩
theorem q_X11_apart : Cal yX11_apart cX11_apart 2 (some .int) 2 := ⟨tw_732, tw_1, by decide +kernel⟩
theorem q_X11_bounded : Cal yX11_bounded cX11_bounded 2 (some .int) 2 := ⟨tw_492, tw_1, by decide +kernel⟩
theorem q_X11_holdOf : Cal yX11_holdOf cX11_holdOf 1 (some .int) 1 := ⟨tw_449, tw_1, by decide +kernel⟩
theorem q_X11_leanOf : Cal yX11_leanOf cX11_leanOf 5 (some .int) 3 := ⟨tw_446, tw_1, by decide +kernel⟩
theorem q_X12_in : Cal yX12_in cX12_in 6 (some .boolean) 3 := ⟨tw_947, tw_14, by decide +kernel⟩
theorem q_X12_isPointer : Cal yX12_isPointer cX12_isPointer 1 (some .boolean) 1 := ⟨tw_978, tw_14, by decide +kernel⟩
theorem q_X12_round : Cal yX12_round cX12_round 2 (some .int) 1 := ⟨tw_1021, tw_14, by decide +kernel⟩
theorem q_X12_wrapped : Cal yX12_wrapped cX12_wrapped 2 (some .int) 1 := ⟨tw_1061, tw_14, by decide +kernel⟩
theorem q_X12_size : Cal yX12_size cX12_size 1 (some .int) 1 := ⟨tw_1035, tw_14, by decide +kernel⟩
theorem q_X12_held : Cal yX12_held cX12_held 2 (some .int) 2 := ⟨tw_1064, tw_14, by decide +kernel⟩
theorem q_X12_holdOf : Cal yX12_holdOf cX12_holdOf 1 (some .int) 1 := ⟨tw_1032, tw_14, by decide +kernel⟩
theorem q_X12_set : Cal yX12_set cX12_set 4 (some .int) 2 := ⟨tw_943, tw_14, by decide +kernel⟩
theorem q_X12_isHeading : Cal yX12_isHeading cX12_isHeading 1 (some .boolean) 1 := ⟨tw_960, tw_14, by decide +kernel⟩
theorem q_X12_head : Cal yX12_head cX12_head 3 (some .int) 1 := ⟨tw_957, tw_14, by decide +kernel⟩
theorem q_X12_sea : Cal yX12_sea cX12_sea 2 (some .int) 1 := ⟨tw_965, tw_14, by decide +kernel⟩
theorem q_X12_calm : Cal yX12_calm cX12_calm 2 (some .int) 0 := ⟨tw_971, tw_14, by decide +kernel⟩
theorem q_X12_kind : Cal yX12_kind cX12_kind 4 (some .int) 2 := ⟨tw_975, tw_14, by decide +kernel⟩
theorem q_X12_tune : Cal yX12_tune cX12_tune 5 (some .int) 3 := ⟨tw_984, tw_14, by decide +kernel⟩
theorem q_X12_isOff : Cal yX12_isOff cX12_isOff 1 (some .boolean) 1 := ⟨tw_991, tw_14, by decide +kernel⟩
theorem q_X12_off : Cal yX12_off cX12_off 3 (some .int) 2 := ⟨tw_988, tw_14, by decide +kernel⟩
theorem q_X12_isSpeed : Cal yX12_isSpeed cX12_isSpeed 1 (some .boolean) 1 := ⟨tw_1000, tw_14, by decide +kernel⟩
theorem q_X12_isPlace : Cal yX12_isPlace cX12_isPlace 1 (some .boolean) 1 := ⟨tw_1003, tw_14, by decide +kernel⟩
theorem q_X12_told : Cal yX12_told cX12_told 4 (some .int) 3 := ⟨tw_997, tw_14, by decide +kernel⟩
theorem q_X12_iron : Cal yX12_iron cX12_iron 3 (some .int) 2 := ⟨tw_1007, tw_14, by decide +kernel⟩
theorem q_X12_leanOf : Cal yX12_leanOf cX12_leanOf 4 (some .int) 3 := ⟨tw_1029, tw_14, by decide +kernel⟩
theorem q_X12_ironAt : Cal yX12_ironAt cX12_ironAt 3 (some .int) 1 := ⟨tw_1026, tw_14, by decide +kernel⟩
theorem q_X12_showsOf : Cal yX12_showsOf cX12_showsOf 5 (some .int) 2 := ⟨tw_1018, tw_14, by decide +kernel⟩
theorem q_X12_shows : Cal yX12_shows cX12_shows 2 (some .int) 1 := ⟨tw_1014, tw_14, by decide +kernel⟩
theorem q_X12_now : Cal yX12_now cX12_now 3 (some .int) 2 := ⟨tw_1039, tw_14, by decide +kernel⟩
theorem q_X12_lean : Cal yX12_lean cX12_lean 4 (some .int) 3 := ⟨tw_1044, tw_14, by decide +kernel⟩
theorem q_X12_deviation : Cal yX12_deviation cX12_deviation 2 (some .int) 1 := ⟨tw_1049, tw_14, by decide +kernel⟩
theorem q_X12_pulled : Cal yX12_pulled cX12_pulled 4 (some .int) 4 := ⟨tw_1071, tw_14, by decide +kernel⟩
theorem q_X12_damped : Cal yX12_damped cX12_damped 2 (some .int) 2 := ⟨tw_1074, tw_14, by decide +kernel⟩
theorem q_X12_kicked : Cal yX12_kicked cX12_kicked 3 (some .int) 3 := ⟨tw_1077, tw_14, by decide +kernel⟩
theorem q_X12_tick : Cal yX12_tick cX12_tick 9 none 1 := ⟨tw_1068, tw_14, by decide +kernel⟩
theorem q_X12_steer : Cal yX12_steer cX12_steer 6 none 2 := ⟨tw_1058, tw_14, by decide +kernel⟩
theorem q_X12_run : Cal yX12_run cX12_run 4 (some .int) 2 := ⟨tw_1053, tw_14, by decide +kernel⟩
theorem q_X12_write : Cal yX12_write cX12_write 5 (some .int) 2 := ⟨tw_1081, tw_14, by decide +kernel⟩
theorem q_X12_erase : Cal yX12_erase cX12_erase 2 (some .int) 0 := ⟨tw_1087, tw_14, by decide +kernel⟩
theorem q_X12_sort : Cal yX12_sort cX12_sort 1 (some .int) 1 := ⟨tw_1098, tw_14, by decide +kernel⟩
theorem q_X12_token : Cal yX12_token cX12_token 1 none 0 := ⟨tw_1095, tw_14, by decide +kernel⟩
theorem q_X12_isWord : Cal yX12_isWord cX12_isWord 5 (some .boolean) 2 := ⟨tw_1107, tw_14, by decide +kernel⟩
theorem q_X12_readsLine : Cal yX12_readsLine cX12_readsLine 4 (some .boolean) 0 := ⟨tw_1102, tw_14, by decide +kernel⟩
theorem q_X12_fault : Cal yX12_fault cX12_fault 2 (some .int) 0 := ⟨tw_1091, tw_14, by decide +kernel⟩
theorem q_X12_steerer : Cal yX12_steerer cX12_steerer 2 (some .int) 0 := ⟨tw_1115, tw_14, by decide +kernel⟩
theorem q_X12_steers : Cal yX12_steers cX12_steers 2 (some .int) 1 := ⟨tw_1120, tw_14, by decide +kernel⟩
theorem q_X12_course : Cal yX12_course cX12_course 3 (some .int) 1 := ⟨tw_1124, tw_14, by decide +kernel⟩
theorem q_X12_laySwing : Cal yX12_laySwing cX12_laySwing 9 none 6 := ⟨tw_1134, tw_14, by decide +kernel⟩
theorem q_X12_crosses : Cal yX12_crosses cX12_crosses 2 (some .int) 0 := ⟨tw_1142, tw_14, by decide +kernel⟩
theorem q_X12_rests : Cal yX12_rests cX12_rests 2 (some .int) 0 := ⟨tw_1138, tw_14, by decide +kernel⟩
theorem q_X12_swing : Cal yX12_swing cX12_swing 8 (some .int) 4 := ⟨tw_1128, tw_14, by decide +kernel⟩
theorem q_X12_noUse : Cal yX12_noUse cX12_noUse 3 (some .int) 1 := ⟨tw_1146, tw_14, by decide +kernel⟩
theorem q_X12_turnedOf : Cal yX12_turnedOf cX12_turnedOf 10 (some .int) 5 := ⟨tw_1158, tw_14, by decide +kernel⟩
theorem q_X12_isTurn : Cal yX12_isTurn cX12_isTurn 3 (some .boolean) 3 := ⟨tw_1153, tw_14, by decide +kernel⟩
theorem q_X12_turned : Cal yX12_turned cX12_turned 5 (some .int) 4 := ⟨tw_1150, tw_14, by decide +kernel⟩
theorem q_X12_bestPull : Cal yX12_bestPull cX12_bestPull 7 (some .int) 4 := ⟨tw_1162, tw_14, by decide +kernel⟩
theorem q_X12_keep : Cal yX12_keep cX12_keep 5 none 2 := ⟨tw_1170, tw_14, by decide +kernel⟩
theorem q_X12_kept : Cal yX12_kept cX12_kept 4 (some .int) 3 := ⟨tw_1166, tw_14, by decide +kernel⟩
theorem q_X12_bestDead : Cal yX12_bestDead cX12_bestDead 7 (some .int) 2 := ⟨tw_1174, tw_14, by decide +kernel⟩
theorem q_X12_look : Cal yX12_look cX12_look 4 (some .int) 3 := ⟨tw_1180, tw_14, by decide +kernel⟩
theorem q_X12_isWrong : Cal yX12_isWrong cX12_isWrong 7 (some .boolean) 3 := ⟨tw_1188, tw_14, by decide +kernel⟩
theorem q_X12_wrong : Cal yX12_wrong cX12_wrong 7 (some .int) 2 := ⟨tw_1184, tw_14, by decide +kernel⟩
theorem q_X12_about : Cal yX12_about cX12_about 3 (some .int) 2 := ⟨tw_1192, tw_14, by decide +kernel⟩
theorem q_X12_needle : Cal yX12_needle cX12_needle 7 (some .int) 2 := ⟨tw_1196, tw_14, by decide +kernel⟩
theorem q_X12_watch : Cal yX12_watch cX12_watch 3 (some .int) 2 := ⟨tw_1200, tw_14, by decide +kernel⟩
theorem q_X12_mayBe : Cal yX12_mayBe cX12_mayBe 6 (some .boolean) 3 := ⟨tw_1209, tw_14, by decide +kernel⟩
theorem q_X12_may : Cal yX12_may cX12_may 7 (some .int) 2 := ⟨tw_1205, tw_14, by decide +kernel⟩
theorem q_X12_count : Cal yX12_count cX12_count 2 (some .int) 1 := ⟨tw_1213, tw_14, by decide +kernel⟩
theorem q_X0_copyFrom : Cal yX0_copyFrom cX0_copyFrom 2 none 1 := ⟨tw_722, tw_6, by decide +kernel⟩
theorem q_X0_become : Cal yX0_become cX0_become 2 none 1 := ⟨tw_636, tw_6, by decide +kernel⟩
theorem q_X0_steerFor : Cal yX0_steerFor cX0_steerFor 2 none 1 := ⟨tw_648, tw_6, by decide +kernel⟩
theorem q_X0_steerShip : Cal yX0_steerShip cX0_steerShip 7 none 1 := ⟨tw_479, tw_6, by decide +kernel⟩
theorem q_X0_answerTo : Cal yX0_answerTo cX0_answerTo 3 (some .int) 2 := ⟨tw_489, tw_6, by decide +kernel⟩
theorem q_X1_keep : Cal yX1_keep cX1_keep 6 none 4 := ⟨tw_713, tw_10, by decide +kernel⟩
theorem q_X2_add : Cal yX2_add cX2_add 5 (some .int) 3 := ⟨tw_746, tw_11, by decide +kernel⟩
theorem q_X2_wrongInEach : Cal yX2_wrongInEach cX2_wrongInEach 4 (some .int) 1 := ⟨tw_754, tw_11, by decide +kernel⟩
theorem q_X2_wrongInSome : Cal yX2_wrongInSome cX2_wrongInSome 4 (some .int) 1 := ⟨tw_763, tw_11, by decide +kernel⟩
theorem q_X2_wrongIn : Cal yX2_wrongIn cX2_wrongIn 7 (some .int) 2 := ⟨tw_758, tw_11, by decide +kernel⟩
theorem q_X3_deviationAt : Cal yX3_deviationAt cX3_deviationAt 5 (some .int) 1 := ⟨tw_435, tw_3, by decide +kernel⟩
theorem q_X4_copyFrom : Cal yX4_copyFrom cX4_copyFrom 2 none 1 := ⟨tw_660, tw_5, by decide +kernel⟩
theorem q_X4_retune : Cal yX4_retune cX4_retune 4 (some .int) 2 := ⟨tw_405, tw_5, by decide +kernel⟩
theorem q_X4_layAt : Cal yX4_layAt cX4_layAt 2 none 1 := ⟨tw_397, tw_5, by decide +kernel⟩
theorem q_X4_shownAt : Cal yX4_shownAt cX4_shownAt 4 (some .int) 2 := ⟨tw_431, tw_5, by decide +kernel⟩
theorem q_X4_tickIn : Cal yX4_tickIn cX4_tickIn 4 none 2 := ⟨tw_509, tw_5, by decide +kernel⟩
theorem q_X4_sway : Cal yX4_sway cX4_sway 5 none 4 := ⟨tw_515, tw_5, by decide +kernel⟩
theorem q_X5_append : Cal yX5_append cX5_append 5 (some .int) 2 := ⟨tw_524, tw_7, by decide +kernel⟩
theorem q_X5_read : Cal yX5_read cX5_read 7 (some .int) 0 := ⟨tw_537, tw_7, by decide +kernel⟩
theorem q_X5_behindBlanks : Cal yX5_behindBlanks cX5_behindBlanks 3 (some .int) 1 := ⟨tw_543, tw_7, by decide +kernel⟩
theorem q_X5_tokenEnd : Cal yX5_tokenEnd cX5_tokenEnd 5 (some .int) 1 := ⟨tw_551, tw_7, by decide +kernel⟩
theorem q_X5_wordAt : Cal yX5_wordAt cX5_wordAt 4 (some .int) 1 := ⟨tw_547, tw_7, by decide +kernel⟩
theorem q_X5_isSpelt : Cal yX5_isSpelt cX5_isSpelt 5 (some .boolean) 3 := ⟨tw_570, tw_7, by decide +kernel⟩
theorem q_X5_numberAt : Cal yX5_numberAt cX5_numberAt 5 (some .int) 1 := ⟨tw_622, tw_7, by decide +kernel⟩
theorem q_X5_nameOf : Cal yX5_nameOf cX5_nameOf 1 (some (.object "java/lang/String")) 1 := ⟨tw_560, tw_7, by decide +kernel⟩
theorem q_X5_isLetter : Cal yX5_isLetter cX5_isLetter 1 (some .boolean) 1 := ⟨tw_554, tw_7, by decide +kernel⟩
theorem q_X5_isDigit : Cal yX5_isDigit cX5_isDigit 1 (some .boolean) 1 := ⟨tw_557, tw_7, by decide +kernel⟩
theorem q_X6_add : Cal yX6_add cX6_add 2 (some .int) 1 := ⟨tw_380, tw_2, by decide +kernel⟩
theorem q_X6_yawOf : Cal yX6_yawOf cX6_yawOf 2 (some .int) 1 := ⟨tw_503, tw_2, by decide +kernel⟩
theorem q_X7_copyFrom : Cal yX7_copyFrom cX7_copyFrom 3 none 1 := ⟨tw_717, tw_4, by decide +kernel⟩
theorem q_X7_stopAllBut : Cal yX7_stopAllBut cX7_stopAllBut 3 none 1 := ⟨tw_726, tw_4, by decide +kernel⟩
theorem q_X7_pointerAt : Cal yX7_pointerAt cX7_pointerAt 2 (some (.object "NorthWheel$Pointer")) 1 := ⟨tw_392, tw_4, by decide +kernel⟩
theorem q_X7_tick : Cal yX7_tick cX7_tick 3 none 0 := ⟨tw_499, tw_4, by decide +kernel⟩
theorem q_X8_letSwing : Cal yX8_letSwing cX8_letSwing 6 none 4 := ⟨tw_656, tw_9, by decide +kernel⟩
theorem q_X8_noteRest : Cal yX8_noteRest cX8_noteRest 2 none 1 := ⟨tw_665, tw_9, by decide +kernel⟩
theorem q_X8_noteCrossing : Cal yX8_noteCrossing cX8_noteCrossing 3 none 2 := ⟨tw_671, tw_9, by decide +kernel⟩
theorem q_X8_firstPlaceWithoutRest : Cal yX8_firstPlaceWithoutRest cX8_firstPlaceWithoutRest 3 (some .int) 1 := ⟨tw_679, tw_9, by decide +kernel⟩
theorem q_X8_disturbed : Cal yX8_disturbed cX8_disturbed 9 (some .int) 6 := ⟨tw_695, tw_9, by decide +kernel⟩
theorem q_X8_calmestPull : Cal yX8_calmestPull cX8_calmestPull 10 (some .int) 5 := ⟨tw_704, tw_9, by decide +kernel⟩
theorem q_X9_add : Cal yX9_add cX9_add 5 (some .int) 2 := ⟨tw_771, tw_12, by decide +kernel⟩
theorem q_X10_add : Cal yX10_add cX10_add 3 (some .int) 2 := ⟨tw_787, tw_13, by decide +kernel⟩
theorem q_X10_findThoseThatFit : Cal yX10_findThoseThatFit cX10_findThoseThatFit 4 none 1 := ⟨tw_795, tw_13, by decide +kernel⟩
theorem q_X10_follow : Cal yX10_follow cX10_follow 4 none 2 := ⟨tw_799, tw_13, by decide +kernel⟩
theorem q_X10_fits : Cal yX10_fits cX10_fits 3 (some .boolean) 1 := ⟨tw_806, tw_13, by decide +kernel⟩
theorem q_X10_widen : Cal yX10_widen cX10_widen 2 none 0 := ⟨tw_811, tw_13, by decide +kernel⟩
theorem q_X10_widestTick : Cal yX10_widestTick cX10_widestTick 3 (some .int) 0 := ⟨tw_817, tw_13, by decide +kernel⟩
theorem q_J9_floorMod_7cf53 : Cal yJ9_floorMod_7cf53 cJ9_floorMod_7cf53 3 (some .int) 2 := ⟨tw_438, tw_15, by decide +kernel⟩
theorem q_J0_charAt_5068e : Cal yJ0_charAt_5068e cJ0_charAt_5068e 2 (some .char) 1 := ⟨tw_584, tw_16, by decide +kernel⟩
theorem q_J0_checkIndex_df160 : Cal yJ0_checkIndex_df160 cJ0_checkIndex_df160 2 none 2 := ⟨tw_594, tw_16, by decide +kernel⟩
theorem q_J0_coder_7d493 : Cal yJ0_coder_7d493 cJ0_coder_7d493 1 (some .byte) 0 := ⟨tw_578, tw_16, by decide +kernel⟩
theorem q_J0_isLatin1_aae02 : Cal yJ0_isLatin1_aae02 cJ0_isLatin1_aae02 1 (some .boolean) 0 := ⟨tw_588, tw_16, by decide +kernel⟩
theorem q_J0_length_8abf5 : Cal yJ0_length_8abf5 cJ0_length_8abf5 1 (some .int) 0 := ⟨tw_574, tw_16, by decide +kernel⟩
theorem q_J1_charAt_3b067 : Cal yJ1_charAt_3b067 cJ1_charAt_3b067 2 (some .char) 2 := ⟨tw_591, tw_17, by decide +kernel⟩
theorem q_J2_charAt_3b067 : Cal yJ2_charAt_3b067 cJ2_charAt_3b067 2 (some .char) 2 := ⟨tw_602, tw_19, by decide +kernel⟩
theorem q_J2_checkIndex_2214a : Cal yJ2_checkIndex_2214a cJ2_checkIndex_2214a 2 none 2 := ⟨tw_605, tw_19, by decide +kernel⟩
theorem q_J2_getChar_3b067 : Cal yJ2_getChar_3b067 cJ2_getChar_3b067 2 (some .char) 2 := ⟨tw_612, tw_19, by decide +kernel⟩
theorem q_J2_length_9d52b : Cal yJ2_length_9d52b cJ2_length_9d52b 1 (some .int) 1 := ⟨tw_608, tw_19, by decide +kernel⟩
