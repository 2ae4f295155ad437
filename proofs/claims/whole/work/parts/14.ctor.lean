def EvC (D : va_G) (ad : Nat → Nat) (cI cP : ClassId) (A : Nat → Prop) (U : State) : Prop :=
  va_K D vwCl [(cI, .int), (cP, .object "NorthWheel$Pointer")] U ∧ (∀ w ∈ tblN, va_Nw w U) ∧ va_AO "NorthWheel$Pointer" U ∧ St ad A U
theorem EvC.warm {D : va_G} {ad : Nat → Nat} {cI cP : ClassId} {A : Nat → Prop} {s U : State} {H : Heap} {locs : List Loc} (h : EvC D ad cI cP A s) (hS : va_S A s.heap H locs) (hU : U.heap = H) (hW : s.WarmedH U.vm) : EvC D ad cI cP A U :=
  ⟨va_K.moved hW.alike h.1, fun w hw => nest_warm (List.mem_filter.mp hw).2 hW (h.2.1 w hw), va_AO.moved hW.alike h.2.2.1, h.2.2.2.warm hS hU hW⟩
theorem EvC.blind {D : va_G} {ad : Nat → Nat} {cI cP : ClassId} {A : Nat → Prop} {U : State} (g : JFrame) (mk : MethodId) (a : Array Value) (h : EvC D ad cI cP A U) : EvC D ad cI cP A (U.calling g mk a) :=
  ⟨va_K.moved (u := U) (U := U.calling g mk a) (Vm.Alike.refl U.vm) h.1, fun w hw => va_Nw.same (u := U) (U := U.calling g mk a) (nest_on (List.mem_filter.mp hw).2) rfl (h.2.1 w hw), va_AO.moved (u := U) (U := U.calling g mk a) (Vm.Alike.refl U.vm) h.2.2.1, h.2.2.2.blind g mk a⟩
def CxL (K : Ctx) (ad : Nat → Nat) (cI cP : ClassId) (cc : ByteArray) (nL : Nat) (own : String) : Prop := match K with
  | (p, _, _, _, s, m, args, _, meth, c, _, D, _, _, A, _, _) => p.tables.exec = Jvm.exec ∧ c.code = cc ∧ c.maxLocals = nL ∧ s.vm.findClass own = some m.cls ∧ (∀ w ∈ tblG, w.before args s = true) ∧ meth.locks = false ∧ EvC D ad cI cP A s ∧ (∀ q, s.heap.size ≤ q → A q)
def RmC (K : Ctx) (fr lc nc ns : Nat) : Prop := match K with
  | (_, _, _, R, _, _, _, _, _, _, _, _, _, _, _, _, _) => fr ≤ R.frames ∧ lc ≤ R.locals ∧ nc ≤ R.cells ∧ ns ≤ R.slots
def IsInit (K : Ctx) : Prop := match K with
  | (_, _, _, _, _, _, _, _, meth, _, _, _, _, _, _, _, _) => meth.name = "<init>" ∧ meth.sig.returnType = none
def RZ (K : Ctx) (nL pc : Nat) (lv : List (Nat × Value)) (st : List Value) (ws : va_W) (cl sl : Nat) : Prop := match K with
  | (p, l, e, R, s, m, args, below, meth, c, Q, D, _, _, A, _, _) => ∀ (H : Heap) (locs : List Loc) (ls : Array Slot), va_P D vwCl ws H → va_D A ws → va_S A s.heap H locs → lv_has ls nL lv → W p l e R s m args below meth c H locs cl sl Q (F0 m pc ls st)
def PC (D : va_G) (ad : Nat → Nat) (cI cP : ClassId) (A : Nat → Prop) (av : List Value) (ws : va_W) : Array Value → State → Prop := va_Pc av (fun U => EvC D ad cI cP A U ∧ (∀ q, U.heap.size ≤ q → A q) ∧ va_P D vwCl ws U.heap ∧ va_D A ws)
def QC (D : va_G) (A : Nat → Prop) (P : va_W → Prop) : Array Value → State → Outcome → State → Prop := va_Qv (fun u : va_W => P u) (fun u t => va_P D vwCl u t.heap ∧ va_D A u) A
def EC (K : Ctx) (P : va_W → Prop) (nc ns : Nat) : Prop := match K with
  | (_, _, _, _, s, _, args, below, _, _, Q, D, _, _, A, _, _) => Q = MQ below (QC D A P) args s nc ns A
def HC (y : MethodName) (cc : ByteArray) (nL fr lc nc ns : Nat) (ad : Nat → Nat) (cI cP : ClassId) (av : List Value) (ws : va_W) (P : va_W → Prop) : Prop := ∀ (l : Launch) (D : va_G) (A : Nat → Prop), Met l y (wsM y cc nL none) { frames := fr, cells := nc, slots := ns, locals := lc } (PC D ad cI cP A av ws) (QC D A P) nc ns A
theorem PC.blind {D : va_G} {ad : Nat → Nat} {cI cP : ClassId} {A : Nat → Prop} {av : List Value} {ws : va_W} : FrameBlind (PC D ad cI cP A av ws) := fun a U g mk q => ⟨q.1, q.2.1.blind g mk a, q.2.2.1, q.2.2.2⟩
theorem HC_of {y : MethodName} {cc : ByteArray} {nL fr lc nc ns : Nat} {ad : Nat → Nat} {cI cP : ClassId} {av : List Value} {ws : va_W} {P : va_W → Prop} (hy : plainName y.cls = true) (hyn : y.name = "<init>") (hsl : (lg_sl av).length ≤ nL) (h : ∀ K : Ctx, CxL K ad cI cP cc nL y.cls → RmC K fr lc nc ns → IsInit K → EC K P nc ns → RZ K nL 0 (lv_args 0 av) [] ws 0 0) : HC y cc nL fr lc nc ns ad cI cP av ws P := by
  intro l D A
  refine Met.ofW (cc := cc) (maxL := nL) (ret := none) hy rfl ?_
  intro p e s m args below meth c s₁ B hml hv
  obtain ⟨rfl, hE, hA, hP, hD⟩ := hv
  have hts := atoms_spec (ws := wsM y cc nL none) B.pre
  have hown : s.vm.findClass y.cls = some m.cls := findClass_of_methodNamed B.named
  have hin : meth.name = "<init>" := (name_of_methodNamed B.named B.method).1.trans hyn
  have hC : CxL (p, l, e, ({ frames := fr, cells := nc, slots := ns, locals := lc } : Room), s, m, av.toArray, below, meth, c, MQ below (QC D A P) av.toArray s nc ns A, D, cI, cP, A, 0, 0) ad cI cP cc nL y.cls := ⟨B.exec, B.bytes, hml, hown, fun w hw => hts w (List.mem_cons_of_mem _ hw), B.notSynchronized, hE, hA⟩
  have hl := lv_entry av (n := nL) hsl
  rw [lg_entry_eq]
  exact h _ hC ⟨Nat.le_refl _, Nat.le_refl _, Nat.le_refl _, Nat.le_refl _⟩ ⟨hin, B.returns⟩ rfl s.heap [] _ hP hD va_S.rf hl
theorem apx {α : Type} {F L : List α} {i : Nat} {c : α} (h : L[i]? = some c) : (F ++ L)[F.length + i]? = some c := by
  rw [List.getElem?_append_right (Nat.le_add_right _ _), Nat.add_sub_cancel_left]
  exact h
theorem aps {α : Type} {F L : List α} {i : Nat} {c : α} : (F ++ L).set (F.length + i) c = F ++ L.set i c := by
  rw [List.set_append_right _ _ (Nat.le_add_right _ _), Nat.add_sub_cancel_left]
section RLs
variable {K : Ctx} {ad : Nat → Nat} {cI cP : ClassId} {cc : ByteArray} {nL pc : Nat} {own : String} {lv : List (Nat × Value)} {st : List Value} {ws F : va_W} {cl sl : Nat}
theorem l_iconst (n : Nat) (C : CxL K ad cI cP cc nL own) {i : Int} {v : Int32} (hd : decode cc pc = .ok (.iconst i, 1)) (hv : Int32.ofInt i = v) (hn : pc + 1 = n) (k : RZ K nL n lv (.int v :: st) ws cl sl) : RZ K nL pc lv (st) ws cl sl := by
  obtain ⟨p, l, e, R, s, m, args, below, meth, c, Q, D, cI0, cP0, A, cl0, sl0⟩ := K
  obtain ⟨hx, hb, hml, hown, hts, hlk, hE, hA⟩ := C
  subst hn
  exact fun H locs ls hP hD hS hl => lv_iconst hx hb hd hv (k H locs ls hP hD hS hl)
theorem l_bipush (n : Nat) (C : CxL K ad cI cP cc nL own) {i : Int} {v : Int32} (hd : decode cc pc = .ok (.bipush i, 2)) (hv : (Int8.ofInt i).toInt32 = v) (hn : pc + 2 = n) (k : RZ K nL n lv (.int v :: st) ws cl sl) : RZ K nL pc lv (st) ws cl sl := by
  obtain ⟨p, l, e, R, s, m, args, below, meth, c, Q, D, cI0, cP0, A, cl0, sl0⟩ := K
  obtain ⟨hx, hb, hml, hown, hts, hlk, hE, hA⟩ := C
  subst hn
  exact fun H locs ls hP hD hS hl => lv_bipush hx hb hd hv (k H locs ls hP hD hS hl)
theorem l_sipush (n : Nat) (C : CxL K ad cI cP cc nL own) {i : Int} {v : Int32} (hd : decode cc pc = .ok (.sipush i, 3)) (hv : (Int16.ofInt i).toInt32 = v) (hn : pc + 3 = n) (k : RZ K nL n lv (.int v :: st) ws cl sl) : RZ K nL pc lv (st) ws cl sl := by
  obtain ⟨p, l, e, R, s, m, args, below, meth, c, Q, D, cI0, cP0, A, cl0, sl0⟩ := K
  obtain ⟨hx, hb, hml, hown, hts, hlk, hE, hA⟩ := C
  subst hn
  exact fun H locs ls hP hD hS hl => lv_sipush hx hb hd hv (k H locs ls hP hD hS hl)
theorem l_dup (n : Nat) (C : CxL K ad cI cP cc nL own) {v : Value} (hd : decode cc pc = .ok (.dup, 1)) (hv : v.category = 1) (hn : pc + 1 = n) (k : RZ K nL n lv (v :: v :: st) ws cl sl) : RZ K nL pc lv (v :: st) ws cl sl := by
  obtain ⟨p, l, e, R, s, m, args, below, meth, c, Q, D, cI0, cP0, A, cl0, sl0⟩ := K
  obtain ⟨hx, hb, hml, hown, hts, hlk, hE, hA⟩ := C
  subst hn
  exact fun H locs ls hP hD hS hl => lv_dup hx hb hd hv (k H locs ls hP hD hS hl)
theorem l_iload_n (n q : Nat) (C : CxL K ad cI cP cc nL own) {j : Fin 4} {i : Nat} {x : Int32} (hd : decode cc pc = .ok (.iload_n j, 1)) (hi : (j : Nat) = i) (hq : lv[q]? = some (i, .int x)) (hn : pc + 1 = n) (k : RZ K nL n lv (.int x :: st) ws cl sl) : RZ K nL pc lv st ws cl sl := by
  obtain ⟨p, l, e, R, s, m, args, below, meth, c, Q, D, cI0, cP0, A, cl0, sl0⟩ := K
  obtain ⟨hx, hb, hml, hown, hts, hlk, hE, hA⟩ := C
  subst hn
  exact fun H locs ls hP hD hS hl => lv_iload_n hx hb hd hi (lv_at hl q hq) (k H locs ls hP hD hS hl)
theorem l_istore_n (n : Nat) (lv' : List (Nat × Value)) (ks : List Nat) (C : CxL K ad cI cP cc nL own) {j : Fin 4} {i : Nat} {x : Int32} (hd : decode cc pc = .ok (.istore_n j, 1)) (hi : (j : Nat) = i) (hi2 : i < nL) (hv : lv_pick ((i, Value.int x) :: lv.filter (fun q => !(q.1 == i) && !(q.1 + 1 == i && q.2.category == 2))) ks = lv') (hn : pc + 1 = n) (k : RZ K nL n lv' st ws cl sl) : RZ K nL pc lv (.int x :: st) ws cl sl := by
  obtain ⟨p, l, e, R, s, m, args, below, meth, c, Q, D, cI0, cP0, A, cl0, sl0⟩ := K
  obtain ⟨hx, hb, hml, hown, hts, hlk, hE, hA⟩ := C
  subst hn
  exact fun H locs ls hP hD hS hl => lv_istore_n hx hb hd hi hl hi2 rfl (fun ls' hl' => k H locs ls' hP hD hS (lv_sub hl' ks hv))
theorem l_aload_n (n q : Nat) (C : CxL K ad cI cP cc nL own) {j : Fin 4} {i : Nat} {x : Nat} (hd : decode cc pc = .ok (.aload_n j, 1)) (hi : (j : Nat) = i) (hq : lv[q]? = some (i, .ref x)) (hn : pc + 1 = n) (k : RZ K nL n lv (.ref x :: st) ws cl sl) : RZ K nL pc lv st ws cl sl := by
  obtain ⟨p, l, e, R, s, m, args, below, meth, c, Q, D, cI0, cP0, A, cl0, sl0⟩ := K
  obtain ⟨hx, hb, hml, hown, hts, hlk, hE, hA⟩ := C
  subst hn
  exact fun H locs ls hP hD hS hl => lv_aload_n hx hb hd hi (lv_at hl q hq) (k H locs ls hP hD hS hl)
theorem l_astore_n (n : Nat) (lv' : List (Nat × Value)) (ks : List Nat) (C : CxL K ad cI cP cc nL own) {j : Fin 4} {i : Nat} {x : Nat} (hd : decode cc pc = .ok (.astore_n j, 1)) (hi : (j : Nat) = i) (hi2 : i < nL) (hv : lv_pick ((i, Value.ref x) :: lv.filter (fun q => !(q.1 == i) && !(q.1 + 1 == i && q.2.category == 2))) ks = lv') (hn : pc + 1 = n) (k : RZ K nL n lv' st ws cl sl) : RZ K nL pc lv (.ref x :: st) ws cl sl := by
  obtain ⟨p, l, e, R, s, m, args, below, meth, c, Q, D, cI0, cP0, A, cl0, sl0⟩ := K
  obtain ⟨hx, hb, hml, hown, hts, hlk, hE, hA⟩ := C
  subst hn
  exact fun H locs ls hP hD hS hl => lv_astore_n hx hb hd hi hl hi2 rfl (fun ls' hl' => k H locs ls' hP hD hS (lv_sub hl' ks hv))
theorem l_iinc (n q : Nat) (lv' : List (Nat × Value)) (ks : List Nat) (C : CxL K ad cI cP cc nL own) {i : Nat} {d : Int} {x v : Int32} (hd : decode cc pc = .ok (.iinc i d, 3)) (hq : lv[q]? = some (i, .int x)) (he : x + Int32.ofInt d = v) (hi2 : i < nL) (hv : lv_pick ((i, Value.int v) :: lv.filter (fun q => !(q.1 == i) && !(q.1 + 1 == i && q.2.category == 2))) ks = lv') (hn : pc + 3 = n) (k : RZ K nL n lv' st ws cl sl) : RZ K nL pc lv st ws cl sl := by
  obtain ⟨p, l, e, R, s, m, args, below, meth, c, Q, D, cI0, cP0, A, cl0, sl0⟩ := K
  obtain ⟨hx, hb, hml, hown, hts, hlk, hE, hA⟩ := C
  subst hn
  exact fun H locs ls hP hD hS hl => lv_iinc hx hb hd hl hq he hi2 rfl (fun ls' hl' => k H locs ls' hP hD hS (lv_sub hl' ks hv))
theorem l_icmp_ge (n tgt : Nat) (C : CxL K ad cI cP cc nL own) {x y : Int32} {off : Int} (hd : decode cc pc = .ok (.if_icmp .ge off, 3)) (ht : (pc : Int) + off = (tgt : Int)) (hn : pc + 3 = n) (kt : y ≤ x → RZ K nL tgt lv st ws cl sl) (kf : ¬ y ≤ x → RZ K nL n lv st ws cl sl) : RZ K nL pc lv (.int y :: .int x :: st) ws cl sl := by
  obtain ⟨p, l, e, R, s, m, args, below, meth, c, Q, D, cI0, cP0, A, cl0, sl0⟩ := K
  obtain ⟨hx, hb, hml, hown, hts, hlk, hE, hA⟩ := C
  subst hn
  exact fun H locs ls hP hD hS hl => lv_icmp_ge hx hb hd ht (fun h => kt h H locs ls hP hD hS hl) (fun h => kf h H locs ls hP hD hS hl)
theorem l_goto (tgt : Nat) (C : CxL K ad cI cP cc nL own) {off : Int} (hd : decode cc pc = .ok (.goto off, 3)) (ht : (pc : Int) + off = (tgt : Int)) (k : RZ K nL tgt lv st ws cl sl) : RZ K nL pc lv st ws cl sl := by
  obtain ⟨p, l, e, R, s, m, args, below, meth, c, Q, D, cI0, cP0, A, cl0, sl0⟩ := K
  obtain ⟨hx, hb, hml, hown, hts, hlk, hE, hA⟩ := C
  exact fun H locs ls hP hD hS hl => lv_goto hx hb hd ht (k H locs ls hP hD hS hl)
theorem l_sub (lv' : List (Nat × Value)) (ks : List Nat) (hv : lv_pick lv ks = lv') (k : RZ K nL pc lv' st ws cl sl) : RZ K nL pc lv st ws cl sl := by
  obtain ⟨p, l, e, R, s, m, args, below, meth, c, Q, D, cI0, cP0, A, cl0, sl0⟩ := K
  exact fun H locs ls hP hD hS hl => k H locs ls hP hD hS (lv_sub hl ks hv)
theorem l_ws {ws' : va_W} (h : ws' = ws) (k : RZ K nL pc lv st ws' cl sl) : RZ K nL pc lv st ws cl sl := h ▸ k
theorem l_obj (n : Nat) (C : CxL K ad cI cP cc nL own) {fr lc nc ns idx a : Nat} (hR : RmC K fr lc nc ns) (hw : Cond.methodLink own idx objectInit ∈ tblG) (hf : 1 ≤ fr) (hlo : (st.map fun v => v.category).sum + 12 ≤ lc) (hd : decode cc pc = .ok (.invokespecial idx, 3)) (hn : pc + 3 = n) (k : RZ K nL n lv st ws cl sl) : RZ K nL pc lv (.ref a :: st) ws cl sl := by
  obtain ⟨p, l, e, R, s, m, args, below, meth, c, Q, D, cI0, cP0, A, cl0, sl0⟩ := K
  obtain ⟨hx, hb, hml, hown, hts, hlk, hE, hA⟩ := C
  subst hn
  intro H locs ls hP hD hS hl
  refine W.objInit hx hb hown (hts _ hw) (hts _ tw_26) (hts _ tw_27) rfl (by rw [hml]; exact hl.1) rfl hd (Nat.le_trans hf hR.1) (Nat.le_trans (by show 2 * 0 + _ + 12 ≤ lc; omega) hR.2.1) ?_
  exact W.eq (g2 := F0 m (pc + 3) ls st) rfl (k H locs ls hP hD hS hl)
theorem l_newi (n : Nat) (L : va_W) (N : Nat) (C : CxL K ad cI cP cc nL own) {fr lc nc ns : Nat} (hR : RmC K fr lc nc ns) {v : Int32} (hv : ¬ v < 0) (hN : v.toNatClampNeg = N) (hby : N * componentBytes .int ≤ 536870912) (hc : cl + 1 ≤ nc) (hs : sl + N ≤ ns) (hd : decode cc pc = .ok (.newarray .int, 2)) (hn : pc + 2 = n) (k : ∀ q : Nat, RZ K nL n lv (.ref q :: st) (F ++ (L ++ [(q, .inl (cI, N, .inl (fun _ => 0)))])) (cl + 1) (sl + N)) : RZ K nL pc lv (.int v :: st) (F ++ L) cl sl := by
  obtain ⟨p, l, e, R, s, m, args, below, meth, c, Q, D, cI0, cP0, A, cl0, sl0⟩ := K
  obtain ⟨hx, hb, hml, hown, hts, hlk, hE, hA⟩ := C
  subst hn
  intro H locs ls hP hD hS hl
  refine va_newa (atype := .int) (a0 := (N, .inl (fun _ => 0))) hx hb (hts _ tw_42) rfl hE.1 hP hD hS hA (fun _ => rfl) hv hN hby (Nat.le_trans hc hR.2.2.1) (Nat.le_trans hs hR.2.2.2) hd (fun q cA H1 hK1 hP1 hD1 hS1 => ?_)
  have e1 : s.vm.findClass ("[" ++ FieldType.int.toString) = some cA := (hK1.2 2 _ rfl).2
  have e2 : s.vm.findClass ("[" ++ FieldType.int.toString) = some cI := (hE.1.2 0 _ rfl).2
  obtain rfl : cA = cI := Option.some.inj (e1.symm.trans e2)
  rw [List.append_assoc] at hP1 hD1
  exact k q H1 locs ls hP1 hD1 hS1 hl
theorem l_newq (n : Nat) (L : va_W) (N : Nat) (C : CxL K ad cI cP cc nL own) {fr lc nc ns index : Nat} (hR : RmC K fr lc nc ns) (hw : Cond.classLink own index "NorthWheel$Pointer" ∈ tblG) {v : Int32} (hv : ¬ v < 0) (hN : v.toNatClampNeg = N) (hby : N * 4 ≤ 536870912) (hc : cl + 1 ≤ nc) (hs : sl + N ≤ ns) (hd : decode cc pc = .ok (.anewarray index, 3)) (hn : pc + 3 = n) (k : ∀ q : Nat, RZ K nL n lv (.ref q :: st) (F ++ (L ++ [(q, .inl (cP, N, .inr (.inr (.inr (.inr (fun _ => none))))))])) (cl + 1) (sl + N)) : RZ K nL pc lv (.int v :: st) (F ++ L) cl sl := by
  obtain ⟨p, l, e, R, s, m, args, below, meth, c, Q, D, cI0, cP0, A, cl0, sl0⟩ := K
  obtain ⟨hx, hb, hml, hown, hts, hlk, hE, hA⟩ := C
  subst hn
  intro H locs ls hP hD hS hl
  refine va_newq hx hb hown (hts _ hw) hE.2.2.1 hE.1 hP hD hS hA hv hN hby (Nat.le_trans hc hR.2.2.1) (Nat.le_trans hs hR.2.2.2) hd (fun q cA H1 hK1 hP1 hD1 hS1 => ?_)
  obtain ⟨kA, comp, a1, a2, a3, e1⟩ := (hK1.2 2 _ rfl).2
  obtain ⟨kB, comp2, b1, b2, b3, e2⟩ := (hE.1.2 1 _ rfl).2
  obtain rfl : cA = cP := Option.some.inj (e1.symm.trans e2)
  rw [List.append_assoc] at hP1 hD1
  exact k q H1 locs ls hP1 hD1 hS1 hl
theorem l_new (n : Nat) (L : va_W) (C : CxL K ad cI cP cc nL own) {fr lc nc ns : Nat} (hR : RmC K fr lc nc ns) {Cn : String} {T : u_T} {N ci index : Nat} {ty : Nat → FieldType} (fs : List Value) (hin : ∀ w ∈ u_ws Cn T N, w ∈ tblG) (hty : ∀ k, k < N → parseFieldDescriptor (T k).2.2.1 = some (ty k)) (hcl : Cond.classLink own index Cn ∈ tblG) (hinst : Cond.instantiable Cn N ∈ tblG) (hini : Cond.initialized Cn ∈ tblG) (hc : vwCl[ci]? = some (Cn, T, N)) (hfs : ∀ j, j < N → defaultValue (ty j) = vp_V fs j) (hcc : cl + 1 ≤ nc) (hss : sl + N ≤ ns) (hd : decode cc pc = .ok (.new index, 3)) (hn : pc + 3 = n) (k : ∀ q : Nat, RZ K nL n lv (.ref q :: st) (F ++ (L ++ [(q, .inr (ci, fs))])) (cl + 1) (sl + N)) : RZ K nL pc lv st (F ++ L) cl sl := by
  obtain ⟨p, l, e, R, s, m, args, below, meth, c, Q, D, cI0, cP0, A, cl0, sl0⟩ := K
  obtain ⟨hx, hb, hml, hown, hts, hlk, hE, hA⟩ := C
  subst hn
  intro H locs ls hP hD hS hl
  refine va_new (ci := ci) (fs := fs) hx hb hts hin ty hty hown (hts _ hcl) (hts _ hinst) (hts _ hini) hE.1 hP hD hS hA hc hfs (Nat.le_trans hcc hR.2.2.1) (Nat.le_trans hss hR.2.2.2) hd (fun q H1 hP1 hD1 hS1 => ?_)
  rw [List.append_assoc] at hP1 hD1
  exact k q H1 locs ls hP1 hD1 hS1 hl
theorem l_put (n : Nat) (L L' : va_W) (i j : Nat) (C : CxL K ad cI cP cc nL own) {Cn ref : String} {T : u_T} {N ci index a : Nat} {fs : List Value} {ty0 : Nat → FieldType} {ty : FieldType} {v : Value} (hin : ∀ w ∈ u_ws Cn T N, w ∈ tblG) (hty : ∀ k, k < N → parseFieldDescriptor (T k).2.2.1 = some (ty0 k)) (hnm : ∀ a, a < N → ∀ b, b < N → a ≠ b → (T a).2.1 ≠ (T b).2.1) (he : L[i]? = some (a, .inr (ci, fs))) (hL : L.set i (a, .inr (ci, fs.set j v)) = L') (hc : vwCl[ci]? = some (Cn, T, N)) (hj : j < N) (hw : Cond.fieldLink own index ref (T j).2.1 (T j).2.2.1 ∈ tblG) (hs : (T j).1 = ref) (hfin : (T j).2.2.2 = false) (hdd : parseFieldDescriptor (T j).2.2.1 = some ty) (hnr : narrow ty v = v) (hft : fits ty v = true) (hlen : j < fs.length) (hd : decode cc pc = .ok (.putfield index, 3)) (hn : pc + 3 = n) (k : RZ K nL n lv st (F ++ L') cl sl) : RZ K nL pc lv (v :: .ref a :: st) (F ++ L) cl sl := by
  obtain ⟨p, l, e, R, s, m, args, below, meth, c, Q, D, cI0, cP0, A, cl0, sl0⟩ := K
  obtain ⟨hx, hb, hml, hown, hts, hlk, hE, hA⟩ := C
  subst hn
  subst hs
  exact fun H locs ls hP hD hS hl => va_put hx hb hts hin ty0 hty hnm hown hE.1 hP hD hS (F.length + i) (apx he) hc j hj (hts _ hw) (fun _ h => h) hfin hdd hnr hft hlen hd (fun H1 locs1 hP1 hD1 hS1 => k H1 locs1 ls (by rw [aps, hL] at hP1; exact hP1) (by rw [aps, hL] at hD1; exact hD1) hS1 hl)
theorem l_putF (n : Nat) (L L' : va_W) (i j : Nat) (C : CxL K ad cI cP cc nL own) {Cn ref : String} {T : u_T} {N ci index a : Nat} {fs : List Value} {ty0 : Nat → FieldType} {ty : FieldType} {v : Value} (hI : IsInit K) (hdecl : (T j).1 = own) (hin : ∀ w ∈ u_ws Cn T N, w ∈ tblG) (hty : ∀ k, k < N → parseFieldDescriptor (T k).2.2.1 = some (ty0 k)) (hnm : ∀ a, a < N → ∀ b, b < N → a ≠ b → (T a).2.1 ≠ (T b).2.1) (he : L[i]? = some (a, .inr (ci, fs))) (hL : L.set i (a, .inr (ci, fs.set j v)) = L') (hc : vwCl[ci]? = some (Cn, T, N)) (hj : j < N) (hw : Cond.fieldLink own index ref (T j).2.1 (T j).2.2.1 ∈ tblG) (hs : (T j).1 = ref) (hfin : (T j).2.2.2 = true) (hdd : parseFieldDescriptor (T j).2.2.1 = some ty) (hnr : narrow ty v = v) (hft : fits ty v = true) (hlen : j < fs.length) (hd : decode cc pc = .ok (.putfield index, 3)) (hn : pc + 3 = n) (k : RZ K nL n lv st (F ++ L') cl sl) : RZ K nL pc lv (v :: .ref a :: st) (F ++ L) cl sl := by
  obtain ⟨p, l, e, R, s, m, args, below, meth, c, Q, D, cI0, cP0, A, cl0, sl0⟩ := K
  obtain ⟨hx, hb, hml, hown, hts, hlk, hE, hA⟩ := C
  subst hn
  subst hs
  exact fun H locs ls hP hD hS hl => va_putF hx hb hts hin ty0 hty hnm hown hE.1 hP hD hS (F.length + i) (apx he) hc j hj (hts _ hw) (fun _ h => h) hfin hI.1 hdecl hdd hnr hft hlen hd (fun H1 locs1 hP1 hD1 hS1 => k H1 locs1 ls (by rw [aps, hL] at hP1; exact hP1) (by rw [aps, hL] at hD1; exact hD1) hS1 hl)
theorem l_get (n : Nat) (L : va_W) (i j : Nat) (C : CxL K ad cI cP cc nL own) {Cn ref : String} {T : u_T} {N ci index a : Nat} {fs : List Value} {v : Value} (hin : ∀ w ∈ u_ws Cn T N, w ∈ tblG) (he : L[i]? = some (a, .inr (ci, fs))) (hc : vwCl[ci]? = some (Cn, T, N)) (hj : j < N) (hw : Cond.fieldLink own index ref (T j).2.1 (T j).2.2.1 ∈ tblG) (hs : (T j).1 = ref) (hv : fs[j]? = some v) (hd : decode cc pc = .ok (.getfield index, 3)) (hn : pc + 3 = n) (k : RZ K nL n lv (v :: st) (F ++ L) cl sl) : RZ K nL pc lv (.ref a :: st) (F ++ L) cl sl := by
  obtain ⟨p, l, e, R, s, m, args, below, meth, c, Q, D, cI0, cP0, A, cl0, sl0⟩ := K
  obtain ⟨hx, hb, hml, hown, hts, hlk, hE, hA⟩ := C
  subst hn
  subst hs
  exact fun H locs ls hP hD hS hl => va_get hx hb hts hin hown hE.1 hP (F.length + i) (apx he) hc j hj (hts _ hw) (fun _ h => h) hv hd (k H locs ls hP hD hS hl)
theorem l_iast (n : Nat) (L L' : va_W) (i N : Nat) (C : CxL K ad cI cP cc nL own) {a : Nat} {f : Nat → Int32} {x v : Int32} (he : L[i]? = some (a, .inl (cI, N, .inl f))) (hL : L.set i (a, .inl (cI, N, .inl (upd f x.toNatClampNeg v))) = L') (hx0 : inb x N = true) (hd : decode cc pc = .ok (.iastore, 1)) (hn : pc + 1 = n) (k : RZ K nL n lv st (F ++ L') cl sl) : RZ K nL pc lv (.int v :: .int x :: .ref a :: st) (F ++ L) cl sl := by
  obtain ⟨p, l, e, R, s, m, args, below, meth, c, Q, D, cI0, cP0, A, cl0, sl0⟩ := K
  obtain ⟨hx, hb, hml, hown, hts, hlk, hE, hA⟩ := C
  subst hn
  exact fun H locs ls hP hD hS hl => va_iast hx hb hE.1 hP hD hS (F.length + i) 0 (apx he) rfl (inb_in hx0) hd (fun H1 locs1 hP1 hD1 hS1 => k H1 locs1 ls (by rw [aps, hL] at hP1; exact hP1) (by rw [aps, hL] at hD1; exact hD1) hS1 hl)
theorem l_aast (n : Nat) (L L' : va_W) (i i2 N : Nat) (C : CxL K ad cI cP cc nL own) {a q : Nat} {vs : List Value} {f : Nat → Option Nat} {x : Int32} (he : L[i]? = some (a, .inl (cP, N, .inr (.inr (.inr (.inr f)))))) (he2 : L[i2]? = some (q, .inr (4, vs))) (hL : L.set i (a, .inl (cP, N, .inr (.inr (.inr (.inr (va_up f x.toNatClampNeg (some q))))))) = L') (hx0 : inb x N = true) (hd : decode cc pc = .ok (.aastore, 1)) (hn : pc + 1 = n) (k : RZ K nL n lv st (F ++ L') cl sl) : RZ K nL pc lv (.ref q :: .int x :: .ref a :: st) (F ++ L) cl sl := by
  obtain ⟨p, l, e, R, s, m, args, below, meth, c, Q, D, cI0, cP0, A, cl0, sl0⟩ := K
  obtain ⟨hx, hb, hml, hown, hts, hlk, hE, hA⟩ := C
  subst hn
  exact fun H locs ls hP hD hS hl => va_astq (r := (RX4, TX4, 8)) hx hb hE.1 hP hD hS (F.length + i) 1 (F.length + i2) 4 (apx he) rfl (apx he2) rfl (inb_in hx0) hd (fun H1 locs1 hP1 hD1 hS1 => k H1 locs1 ls (by rw [aps, hL] at hP1; exact hP1) (by rw [aps, hL] at hD1; exact hD1) hS1 hl)
theorem l_getsN (n : Nat) (C : CxL K ad cI cP cc nL own) {index : Nat} (hw : Cond.fieldLinkNest own index "NorthWheel$Script" "AT_FIRST" "[I" "NorthWheel" ∈ tblN) (hd : decode cc pc = .ok (.getstatic index, 3)) (hn : pc + 3 = n) (k : RZ K nL n lv (.ref (ad 64) :: st) ws cl sl) : RZ K nL pc lv st ws cl sl := by
  obtain ⟨p, l, e, R, s, m, args, below, meth, c, Q, D, cI0, cP0, A, cl0, sl0⟩ := K
  obtain ⟨hx, hb, hml, hown, hts, hlk, hE, hA⟩ := C
  subst hn
  exact fun H locs ls hP hD hS hl => va_getsN hx hb hE.2.2.2.1 hS hown (va_Nw.use rfl (hE.2.1 _ hw)) (fun _ h => h) hd (k H locs ls hP hD hS hl)
theorem l_copyAF (n : Nat) (L L' : va_W) (i : Nat) (C : CxL K ad cI cP cc nL own) {fr lc nc ns index a : Nat} (hR : RmC K fr lc nc ns) {g : Nat → Int32} (hw : Cond.methodLink own index arraycopyName ∈ tblG) (he : L[i]? = some (a, .inl (cI, 6, .inl g))) (hL : L.set i (a, .inl (cI, 6, .inl (va_cpy aF g 0 0 6))) = L') (hf : 1 ≤ fr) (hlo : (st.map fun v => v.category).sum + (nativeFrameWords "java/lang/System" "arraycopy" 5 + 11) ≤ lc) (hd : decode cc pc = .ok (.invokestatic index, 3)) (hn : pc + 3 = n) (k : RZ K nL n lv st (F ++ L') cl sl) : RZ K nL pc lv (.int 6 :: .int 0 :: .ref a :: .int 0 :: .ref (ad 64) :: st) (F ++ L) cl sl := by
  obtain ⟨p, l, e, R, s, m, args, below, meth, c, Q, D, cI0, cP0, A, cl0, sl0⟩ := K
  obtain ⟨hx, hb, hml, hown, hts, hlk, hE, hA⟩ := C
  subst hn
  obtain ⟨hX, hbl, hbA⟩ := hE.2.2.2.2.1
  exact fun H locs ls hP hD hS hl => va_copyx hx hb (hml.trans hl.1.symm) hown (hts _ hw) (hts _ tw_157) (hts _ tw_156) (hts _ tw_8) hE.1 hP hD hS hX hbl hbA (F.length + i) 0 (apx he) rfl (by decide) (by decide) (by decide) (by decide) (by decide) (Nat.le_trans hf hR.1) (Nat.le_trans hlo hR.2.1) hd (fun H1 locs1 hP1 hD1 hS1 => k H1 locs1 ls (by rw [aps] at hP1; rw [← hL]; exact hP1) (by rw [aps] at hD1; rw [← hL]; exact hD1) hS1 hl)
theorem l_vret {P : va_W → Prop} (C : CxL K ad cI cP cc nL own) (hI : IsInit K) (E : EC K P cl sl) (hp : P ws) (hd : decode cc pc = .ok (.return_, 1)) : RZ K nL pc lv [] ws cl sl := by
  obtain ⟨p, l, e, R, s, m, args, below, meth, c, Q, D, cI0, cP0, A, cl0, sl0⟩ := K
  obtain ⟨hx, hb, hml, hown, hts, hlk, hE, hA⟩ := C
  have hQ : Q = MQ below (QC D A P) args s cl sl A := E
  subst hQ
  exact fun H locs ls hP hD hS hl => W.vret hx hb hI.2 (fun t ht hW => ⟨⟨ws, rfl, hp, by subst ht; exact hP, hD⟩, hS.F ht⟩) hS.2.2 hd hlk
theorem l_call (n : Nat) (As : List Value) (L : va_W) (C : CxL K ad cI cP cc nL own) {fr lc nc ns fr' lc' mc ms : Nat} (hR : RmC K fr lc nc ns) {y : MethodName} {cb : ByteArray} {mL np index q : Nat} {P : va_W → Prop} {x : va_E} (hM : HC y cb mL fr' lc' mc ms ad cI cP (.ref q :: As) ((F ++ L) ++ [(q, x)]) P) (ca : Cal y cb mL none np) (hw : Cond.methodLink own index y ∈ tblG) (h1 : Cond.instanceMethod y ∈ tblG) (hyn : y.name = "<init>") (hf : fr' + 1 ≤ fr) (hlo : 8 + (mL + 11) + lc' ≤ lc) (hcc : cl + mc ≤ nc) (hss : sl + ms ≤ ns) (hnp : As.length = np) {st0 : List Value} (hst : st0 = As.reverse ++ .ref q :: st) (hcat : (st.map fun v => v.category).sum ≤ 8) (hd : decode cc pc = .ok (.invokespecial index, 3)) (hn : pc + 3 = n) (k : ∀ u : va_W, P u → RZ K nL n lv st u (cl + mc) (sl + ms)) : RZ K nL pc lv st0 (F ++ (L ++ [(q, x)])) cl sl := by
  obtain ⟨p, l, e, R, s, m, args, below, meth, c, Q, D, cI0, cP0, A, cl0, sl0⟩ := K
  obtain ⟨hx, hb, hml, hown, hts, hlk, hE, hA⟩ := C
  subst hn
  subst hst
  subst hnp
  intro H locs ls hP hD hS hl
  rw [← List.append_assoc] at hP hD
  refine va_callv (va_runI (As := As) (rest := st) ⟨hx, hb, hml, hown, hts⟩ (hM l D A) ⟨callB_of As.length hts (gAll (fun w h => h) ca.1) rfl rfl rfl (hts _ ca.2.1) (hts _ hw) ca.2.2 ⟨Nat.le_trans hf hR.1, Nat.le_trans hlo hR.2.1⟩, hyn, hts _ h1⟩ ⟨PC.blind, fun U hU hW => ⟨rfl, hE.warm hS hU hW, fun z hz => hA z (Nat.le_trans hS.1 (by rw [← hU]; exact hz)), by rw [hU]; exact hP, hD⟩⟩ rfl rfl hl.1 rfl (lv_room hcat) hd ⟨Nat.le_trans hcc hR.2.2.1, Nat.le_trans hss hR.2.2.2⟩) hS (fun q _ h => h) (fun q h => h) (fun u t H1 locs1 ht hvm hw1 hB _ _ hS1 => ?_)
  exact k u hw1 H1 locs1 ls (by rw [← ht]; exact hB.1) hB.2 hS1 hl
theorem l_callN (n : Nat) (As : List Value) (L : va_W) (C : CxL K ad cI cP cc nL own) {fr lc nc ns fr' lc' mc ms : Nat} (hR : RmC K fr lc nc ns) {y : MethodName} {cb : ByteArray} {mL np index q : Nat} {host : String} {P : va_W → Prop} {x : va_E} (hM : HC y cb mL fr' lc' mc ms ad cI cP (.ref q :: As) ((F ++ L) ++ [(q, x)]) P) (ca : Cal y cb mL none np) (hw : Cond.methodLinkNest own index y host ∈ tblN) (h1 : Cond.instanceMethod y ∈ tblG) (hyn : y.name = "<init>") (hf : fr' + 1 ≤ fr) (hlo : 8 + (mL + 11) + lc' ≤ lc) (hcc : cl + mc ≤ nc) (hss : sl + ms ≤ ns) (hnp : As.length = np) {st0 : List Value} (hst : st0 = As.reverse ++ .ref q :: st) (hcat : (st.map fun v => v.category).sum ≤ 8) (hd : decode cc pc = .ok (.invokespecial index, 3)) (hn : pc + 3 = n) (k : ∀ u : va_W, P u → RZ K nL n lv st u (cl + mc) (sl + ms)) : RZ K nL pc lv st0 (F ++ (L ++ [(q, x)])) cl sl := by
  obtain ⟨p, l, e, R, s, m, args, below, meth, c, Q, D, cI0, cP0, A, cl0, sl0⟩ := K
  obtain ⟨hx, hb, hml, hown, hts, hlk, hE, hA⟩ := C
  subst hn
  subst hst
  subst hnp
  intro H locs ls hP hD hS hl
  rw [← List.append_assoc] at hP hD
  refine va_callv (va_runIN (As := As) (rest := st) ⟨hx, hb, hml, hown, hts⟩ (hM l D A) ⟨va_cnB As.length hts (gAll (fun w h => h) ca.1) rfl rfl rfl (hE.2.1 _ hw) (hts _ ca.2.1) ca.2.2 ⟨Nat.le_trans hf hR.1, Nat.le_trans hlo hR.2.1⟩, hyn, hts _ h1⟩ ⟨PC.blind, fun U hU hW => ⟨rfl, hE.warm hS hU hW, fun z hz => hA z (Nat.le_trans hS.1 (by rw [← hU]; exact hz)), by rw [hU]; exact hP, hD⟩⟩ rfl rfl hl.1 rfl (lv_room hcat) hd ⟨Nat.le_trans hcc hR.2.2.1, Nat.le_trans hss hR.2.2.2⟩) hS (fun q _ h => h) (fun q h => h) (fun u t H1 locs1 ht hvm hw1 hB _ _ hS1 => ?_)
  exact k u hw1 H1 locs1 ls (by rw [← ht]; exact hB.1) hB.2 hS1 hl

end RLs
theorem l_perm {K : Ctx} {nL pc : Nat} {lv : List (Nat × Value)} {st : List Value} {F : va_W} {cl sl : Nat} (L L' : va_W) (is : List Nat) (hs : is.filterMap (fun i => L[i]?) = L') (hn : va_nd is = true) (hm : is.map (fun i => L[i]?) = L'.map some) (k : RZ K nL pc lv st (F ++ L') cl sl) : RZ K nL pc lv st (F ++ L) cl sl := by
  obtain ⟨p, l, e, R, s, m, args, below, meth, c, Q, D, cI0, cP0, A, cl0, sl0⟩ := K
  intro H locs ls hP hD hS hl
  refine k H locs ls ?_ ?_ hS hl
  · intro i q hq
    rcases Nat.lt_or_ge i F.length with h | h
    · rw [List.getElem?_append_left h] at hq
      exact hP i q (by rw [List.getElem?_append_left h]; exact hq)
    · rw [List.getElem?_append_right h] at hq
      have hz : q ∈ L' := List.mem_of_getElem? hq
      rw [← hs] at hz
      obtain ⟨j, -, hj⟩ := List.mem_filterMap.mp hz
      exact hP (F.length + j) q (apx hj)
  · have g : ∀ (i : Nat) (q : Nat × va_E), L'[i]? = some q → ∃ j : Nat, is[i]? = some j ∧ L[j]? = some q := by
      intro i q hq
      have h1 : (L'.map some)[i]? = some (some q) := by rw [List.getElem?_map, hq]; rfl
      rw [← hm, List.getElem?_map] at h1
      cases hj : is[i]? with
      | none => rw [hj] at h1; cases h1
      | some j => rw [hj] at h1; exact ⟨j, rfl, Option.some.inj h1⟩
    refine ⟨fun i j a b ha hb he => ?_, fun i q hq => ?_⟩
    · rcases Nat.lt_or_ge i F.length with h1 | h1
      · rcases Nat.lt_or_ge j F.length with h2 | h2
        · rw [List.getElem?_append_left h1] at ha
          rw [List.getElem?_append_left h2] at hb
          exact hD.1 i j a b (by rw [List.getElem?_append_left h1]; exact ha) (by rw [List.getElem?_append_left h2]; exact hb) he
        · rw [List.getElem?_append_left h1] at ha
          rw [List.getElem?_append_right h2] at hb
          obtain ⟨j2, -, hj2⟩ := g _ _ hb
          have := hD.1 i (F.length + j2) a b (by rw [List.getElem?_append_left h1]; exact ha) (apx hj2) he
          omega
      · rcases Nat.lt_or_ge j F.length with h2 | h2
        · rw [List.getElem?_append_right h1] at ha
          rw [List.getElem?_append_left h2] at hb
          obtain ⟨i2, -, hi2⟩ := g _ _ ha
          have := hD.1 (F.length + i2) j a b (apx hi2) (by rw [List.getElem?_append_left h2]; exact hb) he
          omega
        · rw [List.getElem?_append_right h1] at ha
          rw [List.getElem?_append_right h2] at hb
          obtain ⟨i2, hi1, hi2⟩ := g _ _ ha
          obtain ⟨j2, hj1, hj2⟩ := g _ _ hb
          have e := hD.1 (F.length + i2) (F.length + j2) a b (apx hi2) (apx hj2) he
          have e2 : i2 = j2 := by omega
          subst e2
          have := va_nd_inj is hn _ _ _ hi1 hj1
          omega
    · rcases Nat.lt_or_ge i F.length with h | h
      · rw [List.getElem?_append_left h] at hq
        exact hD.2 i q (by rw [List.getElem?_append_left h]; exact hq)
      · rw [List.getElem?_append_right h] at hq
        obtain ⟨j, -, hj⟩ := g _ _ hq
        exact hD.2 (F.length + j) q (apx hj)
