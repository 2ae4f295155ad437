def aF (j : Nat) : Int32 := if j = 1 then 100 else if j = 3 then 35 else if j = 4 then 1 else 0
def aL (j : Nat) : Int32 := if j = 4 then 1 else 0
def aG (j : Nat) : Int32 := if j = 3 then 35 else if j = 4 then 99 else if j = 5 then 2 else 999
def lenS : List Nat := [4, 4, 4, 4, 5, 2]
def bytS : List (List Int32) := [[100, 101, 97, 100], [103, 97, 105, 110], [109, 101, 101, 116], [109, 111, 115, 116], [101, 118, 101, 114, 121], [98, 121]]
def St (ad : Nat → Nat) (A : Nat → Prop) (U : State) : Prop :=
  va_Z "NorthWheel$Script" "AT_FIRST" "[I" (.ref (ad 64)) A U U.heap ∧ (va_X (ad 64) 6 aF U U.heap ∧ ad 64 < U.heap.size ∧ ¬ A (ad 64)) ∧
  va_Z "NorthWheel$Script" "LEAST" "[I" (.ref (ad 65)) A U U.heap ∧ va_T .int (ad 65) 6 (fun j => .int (aL j)) A U U.heap ∧
  va_Z "NorthWheel$Script" "GREATEST" "[I" (.ref (ad 66)) A U U.heap ∧ va_T .int (ad 66) 6 (fun j => .int (aG j)) A U U.heap ∧
  va_Z "java/lang/String" "COMPACT_STRINGS" "Z" (.int 1) A U U.heap ∧
  vk_S 6 lenS bytS (fun i => ad (70 + i)) (fun i => ad (80 + i)) A U U.heap ∧
  vk_R "NorthWheel$Script" 83 "dead" (ad 70) U ∧ vk_R "NorthWheel$Script" 85 "gain" (ad 71) U ∧ vk_R "NorthWheel$Script" 87 "meet" (ad 72) U ∧
  vk_R "NorthWheel$Script" 89 "most" (ad 73) U ∧ vk_R "NorthWheel$Script" 91 "every" (ad 74) U ∧ vk_R "NorthWheel$Script" 93 "by" (ad 75) U ∧ va_Zq "jdk/internal/util/Preconditions" "SIOOBE_FORMATTER" "Ljava/util/function/BiFunction;" A U U.heap
theorem St.warm {ad : Nat → Nat} {A : Nat → Prop} {s U : State} {H : Heap} {locs : List Loc} (h : St ad A s) (hS : va_S A s.heap H locs) (hU : U.heap = H) (hW : s.WarmedH U.vm) : St ad A U := by
  obtain ⟨a1, a2, a3, a4, a5, a6, a7, a8, b0, b1, b2, b3, b4, b5, b6⟩ := h
  subst hU
  have hk : ∀ a : Nat, a < s.heap.size → ¬ A a → U.heap[a]? = s.heap[a]? := hS.2.1
  have hv := hW.alike
  exact ⟨(a1.kept hk).moved hv, ⟨(a2.1.kept (hk _ a2.2.1 a2.2.2)).moved hv, Nat.lt_of_lt_of_le a2.2.1 hS.1, a2.2.2⟩, (a3.kept hk).moved hv, (a4.kept hk).moved hv, (a5.kept hk).moved hv, (a6.kept hk).moved hv, (a7.kept hk).moved hv, (a8.kept hk).moved hv, b0.warm hW, b1.warm hW, b2.warm hW, b3.warm hW, b4.warm hW, b5.warm hW, (b6.kept hk).moved hv⟩
theorem St.blind {ad : Nat → Nat} {A : Nat → Prop} {U : State} (g : JFrame) (mk : MethodId) (a : Array Value) (h : St ad A U) : St ad A (U.calling g mk a) := by
  obtain ⟨a1, a2, a3, a4, a5, a6, a7, a8, b0, b1, b2, b3, b4, b5, b6⟩ := h
  have hv : U.vm.Alike (U.calling g mk a).vm := Vm.Alike.refl U.vm
  exact ⟨a1.moved hv, ⟨a2.1.moved hv, a2.2.1, a2.2.2⟩, a3.moved hv, a4.moved hv, a5.moved hv, a6.moved hv, a7.moved hv, a8.moved hv, b0.same rfl, b1.same rfl, b2.same rfl, b3.same rfl, b4.same rfl, b5.same rfl, b6.moved hv⟩
theorem nest_on {w : Cond} (h : isNest w = true) : w.onTables = true := by
  cases w <;> first | rfl | (simp [isNest] at h)
theorem nest_warm {w : Cond} {s U : State} (h : isNest w = true) (hW : s.WarmedH U.vm) (hZ : va_Nw w s) : va_Nw w U := by
  cases w <;> first | exact va_Nw.warmF hW hZ | exact va_Nw.warmM hW hZ | (simp [isNest] at h)
def Ev (D : va_G) (ad : Nat → Nat) (cI cP : ClassId) (A : Nat → Prop) (U : State) : Prop :=
  va_K D vwCl [(cI, .int), (cP, .object "NorthWheel$Pointer")] U ∧ (∀ w ∈ tblN, va_Nw w U) ∧ (∀ σ : S2, va_D A (wd ad cI cP σ)) ∧ St ad A U
theorem Ev.warm {D : va_G} {ad : Nat → Nat} {cI cP : ClassId} {A : Nat → Prop} {s U : State} {H : Heap} {locs : List Loc} (h : Ev D ad cI cP A s) (hS : va_S A s.heap H locs) (hU : U.heap = H) (hW : s.WarmedH U.vm) : Ev D ad cI cP A U :=
  ⟨va_K.moved hW.alike h.1, fun w hw => nest_warm (List.mem_filter.mp hw).2 hW (h.2.1 w hw), h.2.2.1, h.2.2.2.warm hS hU hW⟩
theorem Ev.blind {D : va_G} {ad : Nat → Nat} {cI cP : ClassId} {A : Nat → Prop} {U : State} (g : JFrame) (mk : MethodId) (a : Array Value) (h : Ev D ad cI cP A U) : Ev D ad cI cP A (U.calling g mk a) :=
  ⟨va_K.moved (u := U) (U := U.calling g mk a) (Vm.Alike.refl U.vm) h.1, fun w hw => va_Nw.same (u := U) (U := U.calling g mk a) (nest_on (List.mem_filter.mp hw).2) rfl (h.2.1 w hw), h.2.2.1, h.2.2.2.blind g mk a⟩
abbrev Ctx : Type := Program × Launch × Env × Room × State × MethodId × Array Value × List Frame × Method × Code × (State → Prop) × va_G × ClassId × ClassId × (Nat → Prop) × Nat × Nat
def Cx (K : Ctx) (ad : Nat → Nat) (cc : ByteArray) (nL : Nat) (own : String) (ret : Option FieldType) : Prop := match K with
  | (p, _, _, R, s, m, args, _, meth, c, _, D, cI, cP, A, cl, sl) => p.tables.exec = Jvm.exec ∧ c.code = cc ∧ c.maxLocals = nL ∧ s.vm.findClass own = some m.cls ∧ (∀ w ∈ tblG, w.before args s = true) ∧ meth.sig.returnType = ret ∧ meth.locks = false ∧ Ev D ad cI cP A s ∧ cl ≤ R.cells ∧ sl ≤ R.slots
def Rm (K : Ctx) (fr lc : Nat) : Prop := match K with
  | (_, _, _, R, _, _, _, _, _, _, _, _, _, _, _, _, _) => fr ≤ R.frames ∧ lc ≤ R.locals
def RW (K : Ctx) (ad : Nat → Nat) (nL pc : Nat) (lv : List (Nat × Value)) (st : List Value) (σ : S2) : Prop := match K with
  | (p, l, e, R, s, m, args, below, meth, c, Q, D, cI, cP, A, cl, sl) => ∀ (H : Heap) (locs : List Loc) (ls : Array Slot), va_P D vwCl (wd ad cI cP σ) H → va_S A s.heap H locs → lv_has ls nL lv → W p l e R s m args below meth c H locs cl sl Q (F0 m pc ls st)
def PW (D : va_G) (ad : Nat → Nat) (cI cP : ClassId) (A : Nat → Prop) (av : List Value) (σ : S2) : Array Value → State → Prop := va_Pc av (fun U => Ev D ad cI cP A U ∧ va_P D vwCl (wd ad cI cP σ) U.heap)
def QI (D : va_G) (ad : Nat → Nat) (cI cP : ClassId) (A : Nat → Prop) (r : Int32) (σ' : S2) : Array Value → State → Outcome → State → Prop := va_Qi (fun (r' : Int32) (u : S2) => r' = r ∧ u = σ') (fun u t => va_P D vwCl (wd ad cI cP u) t.heap) A
def QV (D : va_G) (ad : Nat → Nat) (cI cP : ClassId) (A : Nat → Prop) (σ' : S2) : Array Value → State → Outcome → State → Prop := va_Qv (fun (u : S2) => u = σ') (fun u t => va_P D vwCl (wd ad cI cP u) t.heap) A
def QQ (D : va_G) (ad : Nat → Nat) (cI cP : ClassId) (A : Nat → Prop) (r : Option Nat) (σ' : S2) : Array Value → State → Outcome → State → Prop := va_Qq (fun (r' : Option Nat) (u : S2) => r' = r.map ad ∧ u = σ') (fun u t => va_P D vwCl (wd ad cI cP u) t.heap) A
def EI (K : Ctx) (ad : Nat → Nat) (r : Int32) (σ' : S2) : Prop := match K with
  | (_, _, _, _, s, _, args, below, _, _, Q, D, cI, cP, A, cl, sl) => Q = MQ below (QI D ad cI cP A r σ') args s cl sl A
def EV (K : Ctx) (ad : Nat → Nat) (σ' : S2) : Prop := match K with
  | (_, _, _, _, s, _, args, below, _, _, Q, D, cI, cP, A, cl, sl) => Q = MQ below (QV D ad cI cP A σ') args s cl sl A
def EQ (K : Ctx) (ad : Nat → Nat) (r : Option Nat) (σ' : S2) : Prop := match K with
  | (_, _, _, _, s, _, args, below, _, _, Q, D, cI, cP, A, cl, sl) => Q = MQ below (QQ D ad cI cP A r σ') args s cl sl A
def wsM (y : MethodName) (cc : ByteArray) (nL : Nat) (ret : Option FieldType) : List Cond := .code y cc nL ret :: tblG
def HI (y : MethodName) (cc : ByteArray) (nL : Nat) (ret : Option FieldType) (fr lc : Nat) (ad : Nat → Nat) (av : List Value) (σ : S2) (r : Int32) (σ' : S2) : Prop := ∀ (l : Launch) (D : va_G) (cI cP : ClassId) (A : Nat → Prop), Met l y (wsM y cc nL ret) { frames := fr, cells := 0, slots := 0, locals := lc } (PW D ad cI cP A av σ) (QI D ad cI cP A r σ') 0 0 A
def HV (y : MethodName) (cc : ByteArray) (nL : Nat) (ret : Option FieldType) (fr lc : Nat) (ad : Nat → Nat) (av : List Value) (σ : S2) (σ' : S2) : Prop := ∀ (l : Launch) (D : va_G) (cI cP : ClassId) (A : Nat → Prop), Met l y (wsM y cc nL ret) { frames := fr, cells := 0, slots := 0, locals := lc } (PW D ad cI cP A av σ) (QV D ad cI cP A σ') 0 0 A
def HQ (y : MethodName) (cc : ByteArray) (nL : Nat) (ret : Option FieldType) (fr lc : Nat) (ad : Nat → Nat) (av : List Value) (σ : S2) (r : Option Nat) (σ' : S2) : Prop := ∀ (l : Launch) (D : va_G) (cI cP : ClassId) (A : Nat → Prop), Met l y (wsM y cc nL ret) { frames := fr, cells := 0, slots := 0, locals := lc } (PW D ad cI cP A av σ) (QQ D ad cI cP A r σ') 0 0 A
theorem PW.blind {D : va_G} {ad : Nat → Nat} {cI cP : ClassId} {A : Nat → Prop} {av : List Value} {σ : S2} : FrameBlind (PW D ad cI cP A av σ) := fun a U g mk q => ⟨q.1, q.2.1.blind g mk a, q.2.2⟩
theorem gAll {c' : Cond} {Ts : List Cond} (hT : ∀ w ∈ tblG, w ∈ Ts) (hc : c' ∈ tblG) : GoodIn Ts (c' :: tblG) := by
  intro w hw
  have hm : w ∈ tblG := (List.mem_cons.mp hw).elim (fun e => e ▸ hc) id
  exact ⟨hT w hm, good_of_word (List.mem_filter.mp hm).2⟩
/-- pure words of the mirrored functions -/
def ck {α : Type} (b : Bool) (E : Option α) : Option α := match b with
  | true => E
  | false => none
def bd {α : Type} (o : Option (Int32 × S2)) (k : Int32 → S2 → Option α) : Option α := o.bind (fun q => k q.1 q.2)
def bv {α : Type} (o : Option S2) (k : S2 → Option α) : Option α := o.bind k
def bq {α : Type} (o : Option (Option Nat × S2)) (k : Option Nat → S2 → Option α) : Option α := o.bind (fun q => k q.1 q.2)
def nm {α β : Type} (e : α) (k : α → Option β) : Option β := k e
def inb (i : Int32) (n : Nat) : Bool := decide (0 ≤ i) && decide (i.toNatClampNeg < n)
def isB (x : Int32) : Bool := decide (x = 0) || decide (x = 1)
def nz (x : Int32) : Bool := !(decide (x = 0))
theorem ck_of {α : Type} {b : Bool} {E : Option α} {r : α} (h : ck b E = some r) : b = true ∧ E = some r := by
  cases b with
  | true => exact ⟨rfl, h⟩
  | false => cases h
theorem bd_of {α : Type} {o : Option (Int32 × S2)} {k : Int32 → S2 → Option α} {r : α} (h : bd o k = some r) : ∃ a b, o = some (a, b) ∧ k a b = some r := by
  cases o with
  | none => cases h
  | some q => exact ⟨q.1, q.2, rfl, h⟩
theorem bv_of {α : Type} {o : Option S2} {k : S2 → Option α} {r : α} (h : bv o k = some r) : ∃ b, o = some b ∧ k b = some r := by
  cases o with
  | none => cases h
  | some q => exact ⟨q, rfl, h⟩
theorem bq_of {α : Type} {o : Option (Option Nat × S2)} {k : Option Nat → S2 → Option α} {r : α} (h : bq o k = some r) : ∃ a b, o = some (a, b) ∧ k a b = some r := by
  cases o with
  | none => cases h
  | some q => exact ⟨q.1, q.2, rfl, h⟩
theorem nm_of {α β : Type} {e : α} {k : α → Option β} {r : β} (h : nm e k = some r) : ∃ x, x = e ∧ k x = some r := ⟨e, rfl, h⟩
theorem ifT {α : Type} {c : Prop} {i : Decidable c} {a b : Option α} {r : α} (h : c) (e : @ite _ c i a b = some r) : a = some r := by rwa [if_pos h] at e
theorem ifF {α : Type} {c : Prop} {i : Decidable c} {a b : Option α} {r : α} (h : ¬ c) (e : @ite _ c i a b = some r) : b = some r := by rwa [if_neg h] at e
theorem so_of {α : Type} {a b : α} (h : some a = some b) : a = b := Option.some.inj h
theorem inb_in {i : Int32} {n : Nat} (h : inb i n = true) : vp_in i n := by
  unfold inb at h
  rw [Bool.and_eq_true, decide_eq_true_eq, decide_eq_true_eq] at h
  intro q
  rcases q with q | q
  · exact absurd h.1 (Int32.not_le.mpr q)
  · omega
theorem isB_nar {x : Int32} (h : isB x = true) : narrow .boolean (.int x) = .int x := by
  unfold isB at h
  rw [Bool.or_eq_true, decide_eq_true_eq, decide_eq_true_eq] at h
  rcases h with rfl | rfl <;> rfl
theorem nz_ne {x : Int32} (h : nz x = true) : ¬ x = 0 := by
  unfold nz at h
  intro q
  rw [q] at h
  cases h
section RWs
variable {K : Ctx} {ad : Nat → Nat} {cc : ByteArray} {nL pc : Nat} {own : String} {ret : Option FieldType} {lv : List (Nat × Value)} {st : List Value} {σ : S2}
theorem r_iconst (n : Nat) (C : Cx K ad cc nL own ret) {i : Int} {v : Int32} (hd : decode cc pc = .ok (.iconst i, 1)) (hv : Int32.ofInt i = v) (hn : pc + 1 = n) (k : RW K ad nL n lv (.int v :: st) σ) : RW K ad nL pc lv (st) σ := by
  obtain ⟨p, l, e, R, s, m, args, below, meth, c, Q, D, cI, cP, A, cl, sl⟩ := K
  obtain ⟨hx, hb, hml, hown, hts, hr, hlk, hE, hcl, hsl⟩ := C
  subst hn
  exact fun H locs ls hP hS hl => lv_iconst hx hb hd hv (k H locs ls hP hS hl)
theorem r_bipush (n : Nat) (C : Cx K ad cc nL own ret) {i : Int} {v : Int32} (hd : decode cc pc = .ok (.bipush i, 2)) (hv : (Int8.ofInt i).toInt32 = v) (hn : pc + 2 = n) (k : RW K ad nL n lv (.int v :: st) σ) : RW K ad nL pc lv (st) σ := by
  obtain ⟨p, l, e, R, s, m, args, below, meth, c, Q, D, cI, cP, A, cl, sl⟩ := K
  obtain ⟨hx, hb, hml, hown, hts, hr, hlk, hE, hcl, hsl⟩ := C
  subst hn
  exact fun H locs ls hP hS hl => lv_bipush hx hb hd hv (k H locs ls hP hS hl)
theorem r_sipush (n : Nat) (C : Cx K ad cc nL own ret) {i : Int} {v : Int32} (hd : decode cc pc = .ok (.sipush i, 3)) (hv : (Int16.ofInt i).toInt32 = v) (hn : pc + 3 = n) (k : RW K ad nL n lv (.int v :: st) σ) : RW K ad nL pc lv (st) σ := by
  obtain ⟨p, l, e, R, s, m, args, below, meth, c, Q, D, cI, cP, A, cl, sl⟩ := K
  obtain ⟨hx, hb, hml, hown, hts, hr, hlk, hE, hcl, hsl⟩ := C
  subst hn
  exact fun H locs ls hP hS hl => lv_sipush hx hb hd hv (k H locs ls hP hS hl)
theorem r_lconst (n : Nat) (C : Cx K ad cc nL own ret) {i : Fin 2} {v : Int64} (hd : decode cc pc = .ok (.lconst i, 1)) (hv : Int64.ofNat (i : Nat) = v) (hn : pc + 1 = n) (k : RW K ad nL n lv (.long v :: st) σ) : RW K ad nL pc lv (st) σ := by
  obtain ⟨p, l, e, R, s, m, args, below, meth, c, Q, D, cI, cP, A, cl, sl⟩ := K
  obtain ⟨hx, hb, hml, hown, hts, hr, hlk, hE, hcl, hsl⟩ := C
  subst hn
  exact fun H locs ls hP hS hl => lv_lconst hx hb hd hv (k H locs ls hP hS hl)
theorem r_iadd (n : Nat) (C : Cx K ad cc nL own ret) {x y : Int32} (hd : decode cc pc = .ok (.iadd, 1)) (hn : pc + 1 = n) (k : RW K ad nL n lv (.int (x + y) :: st) σ) : RW K ad nL pc lv (.int y :: .int x :: st) σ := by
  obtain ⟨p, l, e, R, s, m, args, below, meth, c, Q, D, cI, cP, A, cl, sl⟩ := K
  obtain ⟨hx, hb, hml, hown, hts, hr, hlk, hE, hcl, hsl⟩ := C
  subst hn
  exact fun H locs ls hP hS hl => lv_iadd hx hb hd (k H locs ls hP hS hl)
theorem r_isub (n : Nat) (C : Cx K ad cc nL own ret) {x y : Int32} (hd : decode cc pc = .ok (.isub, 1)) (hn : pc + 1 = n) (k : RW K ad nL n lv (.int (x - y) :: st) σ) : RW K ad nL pc lv (.int y :: .int x :: st) σ := by
  obtain ⟨p, l, e, R, s, m, args, below, meth, c, Q, D, cI, cP, A, cl, sl⟩ := K
  obtain ⟨hx, hb, hml, hown, hts, hr, hlk, hE, hcl, hsl⟩ := C
  subst hn
  exact fun H locs ls hP hS hl => lv_isub hx hb hd (k H locs ls hP hS hl)
theorem r_imul (n : Nat) (C : Cx K ad cc nL own ret) {x y : Int32} (hd : decode cc pc = .ok (.imul, 1)) (hn : pc + 1 = n) (k : RW K ad nL n lv (.int (x * y) :: st) σ) : RW K ad nL pc lv (.int y :: .int x :: st) σ := by
  obtain ⟨p, l, e, R, s, m, args, below, meth, c, Q, D, cI, cP, A, cl, sl⟩ := K
  obtain ⟨hx, hb, hml, hown, hts, hr, hlk, hE, hcl, hsl⟩ := C
  subst hn
  exact fun H locs ls hP hS hl => lv_imul hx hb hd (k H locs ls hP hS hl)
theorem r_iand (n : Nat) (C : Cx K ad cc nL own ret) {x y : Int32} (hd : decode cc pc = .ok (.iand, 1)) (hn : pc + 1 = n) (k : RW K ad nL n lv (.int (x &&& y) :: st) σ) : RW K ad nL pc lv (.int y :: .int x :: st) σ := by
  obtain ⟨p, l, e, R, s, m, args, below, meth, c, Q, D, cI, cP, A, cl, sl⟩ := K
  obtain ⟨hx, hb, hml, hown, hts, hr, hlk, hE, hcl, hsl⟩ := C
  subst hn
  exact fun H locs ls hP hS hl => lv_iand hx hb hd (k H locs ls hP hS hl)
theorem r_ior (n : Nat) (C : Cx K ad cc nL own ret) {x y : Int32} (hd : decode cc pc = .ok (.ior, 1)) (hn : pc + 1 = n) (k : RW K ad nL n lv (.int (x ||| y) :: st) σ) : RW K ad nL pc lv (.int y :: .int x :: st) σ := by
  obtain ⟨p, l, e, R, s, m, args, below, meth, c, Q, D, cI, cP, A, cl, sl⟩ := K
  obtain ⟨hx, hb, hml, hown, hts, hr, hlk, hE, hcl, hsl⟩ := C
  subst hn
  exact fun H locs ls hP hS hl => lv_ior hx hb hd (k H locs ls hP hS hl)
theorem r_ixor (n : Nat) (C : Cx K ad cc nL own ret) {x y : Int32} (hd : decode cc pc = .ok (.ixor, 1)) (hn : pc + 1 = n) (k : RW K ad nL n lv (.int (x ^^^ y) :: st) σ) : RW K ad nL pc lv (.int y :: .int x :: st) σ := by
  obtain ⟨p, l, e, R, s, m, args, below, meth, c, Q, D, cI, cP, A, cl, sl⟩ := K
  obtain ⟨hx, hb, hml, hown, hts, hr, hlk, hE, hcl, hsl⟩ := C
  subst hn
  exact fun H locs ls hP hS hl => lv_ixor hx hb hd (k H locs ls hP hS hl)
theorem r_idiv (n : Nat) (C : Cx K ad cc nL own ret) {x y : Int32} (hd : decode cc pc = .ok (.idiv, 1)) (hz : ¬ y = 0) (hn : pc + 1 = n) (k : RW K ad nL n lv (.int (x / y) :: st) σ) : RW K ad nL pc lv (.int y :: .int x :: st) σ := by
  obtain ⟨p, l, e, R, s, m, args, below, meth, c, Q, D, cI, cP, A, cl, sl⟩ := K
  obtain ⟨hx, hb, hml, hown, hts, hr, hlk, hE, hcl, hsl⟩ := C
  subst hn
  exact fun H locs ls hP hS hl => lv_idiv hx hb hd hz (k H locs ls hP hS hl)
theorem r_irem (n : Nat) (C : Cx K ad cc nL own ret) {x y : Int32} (hd : decode cc pc = .ok (.irem, 1)) (hz : ¬ y = 0) (hn : pc + 1 = n) (k : RW K ad nL n lv (.int (x - x / y * y) :: st) σ) : RW K ad nL pc lv (.int y :: .int x :: st) σ := by
  obtain ⟨p, l, e, R, s, m, args, below, meth, c, Q, D, cI, cP, A, cl, sl⟩ := K
  obtain ⟨hx, hb, hml, hown, hts, hr, hlk, hE, hcl, hsl⟩ := C
  subst hn
  exact fun H locs ls hP hS hl => lv_irem hx hb hd hz (k H locs ls hP hS hl)
theorem r_ineg (n : Nat) (C : Cx K ad cc nL own ret) {x : Int32} (hd : decode cc pc = .ok (.ineg, 1)) (hn : pc + 1 = n) (k : RW K ad nL n lv (.int (-x) :: st) σ) : RW K ad nL pc lv (.int x :: st) σ := by
  obtain ⟨p, l, e, R, s, m, args, below, meth, c, Q, D, cI, cP, A, cl, sl⟩ := K
  obtain ⟨hx, hb, hml, hown, hts, hr, hlk, hE, hcl, hsl⟩ := C
  subst hn
  exact fun H locs ls hP hS hl => lv_ineg hx hb hd (k H locs ls hP hS hl)
theorem r_ishl (n : Nat) (C : Cx K ad cc nL own ret) {x y : Int32} (hd : decode cc pc = .ok (.ishl, 1)) (hn : pc + 1 = n) (k : RW K ad nL n lv (.int (x <<< (y &&& 31)) :: st) σ) : RW K ad nL pc lv (.int y :: .int x :: st) σ := by
  obtain ⟨p, l, e, R, s, m, args, below, meth, c, Q, D, cI, cP, A, cl, sl⟩ := K
  obtain ⟨hx, hb, hml, hown, hts, hr, hlk, hE, hcl, hsl⟩ := C
  subst hn
  exact fun H locs ls hP hS hl => lv_ishl hx hb hd (k H locs ls hP hS hl)
theorem r_ishr (n : Nat) (C : Cx K ad cc nL own ret) {x y : Int32} (hd : decode cc pc = .ok (.ishr, 1)) (hn : pc + 1 = n) (k : RW K ad nL n lv (.int (x >>> (y &&& 31)) :: st) σ) : RW K ad nL pc lv (.int y :: .int x :: st) σ := by
  obtain ⟨p, l, e, R, s, m, args, below, meth, c, Q, D, cI, cP, A, cl, sl⟩ := K
  obtain ⟨hx, hb, hml, hown, hts, hr, hlk, hE, hcl, hsl⟩ := C
  subst hn
  exact fun H locs ls hP hS hl => lv_ishr hx hb hd (k H locs ls hP hS hl)
theorem r_i2l (n : Nat) (C : Cx K ad cc nL own ret) {x : Int32} (hd : decode cc pc = .ok (.i2l, 1)) (hn : pc + 1 = n) (k : RW K ad nL n lv (.long x.toInt64 :: st) σ) : RW K ad nL pc lv (.int x :: st) σ := by
  obtain ⟨p, l, e, R, s, m, args, below, meth, c, Q, D, cI, cP, A, cl, sl⟩ := K
  obtain ⟨hx, hb, hml, hown, hts, hr, hlk, hE, hcl, hsl⟩ := C
  subst hn
  exact fun H locs ls hP hS hl => lv_i2l hx hb hd rfl (k H locs ls hP hS hl)
theorem r_l2i (n : Nat) (C : Cx K ad cc nL own ret) {x : Int64} (hd : decode cc pc = .ok (.l2i, 1)) (hn : pc + 1 = n) (k : RW K ad nL n lv (.int x.toInt32 :: st) σ) : RW K ad nL pc lv (.long x :: st) σ := by
  obtain ⟨p, l, e, R, s, m, args, below, meth, c, Q, D, cI, cP, A, cl, sl⟩ := K
  obtain ⟨hx, hb, hml, hown, hts, hr, hlk, hE, hcl, hsl⟩ := C
  subst hn
  exact fun H locs ls hP hS hl => lv_l2i hx hb hd rfl (k H locs ls hP hS hl)
theorem r_land (n : Nat) (C : Cx K ad cc nL own ret) {x y : Int64} (hd : decode cc pc = .ok (.land, 1)) (hn : pc + 1 = n) (k : RW K ad nL n lv (.long (x &&& y) :: st) σ) : RW K ad nL pc lv (.long y :: .long x :: st) σ := by
  obtain ⟨p, l, e, R, s, m, args, below, meth, c, Q, D, cI, cP, A, cl, sl⟩ := K
  obtain ⟨hx, hb, hml, hown, hts, hr, hlk, hE, hcl, hsl⟩ := C
  subst hn
  exact fun H locs ls hP hS hl => lv_land hx hb hd (k H locs ls hP hS hl)
theorem r_lor (n : Nat) (C : Cx K ad cc nL own ret) {x y : Int64} (hd : decode cc pc = .ok (.lor, 1)) (hn : pc + 1 = n) (k : RW K ad nL n lv (.long (x ||| y) :: st) σ) : RW K ad nL pc lv (.long y :: .long x :: st) σ := by
  obtain ⟨p, l, e, R, s, m, args, below, meth, c, Q, D, cI, cP, A, cl, sl⟩ := K
  obtain ⟨hx, hb, hml, hown, hts, hr, hlk, hE, hcl, hsl⟩ := C
  subst hn
  exact fun H locs ls hP hS hl => lv_lor hx hb hd (k H locs ls hP hS hl)
theorem r_lshr (n : Nat) (C : Cx K ad cc nL own ret) {x : Int64} {y : Int32} (hd : decode cc pc = .ok (.lshr, 1)) (hn : pc + 1 = n) (k : RW K ad nL n lv (.long (x >>> (y.toInt64 &&& 63)) :: st) σ) : RW K ad nL pc lv (.int y :: .long x :: st) σ := by
  obtain ⟨p, l, e, R, s, m, args, below, meth, c, Q, D, cI, cP, A, cl, sl⟩ := K
  obtain ⟨hx, hb, hml, hown, hts, hr, hlk, hE, hcl, hsl⟩ := C
  subst hn
  exact fun H locs ls hP hS hl => lv_lshr hx hb hd rfl (k H locs ls hP hS hl)
theorem r_lshl (n : Nat) (C : Cx K ad cc nL own ret) {x : Int64} {y : Int32} (hd : decode cc pc = .ok (.lshl, 1)) (hn : pc + 1 = n) (k : RW K ad nL n lv (.long (x <<< (y.toInt64 &&& 63)) :: st) σ) : RW K ad nL pc lv (.int y :: .long x :: st) σ := by
  obtain ⟨p, l, e, R, s, m, args, below, meth, c, Q, D, cI, cP, A, cl, sl⟩ := K
  obtain ⟨hx, hb, hml, hown, hts, hr, hlk, hE, hcl, hsl⟩ := C
  subst hn
  exact fun H locs ls hP hS hl => lv_lshl hx hb hd rfl (k H locs ls hP hS hl)
theorem r_lcmp (n : Nat) (C : Cx K ad cc nL own ret) {x y : Int64} (hd : decode cc pc = .ok (.lcmp, 1)) (hn : pc + 1 = n) (k : RW K ad nL n lv (.int (lg_cmp x y) :: st) σ) : RW K ad nL pc lv (.long y :: .long x :: st) σ := by
  obtain ⟨p, l, e, R, s, m, args, below, meth, c, Q, D, cI, cP, A, cl, sl⟩ := K
  obtain ⟨hx, hb, hml, hown, hts, hr, hlk, hE, hcl, hsl⟩ := C
  subst hn
  exact fun H locs ls hP hS hl => W.lcmp hx hb hd (k H locs ls hP hS hl)
theorem r_dup (n : Nat) (C : Cx K ad cc nL own ret) {v : Value} (hd : decode cc pc = .ok (.dup, 1)) (hv : v.category = 1) (hn : pc + 1 = n) (k : RW K ad nL n lv (v :: v :: st) σ) : RW K ad nL pc lv (v :: st) σ := by
  obtain ⟨p, l, e, R, s, m, args, below, meth, c, Q, D, cI, cP, A, cl, sl⟩ := K
  obtain ⟨hx, hb, hml, hown, hts, hr, hlk, hE, hcl, hsl⟩ := C
  subst hn
  exact fun H locs ls hP hS hl => lv_dup hx hb hd hv (k H locs ls hP hS hl)
theorem r_pop (n : Nat) (C : Cx K ad cc nL own ret) {v : Value} (hd : decode cc pc = .ok (.pop, 1)) (hv : v.category = 1) (hn : pc + 1 = n) (k : RW K ad nL n lv (st) σ) : RW K ad nL pc lv (v :: st) σ := by
  obtain ⟨p, l, e, R, s, m, args, below, meth, c, Q, D, cI, cP, A, cl, sl⟩ := K
  obtain ⟨hx, hb, hml, hown, hts, hr, hlk, hE, hcl, hsl⟩ := C
  subst hn
  exact fun H locs ls hP hS hl => lv_pop hx hb hd hv (k H locs ls hP hS hl)
theorem r_dup_x1 (n : Nat) (C : Cx K ad cc nL own ret) {v w : Value} (hd : decode cc pc = .ok (.dup_x1, 1)) (hv : v.category = 1) (hw : w.category = 1) (hn : pc + 1 = n) (k : RW K ad nL n lv (v :: w :: v :: st) σ) : RW K ad nL pc lv (v :: w :: st) σ := by
  obtain ⟨p, l, e, R, s, m, args, below, meth, c, Q, D, cI, cP, A, cl, sl⟩ := K
  obtain ⟨hx, hb, hml, hown, hts, hr, hlk, hE, hcl, hsl⟩ := C
  subst hn
  exact fun H locs ls hP hS hl => lv_dup_x1 hx hb hd hv hw (k H locs ls hP hS hl)
theorem r_dup2 (n : Nat) (C : Cx K ad cc nL own ret) {v w : Value} (hd : decode cc pc = .ok (.dup2, 1)) (hv : v.category = 1) (hw : w.category = 1) (hn : pc + 1 = n) (k : RW K ad nL n lv (v :: w :: v :: w :: st) σ) : RW K ad nL pc lv (v :: w :: st) σ := by
  obtain ⟨p, l, e, R, s, m, args, below, meth, c, Q, D, cI, cP, A, cl, sl⟩ := K
  obtain ⟨hx, hb, hml, hown, hts, hr, hlk, hE, hcl, hsl⟩ := C
  subst hn
  exact fun H locs ls hP hS hl => lv_dup2_11 hx hb hd hv hw (k H locs ls hP hS hl)
theorem r_ldc (n : Nat) (C : Cx K ad cc nL own ret) {index : Nat} {v : Int32} (hw : Cond.constant own index v ∈ tblG) (hd : decode cc pc = .ok (.ldc index, 2)) (hn : pc + 2 = n) (k : RW K ad nL n lv (.int v :: st) σ) : RW K ad nL pc lv st σ := by
  obtain ⟨p, l, e, R, s, m, args, below, meth, c, Q, D, cI, cP, A, cl, sl⟩ := K
  obtain ⟨hx, hb, hml, hown, hts, hr, hlk, hE, hcl, hsl⟩ := C
  subst hn
  exact fun H locs ls hP hS hl => lv_ldc hx hb hown (hts _ hw) hd (k H locs ls hP hS hl)
theorem r_ldcw (n : Nat) (C : Cx K ad cc nL own ret) {index : Nat} {v : Int32} (hw : Cond.constant own index v ∈ tblG) (hd : decode cc pc = .ok (.ldc_w index, 3)) (hn : pc + 3 = n) (k : RW K ad nL n lv (.int v :: st) σ) : RW K ad nL pc lv st σ := by
  obtain ⟨p, l, e, R, s, m, args, below, meth, c, Q, D, cI, cP, A, cl, sl⟩ := K
  obtain ⟨hx, hb, hml, hown, hts, hr, hlk, hE, hcl, hsl⟩ := C
  subst hn
  exact fun H locs ls hP hS hl => lv_ldcw hx hb hown (hts _ hw) hd (k H locs ls hP hS hl)
theorem r_ldc2 (n : Nat) (C : Cx K ad cc nL own ret) {index : Nat} {v : Int64} (hw : Cond.constantLong own index v ∈ tblG) (hd : decode cc pc = .ok (.ldc2_w index, 3)) (hn : pc + 3 = n) (k : RW K ad nL n lv (.long v :: st) σ) : RW K ad nL pc lv st σ := by
  obtain ⟨p, l, e, R, s, m, args, below, meth, c, Q, D, cI, cP, A, cl, sl⟩ := K
  obtain ⟨hx, hb, hml, hown, hts, hr, hlk, hE, hcl, hsl⟩ := C
  subst hn
  exact fun H locs ls hP hS hl => lv_ldc2 hx hb hown (hts _ hw) hd (k H locs ls hP hS hl)
theorem r_iload_n (n q : Nat) (C : Cx K ad cc nL own ret) {j : Fin 4} {i : Nat} {x : Int32} (hd : decode cc pc = .ok (.iload_n j, 1)) (hi : (j : Nat) = i) (hq : lv[q]? = some (i, .int x)) (hn : pc + 1 = n) (k : RW K ad nL n lv (.int x :: st) σ) : RW K ad nL pc lv st σ := by
  obtain ⟨p, l, e, R, s, m, args, below, meth, c, Q, D, cI, cP, A, cl, sl⟩ := K
  obtain ⟨hx, hb, hml, hown, hts, hr, hlk, hE, hcl, hsl⟩ := C
  subst hn
  exact fun H locs ls hP hS hl => lv_iload_n hx hb hd hi (lv_at hl q hq) (k H locs ls hP hS hl)
theorem r_iload (n q : Nat) (C : Cx K ad cc nL own ret) {i : Nat} {x : Int32} (hd : decode cc pc = .ok (.iload i, 2)) (hq : lv[q]? = some (i, .int x)) (hn : pc + 2 = n) (k : RW K ad nL n lv (.int x :: st) σ) : RW K ad nL pc lv st σ := by
  obtain ⟨p, l, e, R, s, m, args, below, meth, c, Q, D, cI, cP, A, cl, sl⟩ := K
  obtain ⟨hx, hb, hml, hown, hts, hr, hlk, hE, hcl, hsl⟩ := C
  subst hn
  exact fun H locs ls hP hS hl => lv_iload hx hb hd (lv_at hl q hq) (k H locs ls hP hS hl)
theorem r_lload_n (n q : Nat) (C : Cx K ad cc nL own ret) {j : Fin 4} {i : Nat} {x : Int64} (hd : decode cc pc = .ok (.lload_n j, 1)) (hi : (j : Nat) = i) (hq : lv[q]? = some (i, .long x)) (hn : pc + 1 = n) (k : RW K ad nL n lv (.long x :: st) σ) : RW K ad nL pc lv st σ := by
  obtain ⟨p, l, e, R, s, m, args, below, meth, c, Q, D, cI, cP, A, cl, sl⟩ := K
  obtain ⟨hx, hb, hml, hown, hts, hr, hlk, hE, hcl, hsl⟩ := C
  subst hn
  exact fun H locs ls hP hS hl => lv_lload_n hx hb hd hi (lv_at hl q hq) (k H locs ls hP hS hl)
theorem r_lload (n q : Nat) (C : Cx K ad cc nL own ret) {i : Nat} {x : Int64} (hd : decode cc pc = .ok (.lload i, 2)) (hq : lv[q]? = some (i, .long x)) (hn : pc + 2 = n) (k : RW K ad nL n lv (.long x :: st) σ) : RW K ad nL pc lv st σ := by
  obtain ⟨p, l, e, R, s, m, args, below, meth, c, Q, D, cI, cP, A, cl, sl⟩ := K
  obtain ⟨hx, hb, hml, hown, hts, hr, hlk, hE, hcl, hsl⟩ := C
  subst hn
  exact fun H locs ls hP hS hl => lv_lload hx hb hd (lv_at hl q hq) (k H locs ls hP hS hl)
theorem r_aload_n (n q : Nat) (C : Cx K ad cc nL own ret) {j : Fin 4} {i : Nat} {x : Nat} (hd : decode cc pc = .ok (.aload_n j, 1)) (hi : (j : Nat) = i) (hq : lv[q]? = some (i, .ref x)) (hn : pc + 1 = n) (k : RW K ad nL n lv (.ref x :: st) σ) : RW K ad nL pc lv st σ := by
  obtain ⟨p, l, e, R, s, m, args, below, meth, c, Q, D, cI, cP, A, cl, sl⟩ := K
  obtain ⟨hx, hb, hml, hown, hts, hr, hlk, hE, hcl, hsl⟩ := C
  subst hn
  exact fun H locs ls hP hS hl => lv_aload_n hx hb hd hi (lv_at hl q hq) (k H locs ls hP hS hl)
theorem r_aload (n q : Nat) (C : Cx K ad cc nL own ret) {i : Nat} {x : Nat} (hd : decode cc pc = .ok (.aload i, 2)) (hq : lv[q]? = some (i, .ref x)) (hn : pc + 2 = n) (k : RW K ad nL n lv (.ref x :: st) σ) : RW K ad nL pc lv st σ := by
  obtain ⟨p, l, e, R, s, m, args, below, meth, c, Q, D, cI, cP, A, cl, sl⟩ := K
  obtain ⟨hx, hb, hml, hown, hts, hr, hlk, hE, hcl, hsl⟩ := C
  subst hn
  exact fun H locs ls hP hS hl => lv_aload hx hb hd (lv_at hl q hq) (k H locs ls hP hS hl)
theorem r_istore_n (n : Nat) (lv' : List (Nat × Value)) (ks : List Nat) (C : Cx K ad cc nL own ret) {j : Fin 4} {i : Nat} {x : Int32} (hd : decode cc pc = .ok (.istore_n j, 1)) (hi : (j : Nat) = i) (hi2 : i < nL) (hv : lv_pick ((i, Value.int x) :: lv.filter (fun q => !(q.1 == i) && !(q.1 + 1 == i && q.2.category == 2))) ks = lv') (hn : pc + 1 = n) (k : RW K ad nL n lv' st σ) : RW K ad nL pc lv (.int x :: st) σ := by
  obtain ⟨p, l, e, R, s, m, args, below, meth, c, Q, D, cI, cP, A, cl, sl⟩ := K
  obtain ⟨hx, hb, hml, hown, hts, hr, hlk, hE, hcl, hsl⟩ := C
  subst hn
  exact fun H locs ls hP hS hl => lv_istore_n hx hb hd hi hl hi2 rfl (fun ls' hl' => k H locs ls' hP hS (lv_sub hl' ks hv))
theorem r_istore (n : Nat) (lv' : List (Nat × Value)) (ks : List Nat) (C : Cx K ad cc nL own ret) {i : Nat} {x : Int32} (hd : decode cc pc = .ok (.istore i, 2)) (hi2 : i < nL) (hv : lv_pick ((i, Value.int x) :: lv.filter (fun q => !(q.1 == i) && !(q.1 + 1 == i && q.2.category == 2))) ks = lv') (hn : pc + 2 = n) (k : RW K ad nL n lv' st σ) : RW K ad nL pc lv (.int x :: st) σ := by
  obtain ⟨p, l, e, R, s, m, args, below, meth, c, Q, D, cI, cP, A, cl, sl⟩ := K
  obtain ⟨hx, hb, hml, hown, hts, hr, hlk, hE, hcl, hsl⟩ := C
  subst hn
  exact fun H locs ls hP hS hl => lv_istore hx hb hd hl hi2 rfl (fun ls' hl' => k H locs ls' hP hS (lv_sub hl' ks hv))
theorem r_astore_n (n : Nat) (lv' : List (Nat × Value)) (ks : List Nat) (C : Cx K ad cc nL own ret) {j : Fin 4} {i : Nat} {x : Nat} (hd : decode cc pc = .ok (.astore_n j, 1)) (hi : (j : Nat) = i) (hi2 : i < nL) (hv : lv_pick ((i, Value.ref x) :: lv.filter (fun q => !(q.1 == i) && !(q.1 + 1 == i && q.2.category == 2))) ks = lv') (hn : pc + 1 = n) (k : RW K ad nL n lv' st σ) : RW K ad nL pc lv (.ref x :: st) σ := by
  obtain ⟨p, l, e, R, s, m, args, below, meth, c, Q, D, cI, cP, A, cl, sl⟩ := K
  obtain ⟨hx, hb, hml, hown, hts, hr, hlk, hE, hcl, hsl⟩ := C
  subst hn
  exact fun H locs ls hP hS hl => lv_astore_n hx hb hd hi hl hi2 rfl (fun ls' hl' => k H locs ls' hP hS (lv_sub hl' ks hv))
theorem r_astore (n : Nat) (lv' : List (Nat × Value)) (ks : List Nat) (C : Cx K ad cc nL own ret) {i : Nat} {x : Nat} (hd : decode cc pc = .ok (.astore i, 2)) (hi2 : i < nL) (hv : lv_pick ((i, Value.ref x) :: lv.filter (fun q => !(q.1 == i) && !(q.1 + 1 == i && q.2.category == 2))) ks = lv') (hn : pc + 2 = n) (k : RW K ad nL n lv' st σ) : RW K ad nL pc lv (.ref x :: st) σ := by
  obtain ⟨p, l, e, R, s, m, args, below, meth, c, Q, D, cI, cP, A, cl, sl⟩ := K
  obtain ⟨hx, hb, hml, hown, hts, hr, hlk, hE, hcl, hsl⟩ := C
  subst hn
  exact fun H locs ls hP hS hl => lv_astore hx hb hd hl hi2 rfl (fun ls' hl' => k H locs ls' hP hS (lv_sub hl' ks hv))
theorem r_iinc (n q : Nat) (lv' : List (Nat × Value)) (ks : List Nat) (C : Cx K ad cc nL own ret) {i : Nat} {d : Int} {x v : Int32} (hd : decode cc pc = .ok (.iinc i d, 3)) (hq : lv[q]? = some (i, .int x)) (he : x + Int32.ofInt d = v) (hi2 : i < nL) (hv : lv_pick ((i, Value.int v) :: lv.filter (fun q => !(q.1 == i) && !(q.1 + 1 == i && q.2.category == 2))) ks = lv') (hn : pc + 3 = n) (k : RW K ad nL n lv' st σ) : RW K ad nL pc lv st σ := by
  obtain ⟨p, l, e, R, s, m, args, below, meth, c, Q, D, cI, cP, A, cl, sl⟩ := K
  obtain ⟨hx, hb, hml, hown, hts, hr, hlk, hE, hcl, hsl⟩ := C
  subst hn
  exact fun H locs ls hP hS hl => lv_iinc hx hb hd hl hq he hi2 rfl (fun ls' hl' => k H locs ls' hP hS (lv_sub hl' ks hv))
theorem r_icmp_eq (n tgt : Nat) (C : Cx K ad cc nL own ret) {x y : Int32} {off : Int} (hd : decode cc pc = .ok (.if_icmp .eq off, 3)) (ht : (pc : Int) + off = (tgt : Int)) (hn : pc + 3 = n) (kt : x = y → RW K ad nL tgt lv st σ) (kf : ¬ x = y → RW K ad nL n lv st σ) : RW K ad nL pc lv (.int y :: .int x :: st) σ := by
  obtain ⟨p, l, e, R, s, m, args, below, meth, c, Q, D, cI, cP, A, cl, sl⟩ := K
  obtain ⟨hx, hb, hml, hown, hts, hr, hlk, hE, hcl, hsl⟩ := C
  subst hn
  exact fun H locs ls hP hS hl => lv_icmp_eq hx hb hd ht (fun h => kt h H locs ls hP hS hl) (fun h => kf h H locs ls hP hS hl)
theorem r_if_eq (n tgt : Nat) (C : Cx K ad cc nL own ret) {x : Int32} {off : Int} (hd : decode cc pc = .ok (.ifCond .eq off, 3)) (ht : (pc : Int) + off = (tgt : Int)) (hn : pc + 3 = n) (kt : x = 0 → RW K ad nL tgt lv st σ) (kf : ¬ x = 0 → RW K ad nL n lv st σ) : RW K ad nL pc lv (.int x :: st) σ := by
  obtain ⟨p, l, e, R, s, m, args, below, meth, c, Q, D, cI, cP, A, cl, sl⟩ := K
  obtain ⟨hx, hb, hml, hown, hts, hr, hlk, hE, hcl, hsl⟩ := C
  subst hn
  exact fun H locs ls hP hS hl => lv_if_eq hx hb hd ht (fun h => kt h H locs ls hP hS hl) (fun h => kf h H locs ls hP hS hl)
theorem r_icmp_ne (n tgt : Nat) (C : Cx K ad cc nL own ret) {x y : Int32} {off : Int} (hd : decode cc pc = .ok (.if_icmp .ne off, 3)) (ht : (pc : Int) + off = (tgt : Int)) (hn : pc + 3 = n) (kt : ¬ x = y → RW K ad nL tgt lv st σ) (kf : x = y → RW K ad nL n lv st σ) : RW K ad nL pc lv (.int y :: .int x :: st) σ := by
  obtain ⟨p, l, e, R, s, m, args, below, meth, c, Q, D, cI, cP, A, cl, sl⟩ := K
  obtain ⟨hx, hb, hml, hown, hts, hr, hlk, hE, hcl, hsl⟩ := C
  subst hn
  exact fun H locs ls hP hS hl => lv_icmp_ne hx hb hd ht (fun h => kt h H locs ls hP hS hl) (fun h => kf h H locs ls hP hS hl)
theorem r_if_ne (n tgt : Nat) (C : Cx K ad cc nL own ret) {x : Int32} {off : Int} (hd : decode cc pc = .ok (.ifCond .ne off, 3)) (ht : (pc : Int) + off = (tgt : Int)) (hn : pc + 3 = n) (kt : ¬ x = 0 → RW K ad nL tgt lv st σ) (kf : x = 0 → RW K ad nL n lv st σ) : RW K ad nL pc lv (.int x :: st) σ := by
  obtain ⟨p, l, e, R, s, m, args, below, meth, c, Q, D, cI, cP, A, cl, sl⟩ := K
  obtain ⟨hx, hb, hml, hown, hts, hr, hlk, hE, hcl, hsl⟩ := C
  subst hn
  exact fun H locs ls hP hS hl => lv_if_ne hx hb hd ht (fun h => kt h H locs ls hP hS hl) (fun h => kf h H locs ls hP hS hl)
theorem r_icmp_lt (n tgt : Nat) (C : Cx K ad cc nL own ret) {x y : Int32} {off : Int} (hd : decode cc pc = .ok (.if_icmp .lt off, 3)) (ht : (pc : Int) + off = (tgt : Int)) (hn : pc + 3 = n) (kt : x < y → RW K ad nL tgt lv st σ) (kf : ¬ x < y → RW K ad nL n lv st σ) : RW K ad nL pc lv (.int y :: .int x :: st) σ := by
  obtain ⟨p, l, e, R, s, m, args, below, meth, c, Q, D, cI, cP, A, cl, sl⟩ := K
  obtain ⟨hx, hb, hml, hown, hts, hr, hlk, hE, hcl, hsl⟩ := C
  subst hn
  exact fun H locs ls hP hS hl => lv_icmp_lt hx hb hd ht (fun h => kt h H locs ls hP hS hl) (fun h => kf h H locs ls hP hS hl)
theorem r_if_lt (n tgt : Nat) (C : Cx K ad cc nL own ret) {x : Int32} {off : Int} (hd : decode cc pc = .ok (.ifCond .lt off, 3)) (ht : (pc : Int) + off = (tgt : Int)) (hn : pc + 3 = n) (kt : x < 0 → RW K ad nL tgt lv st σ) (kf : ¬ x < 0 → RW K ad nL n lv st σ) : RW K ad nL pc lv (.int x :: st) σ := by
  obtain ⟨p, l, e, R, s, m, args, below, meth, c, Q, D, cI, cP, A, cl, sl⟩ := K
  obtain ⟨hx, hb, hml, hown, hts, hr, hlk, hE, hcl, hsl⟩ := C
  subst hn
  exact fun H locs ls hP hS hl => lv_if_lt hx hb hd ht (fun h => kt h H locs ls hP hS hl) (fun h => kf h H locs ls hP hS hl)
theorem r_icmp_ge (n tgt : Nat) (C : Cx K ad cc nL own ret) {x y : Int32} {off : Int} (hd : decode cc pc = .ok (.if_icmp .ge off, 3)) (ht : (pc : Int) + off = (tgt : Int)) (hn : pc + 3 = n) (kt : y ≤ x → RW K ad nL tgt lv st σ) (kf : ¬ y ≤ x → RW K ad nL n lv st σ) : RW K ad nL pc lv (.int y :: .int x :: st) σ := by
  obtain ⟨p, l, e, R, s, m, args, below, meth, c, Q, D, cI, cP, A, cl, sl⟩ := K
  obtain ⟨hx, hb, hml, hown, hts, hr, hlk, hE, hcl, hsl⟩ := C
  subst hn
  exact fun H locs ls hP hS hl => lv_icmp_ge hx hb hd ht (fun h => kt h H locs ls hP hS hl) (fun h => kf h H locs ls hP hS hl)
theorem r_if_ge (n tgt : Nat) (C : Cx K ad cc nL own ret) {x : Int32} {off : Int} (hd : decode cc pc = .ok (.ifCond .ge off, 3)) (ht : (pc : Int) + off = (tgt : Int)) (hn : pc + 3 = n) (kt : 0 ≤ x → RW K ad nL tgt lv st σ) (kf : ¬ 0 ≤ x → RW K ad nL n lv st σ) : RW K ad nL pc lv (.int x :: st) σ := by
  obtain ⟨p, l, e, R, s, m, args, below, meth, c, Q, D, cI, cP, A, cl, sl⟩ := K
  obtain ⟨hx, hb, hml, hown, hts, hr, hlk, hE, hcl, hsl⟩ := C
  subst hn
  exact fun H locs ls hP hS hl => lv_if_ge hx hb hd ht (fun h => kt h H locs ls hP hS hl) (fun h => kf h H locs ls hP hS hl)
theorem r_icmp_gt (n tgt : Nat) (C : Cx K ad cc nL own ret) {x y : Int32} {off : Int} (hd : decode cc pc = .ok (.if_icmp .gt off, 3)) (ht : (pc : Int) + off = (tgt : Int)) (hn : pc + 3 = n) (kt : y < x → RW K ad nL tgt lv st σ) (kf : ¬ y < x → RW K ad nL n lv st σ) : RW K ad nL pc lv (.int y :: .int x :: st) σ := by
  obtain ⟨p, l, e, R, s, m, args, below, meth, c, Q, D, cI, cP, A, cl, sl⟩ := K
  obtain ⟨hx, hb, hml, hown, hts, hr, hlk, hE, hcl, hsl⟩ := C
  subst hn
  exact fun H locs ls hP hS hl => lv_icmp_gt hx hb hd ht (fun h => kt h H locs ls hP hS hl) (fun h => kf h H locs ls hP hS hl)
theorem r_if_gt (n tgt : Nat) (C : Cx K ad cc nL own ret) {x : Int32} {off : Int} (hd : decode cc pc = .ok (.ifCond .gt off, 3)) (ht : (pc : Int) + off = (tgt : Int)) (hn : pc + 3 = n) (kt : 0 < x → RW K ad nL tgt lv st σ) (kf : ¬ 0 < x → RW K ad nL n lv st σ) : RW K ad nL pc lv (.int x :: st) σ := by
  obtain ⟨p, l, e, R, s, m, args, below, meth, c, Q, D, cI, cP, A, cl, sl⟩ := K
  obtain ⟨hx, hb, hml, hown, hts, hr, hlk, hE, hcl, hsl⟩ := C
  subst hn
  exact fun H locs ls hP hS hl => lv_if_gt hx hb hd ht (fun h => kt h H locs ls hP hS hl) (fun h => kf h H locs ls hP hS hl)
theorem r_icmp_le (n tgt : Nat) (C : Cx K ad cc nL own ret) {x y : Int32} {off : Int} (hd : decode cc pc = .ok (.if_icmp .le off, 3)) (ht : (pc : Int) + off = (tgt : Int)) (hn : pc + 3 = n) (kt : x ≤ y → RW K ad nL tgt lv st σ) (kf : ¬ x ≤ y → RW K ad nL n lv st σ) : RW K ad nL pc lv (.int y :: .int x :: st) σ := by
  obtain ⟨p, l, e, R, s, m, args, below, meth, c, Q, D, cI, cP, A, cl, sl⟩ := K
  obtain ⟨hx, hb, hml, hown, hts, hr, hlk, hE, hcl, hsl⟩ := C
  subst hn
  exact fun H locs ls hP hS hl => lv_icmp_le hx hb hd ht (fun h => kt h H locs ls hP hS hl) (fun h => kf h H locs ls hP hS hl)
theorem r_if_le (n tgt : Nat) (C : Cx K ad cc nL own ret) {x : Int32} {off : Int} (hd : decode cc pc = .ok (.ifCond .le off, 3)) (ht : (pc : Int) + off = (tgt : Int)) (hn : pc + 3 = n) (kt : x ≤ 0 → RW K ad nL tgt lv st σ) (kf : ¬ x ≤ 0 → RW K ad nL n lv st σ) : RW K ad nL pc lv (.int x :: st) σ := by
  obtain ⟨p, l, e, R, s, m, args, below, meth, c, Q, D, cI, cP, A, cl, sl⟩ := K
  obtain ⟨hx, hb, hml, hown, hts, hr, hlk, hE, hcl, hsl⟩ := C
  subst hn
  exact fun H locs ls hP hS hl => lv_if_le hx hb hd ht (fun h => kt h H locs ls hP hS hl) (fun h => kf h H locs ls hP hS hl)
theorem r_goto (tgt : Nat) (C : Cx K ad cc nL own ret) {off : Int} (hd : decode cc pc = .ok (.goto off, 3)) (ht : (pc : Int) + off = (tgt : Int)) (k : RW K ad nL tgt lv st σ) : RW K ad nL pc lv st σ := by
  obtain ⟨p, l, e, R, s, m, args, below, meth, c, Q, D, cI, cP, A, cl, sl⟩ := K
  obtain ⟨hx, hb, hml, hown, hts, hr, hlk, hE, hcl, hsl⟩ := C
  exact fun H locs ls hP hS hl => lv_goto hx hb hd ht (k H locs ls hP hS hl)
theorem r_ifnonnull (tgt : Nat) (C : Cx K ad cc nL own ret) {x : Nat} {off : Int} (hd : decode cc pc = .ok (.ifnonnull off, 3)) (ht : (pc : Int) + off = (tgt : Int)) (k : RW K ad nL tgt lv st σ) : RW K ad nL pc lv (.ref x :: st) σ := by
  obtain ⟨p, l, e, R, s, m, args, below, meth, c, Q, D, cI, cP, A, cl, sl⟩ := K
  obtain ⟨hx, hb, hml, hown, hts, hr, hlk, hE, hcl, hsl⟩ := C
  exact fun H locs ls hP hS hl => lv_ifnonnull hx hb hd ht (k H locs ls hP hS hl)
theorem r_ifnonnullN (n : Nat) (C : Cx K ad cc nL own ret) {off : Int} (hd : decode cc pc = .ok (.ifnonnull off, 3)) (hn : pc + 3 = n) (k : RW K ad nL n lv st σ) : RW K ad nL pc lv (.null :: st) σ := by
  obtain ⟨p, l, e, R, s, m, args, below, meth, c, Q, D, cI, cP, A, cl, sl⟩ := K
  obtain ⟨hx, hb, hml, hown, hts, hr, hlk, hE, hcl, hsl⟩ := C
  subst hn
  exact fun H locs ls hP hS hl => lv_ifnonnullN hx hb hd (k H locs ls hP hS hl)
theorem r_nm {x y : Int32} (e : x = y) (k : RW K ad nL pc lv (.int x :: st) σ) : RW K ad nL pc lv (.int y :: st) σ := e ▸ k
theorem r_st {σ' : S2} (e : σ' = σ) (k : RW K ad nL pc lv st σ') : RW K ad nL pc lv st σ := e ▸ k
theorem r_sub (lv' : List (Nat × Value)) (ks : List Nat) (hv : lv_pick lv ks = lv') (k : RW K ad nL pc lv' st σ) : RW K ad nL pc lv st σ := by
  obtain ⟨p, l, e, R, s, m, args, below, meth, c, Q, D, cI, cP, A, cl, sl⟩ := K
  exact fun H locs ls hP hS hl => k H locs ls hP hS (lv_sub hl ks hv)
theorem r_get (n k0 j : Nat) (C : Cx K ad cc nL own ret) {Cn ref : String} {T : u_T} {N ci index : Nat} {fs : List Value} {v : Value} (hin : ∀ w ∈ u_ws Cn T N, w ∈ tblG) (he : ∀ cI cP : ClassId, (wd ad cI cP σ)[k0]? = some (ad k0, .inr (ci, fs))) (hc : vwCl[ci]? = some (Cn, T, N)) (hj : j < N) (hw : Cond.fieldLink own index ref (T j).2.1 (T j).2.2.1 ∈ tblG) (hs : (T j).1 = ref) (hv : fs[j]? = some v) (hd : decode cc pc = .ok (.getfield index, 3)) (hn : pc + 3 = n) (k : RW K ad nL n lv (v :: st) σ) : RW K ad nL pc lv (.ref (ad k0) :: st) σ := by
  obtain ⟨p, l, e, R, s, m, args, below, meth, c, Q, D, cI, cP, A, cl, sl⟩ := K
  obtain ⟨hx, hb, hml, hown, hts, hr, hlk, hE, hcl, hsl⟩ := C
  subst hn
  subst hs
  exact fun H locs ls hP hS hl => va_get hx hb hts hin hown hE.1 hP k0 (he cI cP) hc j hj (hts _ hw) (fun _ h => h) hv hd (k H locs ls hP hS hl)
theorem r_put (n k0 j : Nat) (C : Cx K ad cc nL own ret) {Cn ref : String} {T : u_T} {N ci index : Nat} {fs : List Value} {ty0 : Nat → FieldType} {ty : FieldType} {v : Int32} {σ' : S2} (hin : ∀ w ∈ u_ws Cn T N, w ∈ tblG) (hty : ∀ k, k < N → parseFieldDescriptor (T k).2.2.1 = some (ty0 k)) (hnm : ∀ a, a < N → ∀ b, b < N → a ≠ b → (T a).2.1 ≠ (T b).2.1) (he : ∀ cI cP : ClassId, (wd ad cI cP σ)[k0]? = some (ad k0, .inr (ci, fs))) (hset : ∀ cI cP : ClassId, (wd ad cI cP σ).set k0 (ad k0, .inr (ci, fs.set j (.int v))) = wd ad cI cP σ') (hc : vwCl[ci]? = some (Cn, T, N)) (hj : j < N) (hw : Cond.fieldLink own index ref (T j).2.1 (T j).2.2.1 ∈ tblG) (hs : (T j).1 = ref) (hfin : (T j).2.2.2 = false) (hdd : parseFieldDescriptor (T j).2.2.1 = some ty) (hnr : narrow ty (.int v) = .int v) (hft : fits ty (.int v) = true) (hlen : j < fs.length) (hd : decode cc pc = .ok (.putfield index, 3)) (hn : pc + 3 = n) (k : RW K ad nL n lv st σ') : RW K ad nL pc lv (.int v :: .ref (ad k0) :: st) σ := by
  obtain ⟨p, l, e, R, s, m, args, below, meth, c, Q, D, cI, cP, A, cl, sl⟩ := K
  obtain ⟨hx, hb, hml, hown, hts, hr, hlk, hE, hcl, hsl⟩ := C
  subst hn
  subst hs
  exact fun H locs ls hP hS hl => va_put hx hb hts hin ty0 hty hnm hown hE.1 hP (hE.2.2.1 σ) hS k0 (he cI cP) hc j hj (hts _ hw) (fun _ h => h) hfin hdd hnr hft hlen hd (fun H1 locs1 hP1 _ hS1 => k H1 locs1 ls (by rw [← hset]; exact hP1) hS1 hl)
theorem r_getN (n k0 j : Nat) (C : Cx K ad cc nL own ret) {Cn ref : String} {T : u_T} {N ci index : Nat} {fs : List Value} {host : String} {v : Value} (hin : ∀ w ∈ u_ws Cn T N, w ∈ tblG) (he : ∀ cI cP : ClassId, (wd ad cI cP σ)[k0]? = some (ad k0, .inr (ci, fs))) (hc : vwCl[ci]? = some (Cn, T, N)) (hj : j < N) (hw : Cond.fieldLinkNest own index ref (T j).2.1 (T j).2.2.1 host ∈ tblN) (hs : (T j).1 = ref) (hv : fs[j]? = some v) (hd : decode cc pc = .ok (.getfield index, 3)) (hn : pc + 3 = n) (k : RW K ad nL n lv (v :: st) σ) : RW K ad nL pc lv (.ref (ad k0) :: st) σ := by
  obtain ⟨p, l, e, R, s, m, args, below, meth, c, Q, D, cI, cP, A, cl, sl⟩ := K
  obtain ⟨hx, hb, hml, hown, hts, hr, hlk, hE, hcl, hsl⟩ := C
  subst hn
  subst hs
  exact fun H locs ls hP hS hl => va_getN hx hb hts hin hown hE.1 hP k0 (he cI cP) hc j hj (va_Nw.use rfl (hE.2.1 _ hw)) (fun _ h => h) hv hd (k H locs ls hP hS hl)
theorem r_putN (n k0 j : Nat) (C : Cx K ad cc nL own ret) {Cn ref : String} {T : u_T} {N ci index : Nat} {fs : List Value} {host : String} {ty0 : Nat → FieldType} {ty : FieldType} {v : Int32} {σ' : S2} (hin : ∀ w ∈ u_ws Cn T N, w ∈ tblG) (hty : ∀ k, k < N → parseFieldDescriptor (T k).2.2.1 = some (ty0 k)) (hnm : ∀ a, a < N → ∀ b, b < N → a ≠ b → (T a).2.1 ≠ (T b).2.1) (he : ∀ cI cP : ClassId, (wd ad cI cP σ)[k0]? = some (ad k0, .inr (ci, fs))) (hset : ∀ cI cP : ClassId, (wd ad cI cP σ).set k0 (ad k0, .inr (ci, fs.set j (.int v))) = wd ad cI cP σ') (hc : vwCl[ci]? = some (Cn, T, N)) (hj : j < N) (hw : Cond.fieldLinkNest own index ref (T j).2.1 (T j).2.2.1 host ∈ tblN) (hs : (T j).1 = ref) (hfin : (T j).2.2.2 = false) (hdd : parseFieldDescriptor (T j).2.2.1 = some ty) (hnr : narrow ty (.int v) = .int v) (hft : fits ty (.int v) = true) (hlen : j < fs.length) (hd : decode cc pc = .ok (.putfield index, 3)) (hn : pc + 3 = n) (k : RW K ad nL n lv st σ') : RW K ad nL pc lv (.int v :: .ref (ad k0) :: st) σ := by
  obtain ⟨p, l, e, R, s, m, args, below, meth, c, Q, D, cI, cP, A, cl, sl⟩ := K
  obtain ⟨hx, hb, hml, hown, hts, hr, hlk, hE, hcl, hsl⟩ := C
  subst hn
  subst hs
  exact fun H locs ls hP hS hl => va_putN hx hb hts hin ty0 hty hnm hown hE.1 hP (hE.2.2.1 σ) hS k0 (he cI cP) hc j hj (va_Nw.use rfl (hE.2.1 _ hw)) (fun _ h => h) hfin hdd hnr hft hlen hd (fun H1 locs1 hP1 _ hS1 => k H1 locs1 ls (by rw [← hset]; exact hP1) hS1 hl)
theorem r_iaload (n k0 N : Nat) (C : Cx K ad cc nL own ret) {i : Int32} (he : ∀ cI cP : ClassId, (wd ad cI cP σ)[k0]? = some (ad k0, .inl (cI, N, .inl (σ k0)))) (hi : inb i N = true) (hd : decode cc pc = .ok (.iaload, 1)) (hn : pc + 1 = n) (k : RW K ad nL n lv (.int (σ k0 i.toNatClampNeg) :: st) σ) : RW K ad nL pc lv (.int i :: .ref (ad k0) :: st) σ := by
  obtain ⟨p, l, e, R, s, m, args, below, meth, c, Q, D, cI, cP, A, cl, sl⟩ := K
  obtain ⟨hx, hb, hml, hown, hts, hr, hlk, hE, hcl, hsl⟩ := C
  subst hn
  exact fun H locs ls hP hS hl => va_iald hx hb hE.1 hP k0 0 (he cI cP) rfl (inb_in hi) hd (k H locs ls hP hS hl)
theorem r_iastore (n k0 N : Nat) (C : Cx K ad cc nL own ret) {i x : Int32} (he : ∀ cI cP : ClassId, (wd ad cI cP σ)[k0]? = some (ad k0, .inl (cI, N, .inl (σ k0)))) (hset : ∀ (f : Nat → Int32) (cI cP : ClassId), (wd ad cI cP σ).set k0 (ad k0, .inl (cI, N, .inl f)) = wd ad cI cP (va_up σ k0 f)) (hi : inb i N = true) (hd : decode cc pc = .ok (.iastore, 1)) (hn : pc + 1 = n) (k : RW K ad nL n lv st (wr σ k0 i.toNatClampNeg x)) : RW K ad nL pc lv (.int x :: .int i :: .ref (ad k0) :: st) σ := by
  obtain ⟨p, l, e, R, s, m, args, below, meth, c, Q, D, cI, cP, A, cl, sl⟩ := K
  obtain ⟨hx, hb, hml, hown, hts, hr, hlk, hE, hcl, hsl⟩ := C
  subst hn
  exact fun H locs ls hP hS hl => va_iast hx hb hE.1 hP (hE.2.2.1 σ) hS k0 0 (he cI cP) rfl (inb_in hi) hd (fun H1 locs1 hP1 _ hS1 => k H1 locs1 ls (by unfold wr; rw [← hset]; exact hP1) hS1 hl)
theorem r_mabs (n : Nat) (C : Cx K ad cc nL own ret) {fr lc index : Nat} (hR : Rm K fr lc) {x : Int32} (hw : Cond.methodLink own index Lib.Math.abs.name ∈ tblG) (h1 : Cond.static Lib.Math.abs.name ∈ tblG) (h2 : Cond.initialized "java/lang/Math" ∈ tblG) (h3 : Cond.code Lib.Math.abs.name Lib.Math.abs.code 1 (some .int) ∈ tblG) (hf : 1 ≤ fr) (hlo : (st.map fun v => v.category).sum + 13 ≤ lc) (hd : decode cc pc = .ok (.invokestatic index, 3)) (hn : pc + 3 = n) (k : RW K ad nL n lv (.int (if 0 ≤ x then x else 0 - x) :: st) σ) : RW K ad nL pc lv (.int x :: st) σ := by
  obtain ⟨p, l, e, R, s, m, args, below, meth, c, Q, D, cI, cP, A, cl, sl⟩ := K
  obtain ⟨hx, hb, hml, hown, hts, hr, hlk, hE, hcl, hsl⟩ := C
  subst hn
  exact fun H locs ls hP hS hl => va_mabs hx hb (hml.trans hl.1.symm) hown (hts _ hw) (hts _ h1) (hts _ h2) (hts _ h3) (Nat.le_trans hf hR.1) (Nat.le_trans hlo hR.2) hcl hsl hd (k H locs ls hP hS hl)
theorem r_mmax (n : Nat) (C : Cx K ad cc nL own ret) {fr lc index : Nat} (hR : Rm K fr lc) {x y : Int32} (hw : Cond.methodLink own index Lib.Math.max.name ∈ tblG) (h1 : Cond.static Lib.Math.max.name ∈ tblG) (h2 : Cond.initialized "java/lang/Math" ∈ tblG) (h3 : Cond.code Lib.Math.max.name Lib.Math.max.code 2 (some .int) ∈ tblG) (hf : 1 ≤ fr) (hlo : (st.map fun v => v.category).sum + 13 ≤ lc) (hd : decode cc pc = .ok (.invokestatic index, 3)) (hn : pc + 3 = n) (k : RW K ad nL n lv (.int (if x < y then y else x) :: st) σ) : RW K ad nL pc lv (.int y :: .int x :: st) σ := by
  obtain ⟨p, l, e, R, s, m, args, below, meth, c, Q, D, cI, cP, A, cl, sl⟩ := K
  obtain ⟨hx, hb, hml, hown, hts, hr, hlk, hE, hcl, hsl⟩ := C
  subst hn
  exact fun H locs ls hP hS hl => va_mmax hx hb (hml.trans hl.1.symm) hown (hts _ hw) (hts _ h1) (hts _ h2) (hts _ h3) (Nat.le_trans hf hR.1) (Nat.le_trans hlo hR.2) hcl hsl hd (k H locs ls hP hS hl)
theorem r_mmin (n : Nat) (C : Cx K ad cc nL own ret) {fr lc index : Nat} (hR : Rm K fr lc) {x y : Int32} (hw : Cond.methodLink own index Lib.Math.min.name ∈ tblG) (h1 : Cond.static Lib.Math.min.name ∈ tblG) (h2 : Cond.initialized "java/lang/Math" ∈ tblG) (h3 : Cond.code Lib.Math.min.name Lib.Math.min.code 2 (some .int) ∈ tblG) (hf : 1 ≤ fr) (hlo : (st.map fun v => v.category).sum + 13 ≤ lc) (hd : decode cc pc = .ok (.invokestatic index, 3)) (hn : pc + 3 = n) (k : RW K ad nL n lv (.int (if y < x then y else x) :: st) σ) : RW K ad nL pc lv (.int y :: .int x :: st) σ := by
  obtain ⟨p, l, e, R, s, m, args, below, meth, c, Q, D, cI, cP, A, cl, sl⟩ := K
  obtain ⟨hx, hb, hml, hown, hts, hr, hlk, hE, hcl, hsl⟩ := C
  subst hn
  exact fun H locs ls hP hS hl => va_mmin hx hb (hml.trans hl.1.symm) hown (hts _ hw) (hts _ h1) (hts _ h2) (hts _ h3) (Nat.le_trans hf hR.1) (Nat.le_trans hlo hR.2) hcl hsl hd (k H locs ls hP hS hl)
theorem r_iret {r v : Int32} {σ' : S2} (C : Cx K ad cc nL own (some .int)) (E : EI K ad r σ') (hv : v = r) (hs : σ = σ') (hd : decode cc pc = .ok (.ireturn, 1)) : RW K ad nL pc lv [.int v] σ := by
  obtain ⟨p, l, e, R, s, m, args, below, meth, c, Q, D, cI, cP, A, cl, sl⟩ := K
  obtain ⟨hx, hb, hml, hown, hts, hr, hlk, hE, hcl, hsl⟩ := C
  subst hv
  subst hs
  have hQ : Q = MQ below (QI D ad cI cP A v σ) args s cl sl A := E
  subst hQ
  exact fun H locs ls hP hS hl => W.iret hx hb hr (fun t ht hW => ⟨⟨v, σ, rfl, ⟨rfl, rfl⟩, by subst ht; exact hP⟩, hS.F ht⟩) hS.2.2 hd hlk
theorem r_zret {r v : Int32} {σ' : S2} {ty : FieldType} (C : Cx K ad cc nL own (some ty)) (E : EI K ad r σ') (hnr : narrow ty (.int v) = .int v) (hv : v = r) (hs : σ = σ') (hd : decode cc pc = .ok (.ireturn, 1)) : RW K ad nL pc lv [.int v] σ := by
  obtain ⟨p, l, e, R, s, m, args, below, meth, c, Q, D, cI, cP, A, cl, sl⟩ := K
  obtain ⟨hx, hb, hml, hown, hts, hr, hlk, hE, hcl, hsl⟩ := C
  subst hv
  subst hs
  have hQ : Q = MQ below (QI D ad cI cP A v σ) args s cl sl A := E
  subst hQ
  exact fun H locs ls hP hS hl => W.zret hx hb hr hnr (fun t ht hW => ⟨⟨v, σ, rfl, ⟨rfl, rfl⟩, by subst ht; exact hP⟩, hS.F ht⟩) hS.2.2 hd hlk
theorem r_vret {σ' : S2} (C : Cx K ad cc nL own none) (E : EV K ad σ') (hs : σ = σ') (hd : decode cc pc = .ok (.return_, 1)) : RW K ad nL pc lv [] σ := by
  obtain ⟨p, l, e, R, s, m, args, below, meth, c, Q, D, cI, cP, A, cl, sl⟩ := K
  obtain ⟨hx, hb, hml, hown, hts, hr, hlk, hE, hcl, hsl⟩ := C
  subst hs
  have hQ : Q = MQ below (QV D ad cI cP A σ) args s cl sl A := E
  subst hQ
  exact fun H locs ls hP hS hl => W.vret hx hb hr (fun t ht hW => ⟨⟨σ, rfl, rfl, by subst ht; exact hP⟩, hS.F ht⟩) hS.2.2 hd hlk
theorem r_qret {r : Option Nat} {σ' : S2} {cn : String} (C : Cx K ad cc nL own (some (.object cn))) (E : EQ K ad r σ') (hs : σ = σ') {v : Value} (hv : v = va_rf (r.map ad)) (hd : decode cc pc = .ok (.areturn, 1)) : RW K ad nL pc lv [v] σ := by
  obtain ⟨p, l, e, R, s, m, args, below, meth, c, Q, D, cI, cP, A, cl, sl⟩ := K
  obtain ⟨hx, hb, hml, hown, hts, hr, hlk, hE, hcl, hsl⟩ := C
  subst hv
  subst hs
  have hQ : Q = MQ below (QQ D ad cI cP A r σ) args s cl sl A := E
  subst hQ
  exact fun H locs ls hP hS hl => W.aret hx hb hr (Or.inl ⟨_, rfl⟩) (va_rf_or _) (fun t ht hW => ⟨⟨r.map ad, σ, rfl, ⟨rfl, rfl⟩, by subst ht; exact hP⟩, hS.F ht⟩) hS.2.2 hd hlk
/-- what the tables say of a method that is called -/
def Cal (y : MethodName) (cc : ByteArray) (nL : Nat) (ret : Option FieldType) (np : Nat) : Prop := Cond.code y cc nL ret ∈ tblG ∧ Cond.initialized y.cls ∈ tblG ∧ (y.cls ≠ "java/lang/invoke/MethodHandle" ∧ y.cls ≠ "java/lang/invoke/VarHandle" ∧ (parseMethodDescriptor y.desc).map (fun d => d.parameters.length) = some np)
theorem r_cVI (n : Nat) (As : List Value) (C : Cx K ad cc nL own ret) {fr lc fr' lc' : Nat} (hR : Rm K fr lc) {y : MethodName} {cb : ByteArray} {mL np index : Nat} {rt : Option FieldType} {r : Int32} {k0 : Nat} {σ' : S2} (hM : HI y cb mL rt fr' lc' ad (.ref (ad k0) :: As) σ r σ') (ca : Cal y cb mL rt np) (hw : Cond.methodLink own index y ∈ tblG) {ci : Nat} {q : vw_C} {fs : List Value} (he : ∀ cI cP : ClassId, (wd ad cI cP σ)[k0]? = some (ad k0, .inr (ci, fs))) (hc : vwCl[ci]? = some q) (hq : q.1 = y.cls) (h1 : Cond.instanceMethod y ∈ tblG) (h2 : Cond.selects y.cls y y ∈ tblG) (hf : fr' + 1 ≤ fr) (hlo : 8 + (mL + 11) + lc' ≤ lc) (hnp : As.length = np) {st0 : List Value} (hst : st0 = As.reverse ++ .ref (ad k0) :: st) (hcat : (st.map fun v => v.category).sum ≤ 8) (hd : decode cc pc = .ok (.invokevirtual index, 3)) (hn : pc + 3 = n) (k : RW K ad nL n lv (.int r :: st) σ') : RW K ad nL pc lv st0 σ := by
  obtain ⟨p, l, e, R, s, m, args, below, meth, c, Q, D, cI, cP, A, cl, sl⟩ := K
  obtain ⟨hx, hb, hml, hown, hts, hr, hlk, hE, hcl, hsl⟩ := C
  subst hn
  subst hst
  subst hnp
  intro H locs ls hP hS hl
  have hrc := va_recv hE.1 hP hc (he cI cP)
  rw [hq] at hrc
  refine va_calli (va_runV (As := As) (rest := st) ⟨hx, hb, hml, hown, hts⟩ (hM l D cI cP A) ⟨callB_of As.length hts (gAll (fun w h => h) ca.1) rfl rfl rfl (hts _ ca.2.1) (hts _ hw) ca.2.2 ⟨Nat.le_trans hf hR.1, Nat.le_trans hlo hR.2⟩, hts _ h1, hts _ h2⟩ ⟨PW.blind, hrc, fun U hU hW => ⟨rfl, hE.warm hS hU hW, by rw [hU]; exact hP⟩⟩ rfl rfl hl.1 rfl (lv_room hcat) hd ⟨hcl, hsl⟩) hS (fun q _ h => h) (fun q h => h) (fun r1 u t H1 locs1 ht hvm hw1 hB _ _ hS1 => ?_)
  obtain ⟨rfl, rfl⟩ := hw1
  exact k H1 locs1 ls (by rw [← ht]; exact hB) hS1 hl
theorem r_cVNI (n : Nat) (As : List Value) (C : Cx K ad cc nL own ret) {fr lc fr' lc' : Nat} (hR : Rm K fr lc) {y : MethodName} {cb : ByteArray} {mL np index : Nat} {rt : Option FieldType} {host : String} {r : Int32} {k0 : Nat} {σ' : S2} (hM : HI y cb mL rt fr' lc' ad (.ref (ad k0) :: As) σ r σ') (ca : Cal y cb mL rt np) (hw : Cond.methodLinkNest own index y host ∈ tblN) {ci : Nat} {q : vw_C} {fs : List Value} (he : ∀ cI cP : ClassId, (wd ad cI cP σ)[k0]? = some (ad k0, .inr (ci, fs))) (hc : vwCl[ci]? = some q) (hq : q.1 = y.cls) (h1 : Cond.instanceMethod y ∈ tblG) (h2 : Cond.selects y.cls y y ∈ tblG) (hf : fr' + 1 ≤ fr) (hlo : 8 + (mL + 11) + lc' ≤ lc) (hnp : As.length = np) {st0 : List Value} (hst : st0 = As.reverse ++ .ref (ad k0) :: st) (hcat : (st.map fun v => v.category).sum ≤ 8) (hd : decode cc pc = .ok (.invokevirtual index, 3)) (hn : pc + 3 = n) (k : RW K ad nL n lv (.int r :: st) σ') : RW K ad nL pc lv st0 σ := by
  obtain ⟨p, l, e, R, s, m, args, below, meth, c, Q, D, cI, cP, A, cl, sl⟩ := K
  obtain ⟨hx, hb, hml, hown, hts, hr, hlk, hE, hcl, hsl⟩ := C
  subst hn
  subst hst
  subst hnp
  intro H locs ls hP hS hl
  have hrc := va_recv hE.1 hP hc (he cI cP)
  rw [hq] at hrc
  refine va_calli (va_runVN (As := As) (rest := st) ⟨hx, hb, hml, hown, hts⟩ (hM l D cI cP A) ⟨va_cnB As.length hts (gAll (fun w h => h) ca.1) rfl rfl rfl (hE.2.1 _ hw) (hts _ ca.2.1) ca.2.2 ⟨Nat.le_trans hf hR.1, Nat.le_trans hlo hR.2⟩, hts _ h1, hts _ h2⟩ ⟨PW.blind, hrc, fun U hU hW => ⟨rfl, hE.warm hS hU hW, by rw [hU]; exact hP⟩⟩ rfl rfl hl.1 rfl (lv_room hcat) hd ⟨hcl, hsl⟩) hS (fun q _ h => h) (fun q h => h) (fun r1 u t H1 locs1 ht hvm hw1 hB _ _ hS1 => ?_)
  obtain ⟨rfl, rfl⟩ := hw1
  exact k H1 locs1 ls (by rw [← ht]; exact hB) hS1 hl
theorem r_cSI (n : Nat) (As : List Value) (C : Cx K ad cc nL own ret) {fr lc fr' lc' : Nat} (hR : Rm K fr lc) {y : MethodName} {cb : ByteArray} {mL np index : Nat} {rt : Option FieldType} {r : Int32} {σ' : S2} (hM : HI y cb mL rt fr' lc' ad As σ r σ') (ca : Cal y cb mL rt np) (hw : Cond.methodLink own index y ∈ tblG) (h1 : Cond.static y ∈ tblG) (hf : fr' + 1 ≤ fr) (hlo : 8 + (mL + 11) + lc' ≤ lc) (hnp : As.length = np) {st0 : List Value} (hst : st0 = As.reverse ++ st) (hcat : (st.map fun v => v.category).sum ≤ 8) (hd : decode cc pc = .ok (.invokestatic index, 3)) (hn : pc + 3 = n) (k : RW K ad nL n lv (.int r :: st) σ') : RW K ad nL pc lv st0 σ := by
  obtain ⟨p, l, e, R, s, m, args, below, meth, c, Q, D, cI, cP, A, cl, sl⟩ := K
  obtain ⟨hx, hb, hml, hown, hts, hr, hlk, hE, hcl, hsl⟩ := C
  subst hn
  subst hst
  subst hnp
  intro H locs ls hP hS hl
  refine va_calli (va_runS (As := As) (rest := st) ⟨hx, hb, hml, hown, hts⟩ (hM l D cI cP A) ⟨callB_of As.length hts (gAll (fun w h => h) ca.1) rfl rfl rfl (hts _ ca.2.1) (hts _ hw) ca.2.2 ⟨Nat.le_trans hf hR.1, Nat.le_trans hlo hR.2⟩, hts _ h1⟩ ⟨PW.blind, fun U hU hW => ⟨rfl, hE.warm hS hU hW, by rw [hU]; exact hP⟩⟩ rfl rfl hl.1 rfl (lv_room hcat) hd ⟨hcl, hsl⟩) hS (fun q _ h => h) (fun q h => h) (fun r1 u t H1 locs1 ht hvm hw1 hB _ _ hS1 => ?_)
  obtain ⟨rfl, rfl⟩ := hw1
  exact k H1 locs1 ls (by rw [← ht]; exact hB) hS1 hl
theorem r_cSNI (n : Nat) (As : List Value) (C : Cx K ad cc nL own ret) {fr lc fr' lc' : Nat} (hR : Rm K fr lc) {y : MethodName} {cb : ByteArray} {mL np index : Nat} {rt : Option FieldType} {host : String} {r : Int32} {σ' : S2} (hM : HI y cb mL rt fr' lc' ad As σ r σ') (ca : Cal y cb mL rt np) (hw : Cond.methodLinkNest own index y host ∈ tblN) (h1 : Cond.static y ∈ tblG) (hf : fr' + 1 ≤ fr) (hlo : 8 + (mL + 11) + lc' ≤ lc) (hnp : As.length = np) {st0 : List Value} (hst : st0 = As.reverse ++ st) (hcat : (st.map fun v => v.category).sum ≤ 8) (hd : decode cc pc = .ok (.invokestatic index, 3)) (hn : pc + 3 = n) (k : RW K ad nL n lv (.int r :: st) σ') : RW K ad nL pc lv st0 σ := by
  obtain ⟨p, l, e, R, s, m, args, below, meth, c, Q, D, cI, cP, A, cl, sl⟩ := K
  obtain ⟨hx, hb, hml, hown, hts, hr, hlk, hE, hcl, hsl⟩ := C
  subst hn
  subst hst
  subst hnp
  intro H locs ls hP hS hl
  refine va_calli (va_runSN (As := As) (rest := st) ⟨hx, hb, hml, hown, hts⟩ (hM l D cI cP A) ⟨va_cnB As.length hts (gAll (fun w h => h) ca.1) rfl rfl rfl (hE.2.1 _ hw) (hts _ ca.2.1) ca.2.2 ⟨Nat.le_trans hf hR.1, Nat.le_trans hlo hR.2⟩, hts _ h1, trivial⟩ ⟨PW.blind, fun U hU hW => ⟨rfl, hE.warm hS hU hW, by rw [hU]; exact hP⟩⟩ rfl rfl hl.1 rfl (lv_room hcat) hd ⟨hcl, hsl⟩) hS (fun q _ h => h) (fun q h => h) (fun r1 u t H1 locs1 ht hvm hw1 hB _ _ hS1 => ?_)
  obtain ⟨rfl, rfl⟩ := hw1
  exact k H1 locs1 ls (by rw [← ht]; exact hB) hS1 hl
theorem r_cVV (n : Nat) (As : List Value) (C : Cx K ad cc nL own ret) {fr lc fr' lc' : Nat} (hR : Rm K fr lc) {y : MethodName} {cb : ByteArray} {mL np index : Nat} {rt : Option FieldType} {k0 : Nat} {σ' : S2} (hM : HV y cb mL rt fr' lc' ad (.ref (ad k0) :: As) σ σ') (ca : Cal y cb mL rt np) (hw : Cond.methodLink own index y ∈ tblG) {ci : Nat} {q : vw_C} {fs : List Value} (he : ∀ cI cP : ClassId, (wd ad cI cP σ)[k0]? = some (ad k0, .inr (ci, fs))) (hc : vwCl[ci]? = some q) (hq : q.1 = y.cls) (h1 : Cond.instanceMethod y ∈ tblG) (h2 : Cond.selects y.cls y y ∈ tblG) (hf : fr' + 1 ≤ fr) (hlo : 8 + (mL + 11) + lc' ≤ lc) (hnp : As.length = np) {st0 : List Value} (hst : st0 = As.reverse ++ .ref (ad k0) :: st) (hcat : (st.map fun v => v.category).sum ≤ 8) (hd : decode cc pc = .ok (.invokevirtual index, 3)) (hn : pc + 3 = n) (k : RW K ad nL n lv (st) σ') : RW K ad nL pc lv st0 σ := by
  obtain ⟨p, l, e, R, s, m, args, below, meth, c, Q, D, cI, cP, A, cl, sl⟩ := K
  obtain ⟨hx, hb, hml, hown, hts, hr, hlk, hE, hcl, hsl⟩ := C
  subst hn
  subst hst
  subst hnp
  intro H locs ls hP hS hl
  have hrc := va_recv hE.1 hP hc (he cI cP)
  rw [hq] at hrc
  refine va_callv (va_runV (As := As) (rest := st) ⟨hx, hb, hml, hown, hts⟩ (hM l D cI cP A) ⟨callB_of As.length hts (gAll (fun w h => h) ca.1) rfl rfl rfl (hts _ ca.2.1) (hts _ hw) ca.2.2 ⟨Nat.le_trans hf hR.1, Nat.le_trans hlo hR.2⟩, hts _ h1, hts _ h2⟩ ⟨PW.blind, hrc, fun U hU hW => ⟨rfl, hE.warm hS hU hW, by rw [hU]; exact hP⟩⟩ rfl rfl hl.1 rfl (lv_room hcat) hd ⟨hcl, hsl⟩) hS (fun q _ h => h) (fun q h => h) (fun u t H1 locs1 ht hvm hw1 hB _ _ hS1 => ?_)
  obtain rfl := hw1
  exact k H1 locs1 ls (by rw [← ht]; exact hB) hS1 hl
theorem r_cVNV (n : Nat) (As : List Value) (C : Cx K ad cc nL own ret) {fr lc fr' lc' : Nat} (hR : Rm K fr lc) {y : MethodName} {cb : ByteArray} {mL np index : Nat} {rt : Option FieldType} {host : String} {k0 : Nat} {σ' : S2} (hM : HV y cb mL rt fr' lc' ad (.ref (ad k0) :: As) σ σ') (ca : Cal y cb mL rt np) (hw : Cond.methodLinkNest own index y host ∈ tblN) {ci : Nat} {q : vw_C} {fs : List Value} (he : ∀ cI cP : ClassId, (wd ad cI cP σ)[k0]? = some (ad k0, .inr (ci, fs))) (hc : vwCl[ci]? = some q) (hq : q.1 = y.cls) (h1 : Cond.instanceMethod y ∈ tblG) (h2 : Cond.selects y.cls y y ∈ tblG) (hf : fr' + 1 ≤ fr) (hlo : 8 + (mL + 11) + lc' ≤ lc) (hnp : As.length = np) {st0 : List Value} (hst : st0 = As.reverse ++ .ref (ad k0) :: st) (hcat : (st.map fun v => v.category).sum ≤ 8) (hd : decode cc pc = .ok (.invokevirtual index, 3)) (hn : pc + 3 = n) (k : RW K ad nL n lv (st) σ') : RW K ad nL pc lv st0 σ := by
  obtain ⟨p, l, e, R, s, m, args, below, meth, c, Q, D, cI, cP, A, cl, sl⟩ := K
  obtain ⟨hx, hb, hml, hown, hts, hr, hlk, hE, hcl, hsl⟩ := C
  subst hn
  subst hst
  subst hnp
  intro H locs ls hP hS hl
  have hrc := va_recv hE.1 hP hc (he cI cP)
  rw [hq] at hrc
  refine va_callv (va_runVN (As := As) (rest := st) ⟨hx, hb, hml, hown, hts⟩ (hM l D cI cP A) ⟨va_cnB As.length hts (gAll (fun w h => h) ca.1) rfl rfl rfl (hE.2.1 _ hw) (hts _ ca.2.1) ca.2.2 ⟨Nat.le_trans hf hR.1, Nat.le_trans hlo hR.2⟩, hts _ h1, hts _ h2⟩ ⟨PW.blind, hrc, fun U hU hW => ⟨rfl, hE.warm hS hU hW, by rw [hU]; exact hP⟩⟩ rfl rfl hl.1 rfl (lv_room hcat) hd ⟨hcl, hsl⟩) hS (fun q _ h => h) (fun q h => h) (fun u t H1 locs1 ht hvm hw1 hB _ _ hS1 => ?_)
  obtain rfl := hw1
  exact k H1 locs1 ls (by rw [← ht]; exact hB) hS1 hl
theorem r_cSV (n : Nat) (As : List Value) (C : Cx K ad cc nL own ret) {fr lc fr' lc' : Nat} (hR : Rm K fr lc) {y : MethodName} {cb : ByteArray} {mL np index : Nat} {rt : Option FieldType} {σ' : S2} (hM : HV y cb mL rt fr' lc' ad As σ σ') (ca : Cal y cb mL rt np) (hw : Cond.methodLink own index y ∈ tblG) (h1 : Cond.static y ∈ tblG) (hf : fr' + 1 ≤ fr) (hlo : 8 + (mL + 11) + lc' ≤ lc) (hnp : As.length = np) {st0 : List Value} (hst : st0 = As.reverse ++ st) (hcat : (st.map fun v => v.category).sum ≤ 8) (hd : decode cc pc = .ok (.invokestatic index, 3)) (hn : pc + 3 = n) (k : RW K ad nL n lv (st) σ') : RW K ad nL pc lv st0 σ := by
  obtain ⟨p, l, e, R, s, m, args, below, meth, c, Q, D, cI, cP, A, cl, sl⟩ := K
  obtain ⟨hx, hb, hml, hown, hts, hr, hlk, hE, hcl, hsl⟩ := C
  subst hn
  subst hst
  subst hnp
  intro H locs ls hP hS hl
  refine va_callv (va_runS (As := As) (rest := st) ⟨hx, hb, hml, hown, hts⟩ (hM l D cI cP A) ⟨callB_of As.length hts (gAll (fun w h => h) ca.1) rfl rfl rfl (hts _ ca.2.1) (hts _ hw) ca.2.2 ⟨Nat.le_trans hf hR.1, Nat.le_trans hlo hR.2⟩, hts _ h1⟩ ⟨PW.blind, fun U hU hW => ⟨rfl, hE.warm hS hU hW, by rw [hU]; exact hP⟩⟩ rfl rfl hl.1 rfl (lv_room hcat) hd ⟨hcl, hsl⟩) hS (fun q _ h => h) (fun q h => h) (fun u t H1 locs1 ht hvm hw1 hB _ _ hS1 => ?_)
  obtain rfl := hw1
  exact k H1 locs1 ls (by rw [← ht]; exact hB) hS1 hl
theorem r_cSNV (n : Nat) (As : List Value) (C : Cx K ad cc nL own ret) {fr lc fr' lc' : Nat} (hR : Rm K fr lc) {y : MethodName} {cb : ByteArray} {mL np index : Nat} {rt : Option FieldType} {host : String} {σ' : S2} (hM : HV y cb mL rt fr' lc' ad As σ σ') (ca : Cal y cb mL rt np) (hw : Cond.methodLinkNest own index y host ∈ tblN) (h1 : Cond.static y ∈ tblG) (hf : fr' + 1 ≤ fr) (hlo : 8 + (mL + 11) + lc' ≤ lc) (hnp : As.length = np) {st0 : List Value} (hst : st0 = As.reverse ++ st) (hcat : (st.map fun v => v.category).sum ≤ 8) (hd : decode cc pc = .ok (.invokestatic index, 3)) (hn : pc + 3 = n) (k : RW K ad nL n lv (st) σ') : RW K ad nL pc lv st0 σ := by
  obtain ⟨p, l, e, R, s, m, args, below, meth, c, Q, D, cI, cP, A, cl, sl⟩ := K
  obtain ⟨hx, hb, hml, hown, hts, hr, hlk, hE, hcl, hsl⟩ := C
  subst hn
  subst hst
  subst hnp
  intro H locs ls hP hS hl
  refine va_callv (va_runSN (As := As) (rest := st) ⟨hx, hb, hml, hown, hts⟩ (hM l D cI cP A) ⟨va_cnB As.length hts (gAll (fun w h => h) ca.1) rfl rfl rfl (hE.2.1 _ hw) (hts _ ca.2.1) ca.2.2 ⟨Nat.le_trans hf hR.1, Nat.le_trans hlo hR.2⟩, hts _ h1, trivial⟩ ⟨PW.blind, fun U hU hW => ⟨rfl, hE.warm hS hU hW, by rw [hU]; exact hP⟩⟩ rfl rfl hl.1 rfl (lv_room hcat) hd ⟨hcl, hsl⟩) hS (fun q _ h => h) (fun q h => h) (fun u t H1 locs1 ht hvm hw1 hB _ _ hS1 => ?_)
  obtain rfl := hw1
  exact k H1 locs1 ls (by rw [← ht]; exact hB) hS1 hl
theorem r_cVQ (n : Nat) (As : List Value) (C : Cx K ad cc nL own ret) {fr lc fr' lc' : Nat} (hR : Rm K fr lc) {y : MethodName} {cb : ByteArray} {mL np index : Nat} {rt : Option FieldType} {r : Option Nat} {k0 : Nat} {σ' : S2} (hM : HQ y cb mL rt fr' lc' ad (.ref (ad k0) :: As) σ r σ') (ca : Cal y cb mL rt np) (hw : Cond.methodLink own index y ∈ tblG) {ci : Nat} {q : vw_C} {fs : List Value} (he : ∀ cI cP : ClassId, (wd ad cI cP σ)[k0]? = some (ad k0, .inr (ci, fs))) (hc : vwCl[ci]? = some q) (hq : q.1 = y.cls) (h1 : Cond.instanceMethod y ∈ tblG) (h2 : Cond.selects y.cls y y ∈ tblG) (hf : fr' + 1 ≤ fr) (hlo : 8 + (mL + 11) + lc' ≤ lc) (hnp : As.length = np) {st0 : List Value} (hst : st0 = As.reverse ++ .ref (ad k0) :: st) (hcat : (st.map fun v => v.category).sum ≤ 8) (hd : decode cc pc = .ok (.invokevirtual index, 3)) (hn : pc + 3 = n) (k : RW K ad nL n lv (va_rf (r.map ad) :: st) σ') : RW K ad nL pc lv st0 σ := by
  obtain ⟨p, l, e, R, s, m, args, below, meth, c, Q, D, cI, cP, A, cl, sl⟩ := K
  obtain ⟨hx, hb, hml, hown, hts, hr, hlk, hE, hcl, hsl⟩ := C
  subst hn
  subst hst
  subst hnp
  intro H locs ls hP hS hl
  have hrc := va_recv hE.1 hP hc (he cI cP)
  rw [hq] at hrc
  refine va_callq (va_runV (As := As) (rest := st) ⟨hx, hb, hml, hown, hts⟩ (hM l D cI cP A) ⟨callB_of As.length hts (gAll (fun w h => h) ca.1) rfl rfl rfl (hts _ ca.2.1) (hts _ hw) ca.2.2 ⟨Nat.le_trans hf hR.1, Nat.le_trans hlo hR.2⟩, hts _ h1, hts _ h2⟩ ⟨PW.blind, hrc, fun U hU hW => ⟨rfl, hE.warm hS hU hW, by rw [hU]; exact hP⟩⟩ rfl rfl hl.1 rfl (lv_room hcat) hd ⟨hcl, hsl⟩) hS (fun q _ h => h) (fun q h => h) (fun r1 u t H1 locs1 ht hvm hw1 hB _ _ hS1 => ?_)
  obtain ⟨rfl, rfl⟩ := hw1
  exact k H1 locs1 ls (by rw [← ht]; exact hB) hS1 hl
theorem r_cVNQ (n : Nat) (As : List Value) (C : Cx K ad cc nL own ret) {fr lc fr' lc' : Nat} (hR : Rm K fr lc) {y : MethodName} {cb : ByteArray} {mL np index : Nat} {rt : Option FieldType} {host : String} {r : Option Nat} {k0 : Nat} {σ' : S2} (hM : HQ y cb mL rt fr' lc' ad (.ref (ad k0) :: As) σ r σ') (ca : Cal y cb mL rt np) (hw : Cond.methodLinkNest own index y host ∈ tblN) {ci : Nat} {q : vw_C} {fs : List Value} (he : ∀ cI cP : ClassId, (wd ad cI cP σ)[k0]? = some (ad k0, .inr (ci, fs))) (hc : vwCl[ci]? = some q) (hq : q.1 = y.cls) (h1 : Cond.instanceMethod y ∈ tblG) (h2 : Cond.selects y.cls y y ∈ tblG) (hf : fr' + 1 ≤ fr) (hlo : 8 + (mL + 11) + lc' ≤ lc) (hnp : As.length = np) {st0 : List Value} (hst : st0 = As.reverse ++ .ref (ad k0) :: st) (hcat : (st.map fun v => v.category).sum ≤ 8) (hd : decode cc pc = .ok (.invokevirtual index, 3)) (hn : pc + 3 = n) (k : RW K ad nL n lv (va_rf (r.map ad) :: st) σ') : RW K ad nL pc lv st0 σ := by
  obtain ⟨p, l, e, R, s, m, args, below, meth, c, Q, D, cI, cP, A, cl, sl⟩ := K
  obtain ⟨hx, hb, hml, hown, hts, hr, hlk, hE, hcl, hsl⟩ := C
  subst hn
  subst hst
  subst hnp
  intro H locs ls hP hS hl
  have hrc := va_recv hE.1 hP hc (he cI cP)
  rw [hq] at hrc
  refine va_callq (va_runVN (As := As) (rest := st) ⟨hx, hb, hml, hown, hts⟩ (hM l D cI cP A) ⟨va_cnB As.length hts (gAll (fun w h => h) ca.1) rfl rfl rfl (hE.2.1 _ hw) (hts _ ca.2.1) ca.2.2 ⟨Nat.le_trans hf hR.1, Nat.le_trans hlo hR.2⟩, hts _ h1, hts _ h2⟩ ⟨PW.blind, hrc, fun U hU hW => ⟨rfl, hE.warm hS hU hW, by rw [hU]; exact hP⟩⟩ rfl rfl hl.1 rfl (lv_room hcat) hd ⟨hcl, hsl⟩) hS (fun q _ h => h) (fun q h => h) (fun r1 u t H1 locs1 ht hvm hw1 hB _ _ hS1 => ?_)
  obtain ⟨rfl, rfl⟩ := hw1
  exact k H1 locs1 ls (by rw [← ht]; exact hB) hS1 hl
end RWs
theorem HI_of {y : MethodName} {cc : ByteArray} {nL fr lc : Nat} {ret : Option FieldType} {ad : Nat → Nat} {av : List Value} {σ σ' : S2} {r : Int32} (hy : plainName y.cls = true) (hsl : (lg_sl av).length ≤ nL) (h : ∀ K : Ctx, Cx K ad cc nL y.cls ret → Rm K fr lc → EI K ad r σ' → RW K ad nL 0 (lv_args 0 av) [] σ) : HI y cc nL ret fr lc ad av σ r σ' := by
  intro l D cI cP A
  refine Met.ofW (cc := cc) (maxL := nL) (ret := ret) hy rfl ?_
  intro p e s m args below meth c s₁ B hml hv
  obtain ⟨rfl, hE, hP⟩ := hv
  have hts := atoms_spec (ws := wsM y cc nL ret) B.pre
  have hown : s.vm.findClass y.cls = some m.cls := findClass_of_methodNamed B.named
  have hC : Cx (p, l, e, ({ frames := fr, cells := 0, slots := 0, locals := lc } : Room), s, m, av.toArray, below, meth, c, MQ below (QI D ad cI cP A r σ') av.toArray s 0 0 A, D, cI, cP, A, 0, 0) ad cc nL y.cls ret := ⟨B.exec, B.bytes, hml, hown, fun w hw => hts w (List.mem_cons_of_mem _ hw), B.returns, B.notSynchronized, hE, Nat.le_refl _, Nat.le_refl _⟩
  have hl := lv_entry av (n := nL) hsl
  rw [lg_entry_eq]
  exact h _ hC ⟨Nat.le_refl _, Nat.le_refl _⟩ rfl s.heap [] _ hP va_S.rf hl
theorem HV_of {y : MethodName} {cc : ByteArray} {nL fr lc : Nat} {ret : Option FieldType} {ad : Nat → Nat} {av : List Value} {σ σ' : S2} (hy : plainName y.cls = true) (hsl : (lg_sl av).length ≤ nL) (h : ∀ K : Ctx, Cx K ad cc nL y.cls ret → Rm K fr lc → EV K ad σ' → RW K ad nL 0 (lv_args 0 av) [] σ) : HV y cc nL ret fr lc ad av σ σ' := by
  intro l D cI cP A
  refine Met.ofW (cc := cc) (maxL := nL) (ret := ret) hy rfl ?_
  intro p e s m args below meth c s₁ B hml hv
  obtain ⟨rfl, hE, hP⟩ := hv
  have hts := atoms_spec (ws := wsM y cc nL ret) B.pre
  have hown : s.vm.findClass y.cls = some m.cls := findClass_of_methodNamed B.named
  have hC : Cx (p, l, e, ({ frames := fr, cells := 0, slots := 0, locals := lc } : Room), s, m, av.toArray, below, meth, c, MQ below (QV D ad cI cP A σ') av.toArray s 0 0 A, D, cI, cP, A, 0, 0) ad cc nL y.cls ret := ⟨B.exec, B.bytes, hml, hown, fun w hw => hts w (List.mem_cons_of_mem _ hw), B.returns, B.notSynchronized, hE, Nat.le_refl _, Nat.le_refl _⟩
  have hl := lv_entry av (n := nL) hsl
  rw [lg_entry_eq]
  exact h _ hC ⟨Nat.le_refl _, Nat.le_refl _⟩ rfl s.heap [] _ hP va_S.rf hl
theorem HQ_of {y : MethodName} {cc : ByteArray} {nL fr lc : Nat} {ret : Option FieldType} {ad : Nat → Nat} {av : List Value} {σ σ' : S2} {r : Option Nat} (hy : plainName y.cls = true) (hsl : (lg_sl av).length ≤ nL) (h : ∀ K : Ctx, Cx K ad cc nL y.cls ret → Rm K fr lc → EQ K ad r σ' → RW K ad nL 0 (lv_args 0 av) [] σ) : HQ y cc nL ret fr lc ad av σ r σ' := by
  intro l D cI cP A
  refine Met.ofW (cc := cc) (maxL := nL) (ret := ret) hy rfl ?_
  intro p e s m args below meth c s₁ B hml hv
  obtain ⟨rfl, hE, hP⟩ := hv
  have hts := atoms_spec (ws := wsM y cc nL ret) B.pre
  have hown : s.vm.findClass y.cls = some m.cls := findClass_of_methodNamed B.named
  have hC : Cx (p, l, e, ({ frames := fr, cells := 0, slots := 0, locals := lc } : Room), s, m, av.toArray, below, meth, c, MQ below (QQ D ad cI cP A r σ') av.toArray s 0 0 A, D, cI, cP, A, 0, 0) ad cc nL y.cls ret := ⟨B.exec, B.bytes, hml, hown, fun w hw => hts w (List.mem_cons_of_mem _ hw), B.returns, B.notSynchronized, hE, Nat.le_refl _, Nat.le_refl _⟩
  have hl := lv_entry av (n := nL) hsl
  rw [lg_entry_eq]
  exact h _ hC ⟨Nat.le_refl _, Nat.le_refl _⟩ rfl s.heap [] _ hP va_S.rf hl
