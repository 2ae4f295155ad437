def St_0 (fX fM : S2 → Option (Int32 × S2)) (Rel : S2 → Prop) : Prop := ∀ (u : S2), Rel u → ∃ r u1 u2, fX  u = some (r, u1) ∧ fM  u1 = some (r, u2) ∧ Rel u2
def St_1 (fX fM : Int32 → S2 → Option (Int32 × S2)) (Rel : S2 → Prop) : Prop := ∀ (a0 : Int32) (u : S2), Rel u → ∃ r u1 u2, fX a0 u = some (r, u1) ∧ fM a0 u1 = some (r, u2) ∧ Rel u2
def St_2 (fX fM : Int32 → Int32 → S2 → Option (Int32 × S2)) (Rel : S2 → Prop) : Prop := ∀ (a0 a1 : Int32) (u : S2), Rel u → ∃ r u1 u2, fX a0 a1 u = some (r, u1) ∧ fM a0 a1 u1 = some (r, u2) ∧ Rel u2
def St_3 (fX fM : Int32 → Int32 → Int32 → S2 → Option (Int32 × S2)) (Rel : S2 → Prop) : Prop := ∀ (a0 a1 a2 : Int32) (u : S2), Rel u → ∃ r u1 u2, fX a0 a1 a2 u = some (r, u1) ∧ fM a0 a1 a2 u1 = some (r, u2) ∧ Rel u2
def St_4 (fX fM : Int32 → Int32 → Int32 → Int32 → S2 → Option (Int32 × S2)) (Rel : S2 → Prop) : Prop := ∀ (a0 a1 a2 a3 : Int32) (u : S2), Rel u → ∃ r u1 u2, fX a0 a1 a2 a3 u = some (r, u1) ∧ fM a0 a1 a2 a3 u1 = some (r, u2) ∧ Rel u2
def St_W (fX fM : Int64 → Int32 → S2 → Option (Int32 × S2)) (Rel : S2 → Prop) : Prop := ∀ (a0 : Int64) (a1 : Int32) (u : S2), Rel u → ∃ r u1 u2, fX a0 a1 u = some (r, u1) ∧ fM a0 a1 u1 = some (r, u2) ∧ Rel u2
def Xs (K : Ctx) (b L : Nat) (xs : Nat → Int32) : Prop := match K with
  | (_, _, _, _, s, _, _, _, _, _, _, _, _, _, A, _, _) => va_X b L xs s s.heap ∧ b < s.heap.size ∧ ¬ A b
section RWl
variable {K : Ctx} {ad : Nat → Nat} {cc : ByteArray} {nL pc : Nat} {own : String} {ret : Option FieldType} {lv : List (Nat × Value)} {st : List Value} {σ : S2} {b L : Nat} {xs : Nat → Int32}
theorem r_sld (n : Nat) (C : Cx K ad cc nL own ret) (hX : Xs K b L xs) {i : Int32} (hi : inb i L = true) (hd : decode cc pc = .ok (.iaload, 1)) (hn : pc + 1 = n) (k : RW K ad nL n lv (.int (xs i.toNatClampNeg) :: st) σ) : RW K ad nL pc lv (.int i :: .ref b :: st) σ := by
  obtain ⟨p, l, e, R, s, m, args, below, meth, c, Q, D, cI, cP, A, cl, sl⟩ := K
  obtain ⟨hx, hb, hml, hown, hts, hr, hlk, hE, hcl, hsl⟩ := C
  subst hn
  exact fun H locs ls hP hS hl => va_sld hx hb hX.1 hX.2.1 hX.2.2 hS (inb_in hi) hd (k H locs ls hP hS hl)
theorem r_slen (n : Nat) (C : Cx K ad cc nL own ret) (hX : Xs K b L xs) (hd : decode cc pc = .ok (.arraylength, 1)) (hn : pc + 1 = n) (k : RW K ad nL n lv (.int (Int32.ofNat L) :: st) σ) : RW K ad nL pc lv (.ref b :: st) σ := by
  obtain ⟨p, l, e, R, s, m, args, below, meth, c, Q, D, cI, cP, A, cl, sl⟩ := K
  obtain ⟨hx, hb, hml, hown, hts, hr, hlk, hE, hcl, hsl⟩ := C
  subst hn
  exact fun H locs ls hP hS hl => va_slen hx hb hX.1 hX.2.1 hX.2.2 hS hd (k H locs ls hP hS hl)
end RWl
set_option maxRecDepth 20000 in
theorem lc_0 {K : Ctx} {ad : Nat → Nat} {b L : Nat} {xs : Nat → Int32} {i : Int32} {Rel : S2 → Prop} (C : Cx K ad cL_law 4 yL_law.cls (some .boolean)) (hR : Rm K 11 398) (hX : Xs K b L xs) (i0 : inb i L = true) (i1 : inb (i + 1) L = true) (i2 : inb (i + 2) L = true) (i3 : inb (i + 3) L = true) (i4 : inb (i + 4) L = true) (hs : St_2 f_X11_set f_X12_set Rel) (u : S2) (hr : Rel u) (kk : ∀ u : S2, Rel u → RW K ad 4 1281 [(0, .ref b), (1, .ref (ad 0)), (2, .ref (ad 38)), (3, .int i)] [] u) : RW K ad 4 180 [(0, .ref b), (1, .ref (ad 0)), (2, .ref (ad 38)), (3, .int i)] [] u := by
  refine r_aload_n 181 1 C dL_law_180 rfl rfl rfl ?_
  refine r_aload_n 182 0 C dL_law_181 rfl rfl rfl ?_
  refine r_iload_n 183 3 C dL_law_182 rfl rfl rfl ?_
  refine r_iconst (v := 1) 184 C dL_law_183 (by decide) rfl ?_
  refine r_iadd 185 C dL_law_184 rfl ?_
  refine r_sld 186 C hX i1 dL_law_185 rfl ?_
  refine r_aload_n 187 0 C dL_law_186 rfl rfl rfl ?_
  refine r_iload_n 188 3 C dL_law_187 rfl rfl rfl ?_
  refine r_iconst (v := 2) 189 C dL_law_188 (by decide) rfl ?_
  refine r_iadd 190 C dL_law_189 rfl ?_
  refine r_sld 191 C hX i2 dL_law_190 rfl ?_
  obtain ⟨r, u1, u2, h1, h2, hr2⟩ := hs (xs (Int32.toNatClampNeg (i + (1 : Int32)))) (xs (Int32.toNatClampNeg (i + (2 : Int32)))) u hr
  refine r_cVI 194 [.int (xs (Int32.toNatClampNeg (i + (1 : Int32)))), .int (xs (Int32.toNatClampNeg (i + (2 : Int32))))] C hR (c_X11_set ad (xs (Int32.toNatClampNeg (i + (1 : Int32)))) (xs (Int32.toNatClampNeg (i + (2 : Int32)))) u r u1 h1) q_X11_set tw_349 (wd_0 ad u) rfl rfl tw_350 tw_351 (Nat.le_of_ble_eq_true rfl) (Nat.le_of_ble_eq_true rfl) rfl rfl (Nat.le_of_ble_eq_true rfl) dL_law_191 rfl ?_
  refine r_aload_n 195 2 C dL_law_194 rfl rfl rfl ?_
  refine r_aload_n 196 0 C dL_law_195 rfl rfl rfl ?_
  refine r_iload_n 197 3 C dL_law_196 rfl rfl rfl ?_
  refine r_iconst (v := 1) 198 C dL_law_197 (by decide) rfl ?_
  refine r_iadd 199 C dL_law_198 rfl ?_
  refine r_sld 200 C hX i1 dL_law_199 rfl ?_
  refine r_aload_n 201 0 C dL_law_200 rfl rfl rfl ?_
  refine r_iload_n 202 3 C dL_law_201 rfl rfl rfl ?_
  refine r_iconst (v := 2) 203 C dL_law_202 (by decide) rfl ?_
  refine r_iadd 204 C dL_law_203 rfl ?_
  refine r_sld 205 C hX i2 dL_law_204 rfl ?_
  refine r_cVI 208 [.int (xs (Int32.toNatClampNeg (i + (1 : Int32)))), .int (xs (Int32.toNatClampNeg (i + (2 : Int32))))] C hR (c_X12_set ad (xs (Int32.toNatClampNeg (i + (1 : Int32)))) (xs (Int32.toNatClampNeg (i + (2 : Int32)))) u1 r u2 h2) q_X12_set tw_940 (wd_38 ad u1) rfl rfl tw_941 tw_942 (Nat.le_of_ble_eq_true rfl) (Nat.le_of_ble_eq_true rfl) rfl rfl (Nat.le_of_ble_eq_true rfl) dL_law_205 rfl ?_
  refine r_icmp_eq 211 1281 C dL_law_208 (by decide) rfl (fun _ => ?_) (fun c => absurd rfl c)
  exact kk u2 hr2
set_option maxRecDepth 20000 in
theorem lc_1 {K : Ctx} {ad : Nat → Nat} {b L : Nat} {xs : Nat → Int32} {i : Int32} {Rel : S2 → Prop} (C : Cx K ad cL_law 4 yL_law.cls (some .boolean)) (hR : Rm K 11 398) (hX : Xs K b L xs) (i0 : inb i L = true) (i1 : inb (i + 1) L = true) (i2 : inb (i + 2) L = true) (i3 : inb (i + 3) L = true) (i4 : inb (i + 4) L = true) (hs : St_1 f_X11_head f_X12_head Rel) (u : S2) (hr : Rel u) (kk : ∀ u : S2, Rel u → RW K ad 4 1281 [(0, .ref b), (1, .ref (ad 0)), (2, .ref (ad 38)), (3, .int i)] [] u) : RW K ad 4 213 [(0, .ref b), (1, .ref (ad 0)), (2, .ref (ad 38)), (3, .int i)] [] u := by
  refine r_aload_n 214 1 C dL_law_213 rfl rfl rfl ?_
  refine r_aload_n 215 0 C dL_law_214 rfl rfl rfl ?_
  refine r_iload_n 216 3 C dL_law_215 rfl rfl rfl ?_
  refine r_iconst (v := 1) 217 C dL_law_216 (by decide) rfl ?_
  refine r_iadd 218 C dL_law_217 rfl ?_
  refine r_sld 219 C hX i1 dL_law_218 rfl ?_
  obtain ⟨r, u1, u2, h1, h2, hr2⟩ := hs (xs (Int32.toNatClampNeg (i + (1 : Int32)))) u hr
  refine r_cVI 222 [.int (xs (Int32.toNatClampNeg (i + (1 : Int32))))] C hR (c_X11_head ad (xs (Int32.toNatClampNeg (i + (1 : Int32)))) u r u1 h1) q_X11_head tw_362 (wd_0 ad u) rfl rfl tw_363 tw_364 (Nat.le_of_ble_eq_true rfl) (Nat.le_of_ble_eq_true rfl) rfl rfl (Nat.le_of_ble_eq_true rfl) dL_law_219 rfl ?_
  refine r_aload_n 223 2 C dL_law_222 rfl rfl rfl ?_
  refine r_aload_n 224 0 C dL_law_223 rfl rfl rfl ?_
  refine r_iload_n 225 3 C dL_law_224 rfl rfl rfl ?_
  refine r_iconst (v := 1) 226 C dL_law_225 (by decide) rfl ?_
  refine r_iadd 227 C dL_law_226 rfl ?_
  refine r_sld 228 C hX i1 dL_law_227 rfl ?_
  refine r_cVI 231 [.int (xs (Int32.toNatClampNeg (i + (1 : Int32))))] C hR (c_X12_head ad (xs (Int32.toNatClampNeg (i + (1 : Int32)))) u1 r u2 h2) q_X12_head tw_954 (wd_38 ad u1) rfl rfl tw_955 tw_956 (Nat.le_of_ble_eq_true rfl) (Nat.le_of_ble_eq_true rfl) rfl rfl (Nat.le_of_ble_eq_true rfl) dL_law_228 rfl ?_
  refine r_icmp_eq 234 1281 C dL_law_231 (by decide) rfl (fun _ => ?_) (fun c => absurd rfl c)
  exact kk u2 hr2
set_option maxRecDepth 20000 in
theorem lc_2 {K : Ctx} {ad : Nat → Nat} {b L : Nat} {xs : Nat → Int32} {i : Int32} {Rel : S2 → Prop} (C : Cx K ad cL_law 4 yL_law.cls (some .boolean)) (hR : Rm K 11 398) (hX : Xs K b L xs) (i0 : inb i L = true) (i1 : inb (i + 1) L = true) (i2 : inb (i + 2) L = true) (i3 : inb (i + 3) L = true) (i4 : inb (i + 4) L = true) (hs : St_1 f_X11_sea f_X12_sea Rel) (u : S2) (hr : Rel u) (kk : ∀ u : S2, Rel u → RW K ad 4 1281 [(0, .ref b), (1, .ref (ad 0)), (2, .ref (ad 38)), (3, .int i)] [] u) : RW K ad 4 236 [(0, .ref b), (1, .ref (ad 0)), (2, .ref (ad 38)), (3, .int i)] [] u := by
  refine r_aload_n 237 1 C dL_law_236 rfl rfl rfl ?_
  refine r_aload_n 238 0 C dL_law_237 rfl rfl rfl ?_
  refine r_iload_n 239 3 C dL_law_238 rfl rfl rfl ?_
  refine r_iconst (v := 1) 240 C dL_law_239 (by decide) rfl ?_
  refine r_iadd 241 C dL_law_240 rfl ?_
  refine r_sld 242 C hX i1 dL_law_241 rfl ?_
  obtain ⟨r, u1, u2, h1, h2, hr2⟩ := hs (xs (Int32.toNatClampNeg (i + (1 : Int32)))) u hr
  refine r_cVI 245 [.int (xs (Int32.toNatClampNeg (i + (1 : Int32))))] C hR (c_X11_sea ad (xs (Int32.toNatClampNeg (i + (1 : Int32)))) u r u1 h1) q_X11_sea tw_370 (wd_0 ad u) rfl rfl tw_371 tw_372 (Nat.le_of_ble_eq_true rfl) (Nat.le_of_ble_eq_true rfl) rfl rfl (Nat.le_of_ble_eq_true rfl) dL_law_242 rfl ?_
  refine r_aload_n 246 2 C dL_law_245 rfl rfl rfl ?_
  refine r_aload_n 247 0 C dL_law_246 rfl rfl rfl ?_
  refine r_iload_n 248 3 C dL_law_247 rfl rfl rfl ?_
  refine r_iconst (v := 1) 249 C dL_law_248 (by decide) rfl ?_
  refine r_iadd 250 C dL_law_249 rfl ?_
  refine r_sld 251 C hX i1 dL_law_250 rfl ?_
  refine r_cVI 254 [.int (xs (Int32.toNatClampNeg (i + (1 : Int32))))] C hR (c_X12_sea ad (xs (Int32.toNatClampNeg (i + (1 : Int32)))) u1 r u2 h2) q_X12_sea tw_962 (wd_38 ad u1) rfl rfl tw_963 tw_964 (Nat.le_of_ble_eq_true rfl) (Nat.le_of_ble_eq_true rfl) rfl rfl (Nat.le_of_ble_eq_true rfl) dL_law_251 rfl ?_
  refine r_icmp_eq 257 1281 C dL_law_254 (by decide) rfl (fun _ => ?_) (fun c => absurd rfl c)
  exact kk u2 hr2
set_option maxRecDepth 20000 in
theorem lc_3 {K : Ctx} {ad : Nat → Nat} {b L : Nat} {xs : Nat → Int32} {i : Int32} {Rel : S2 → Prop} (C : Cx K ad cL_law 4 yL_law.cls (some .boolean)) (hR : Rm K 11 398) (hX : Xs K b L xs) (i0 : inb i L = true) (i1 : inb (i + 1) L = true) (i2 : inb (i + 2) L = true) (i3 : inb (i + 3) L = true) (i4 : inb (i + 4) L = true) (hs : St_0 f_X11_calm f_X12_calm Rel) (u : S2) (hr : Rel u) (kk : ∀ u : S2, Rel u → RW K ad 4 1281 [(0, .ref b), (1, .ref (ad 0)), (2, .ref (ad 38)), (3, .int i)] [] u) : RW K ad 4 259 [(0, .ref b), (1, .ref (ad 0)), (2, .ref (ad 38)), (3, .int i)] [] u := by
  refine r_aload_n 260 1 C dL_law_259 rfl rfl rfl ?_
  obtain ⟨r, u1, u2, h1, h2, hr2⟩ := hs  u hr
  refine r_cVI 263 [] C hR (c_X11_calm ad  u r u1 h1) q_X11_calm tw_381 (wd_0 ad u) rfl rfl tw_382 tw_383 (Nat.le_of_ble_eq_true rfl) (Nat.le_of_ble_eq_true rfl) rfl rfl (Nat.le_of_ble_eq_true rfl) dL_law_260 rfl ?_
  refine r_aload_n 264 2 C dL_law_263 rfl rfl rfl ?_
  refine r_cVI 267 [] C hR (c_X12_calm ad  u1 r u2 h2) q_X12_calm tw_968 (wd_38 ad u1) rfl rfl tw_969 tw_970 (Nat.le_of_ble_eq_true rfl) (Nat.le_of_ble_eq_true rfl) rfl rfl (Nat.le_of_ble_eq_true rfl) dL_law_264 rfl ?_
  refine r_icmp_eq 270 1281 C dL_law_267 (by decide) rfl (fun _ => ?_) (fun c => absurd rfl c)
  exact kk u2 hr2
set_option maxRecDepth 20000 in
theorem lc_4 {K : Ctx} {ad : Nat → Nat} {b L : Nat} {xs : Nat → Int32} {i : Int32} {Rel : S2 → Prop} (C : Cx K ad cL_law 4 yL_law.cls (some .boolean)) (hR : Rm K 11 398) (hX : Xs K b L xs) (i0 : inb i L = true) (i1 : inb (i + 1) L = true) (i2 : inb (i + 2) L = true) (i3 : inb (i + 3) L = true) (i4 : inb (i + 4) L = true) (hs : St_2 f_X11_kind f_X12_kind Rel) (u : S2) (hr : Rel u) (kk : ∀ u : S2, Rel u → RW K ad 4 1281 [(0, .ref b), (1, .ref (ad 0)), (2, .ref (ad 38)), (3, .int i)] [] u) : RW K ad 4 272 [(0, .ref b), (1, .ref (ad 0)), (2, .ref (ad 38)), (3, .int i)] [] u := by
  refine r_aload_n 273 1 C dL_law_272 rfl rfl rfl ?_
  refine r_aload_n 274 0 C dL_law_273 rfl rfl rfl ?_
  refine r_iload_n 275 3 C dL_law_274 rfl rfl rfl ?_
  refine r_iconst (v := 1) 276 C dL_law_275 (by decide) rfl ?_
  refine r_iadd 277 C dL_law_276 rfl ?_
  refine r_sld 278 C hX i1 dL_law_277 rfl ?_
  refine r_aload_n 279 0 C dL_law_278 rfl rfl rfl ?_
  refine r_iload_n 280 3 C dL_law_279 rfl rfl rfl ?_
  refine r_iconst (v := 2) 281 C dL_law_280 (by decide) rfl ?_
  refine r_iadd 282 C dL_law_281 rfl ?_
  refine r_sld 283 C hX i2 dL_law_282 rfl ?_
  obtain ⟨r, u1, u2, h1, h2, hr2⟩ := hs (xs (Int32.toNatClampNeg (i + (1 : Int32)))) (xs (Int32.toNatClampNeg (i + (2 : Int32)))) u hr
  refine r_cVI 286 [.int (xs (Int32.toNatClampNeg (i + (1 : Int32)))), .int (xs (Int32.toNatClampNeg (i + (2 : Int32))))] C hR (c_X11_kind ad (xs (Int32.toNatClampNeg (i + (1 : Int32)))) (xs (Int32.toNatClampNeg (i + (2 : Int32)))) u r u1 h1) q_X11_kind tw_385 (wd_0 ad u) rfl rfl tw_386 tw_387 (Nat.le_of_ble_eq_true rfl) (Nat.le_of_ble_eq_true rfl) rfl rfl (Nat.le_of_ble_eq_true rfl) dL_law_283 rfl ?_
  refine r_aload_n 287 2 C dL_law_286 rfl rfl rfl ?_
  refine r_aload_n 288 0 C dL_law_287 rfl rfl rfl ?_
  refine r_iload_n 289 3 C dL_law_288 rfl rfl rfl ?_
  refine r_iconst (v := 1) 290 C dL_law_289 (by decide) rfl ?_
  refine r_iadd 291 C dL_law_290 rfl ?_
  refine r_sld 292 C hX i1 dL_law_291 rfl ?_
  refine r_aload_n 293 0 C dL_law_292 rfl rfl rfl ?_
  refine r_iload_n 294 3 C dL_law_293 rfl rfl rfl ?_
  refine r_iconst (v := 2) 295 C dL_law_294 (by decide) rfl ?_
  refine r_iadd 296 C dL_law_295 rfl ?_
  refine r_sld 297 C hX i2 dL_law_296 rfl ?_
  refine r_cVI 300 [.int (xs (Int32.toNatClampNeg (i + (1 : Int32)))), .int (xs (Int32.toNatClampNeg (i + (2 : Int32))))] C hR (c_X12_kind ad (xs (Int32.toNatClampNeg (i + (1 : Int32)))) (xs (Int32.toNatClampNeg (i + (2 : Int32)))) u1 r u2 h2) q_X12_kind tw_972 (wd_38 ad u1) rfl rfl tw_973 tw_974 (Nat.le_of_ble_eq_true rfl) (Nat.le_of_ble_eq_true rfl) rfl rfl (Nat.le_of_ble_eq_true rfl) dL_law_297 rfl ?_
  refine r_icmp_eq 303 1281 C dL_law_300 (by decide) rfl (fun _ => ?_) (fun c => absurd rfl c)
  exact kk u2 hr2
set_option maxRecDepth 20000 in
theorem lc_5 {K : Ctx} {ad : Nat → Nat} {b L : Nat} {xs : Nat → Int32} {i : Int32} {Rel : S2 → Prop} (C : Cx K ad cL_law 4 yL_law.cls (some .boolean)) (hR : Rm K 11 398) (hX : Xs K b L xs) (i0 : inb i L = true) (i1 : inb (i + 1) L = true) (i2 : inb (i + 2) L = true) (i3 : inb (i + 3) L = true) (i4 : inb (i + 4) L = true) (hs : St_3 f_X11_tune f_X12_tune Rel) (u : S2) (hr : Rel u) (kk : ∀ u : S2, Rel u → RW K ad 4 1281 [(0, .ref b), (1, .ref (ad 0)), (2, .ref (ad 38)), (3, .int i)] [] u) : RW K ad 4 305 [(0, .ref b), (1, .ref (ad 0)), (2, .ref (ad 38)), (3, .int i)] [] u := by
  refine r_aload_n 306 1 C dL_law_305 rfl rfl rfl ?_
  refine r_aload_n 307 0 C dL_law_306 rfl rfl rfl ?_
  refine r_iload_n 308 3 C dL_law_307 rfl rfl rfl ?_
  refine r_iconst (v := 1) 309 C dL_law_308 (by decide) rfl ?_
  refine r_iadd 310 C dL_law_309 rfl ?_
  refine r_sld 311 C hX i1 dL_law_310 rfl ?_
  refine r_aload_n 312 0 C dL_law_311 rfl rfl rfl ?_
  refine r_iload_n 313 3 C dL_law_312 rfl rfl rfl ?_
  refine r_iconst (v := 2) 314 C dL_law_313 (by decide) rfl ?_
  refine r_iadd 315 C dL_law_314 rfl ?_
  refine r_sld 316 C hX i2 dL_law_315 rfl ?_
  refine r_aload_n 317 0 C dL_law_316 rfl rfl rfl ?_
  refine r_iload_n 318 3 C dL_law_317 rfl rfl rfl ?_
  refine r_iconst (v := 3) 319 C dL_law_318 (by decide) rfl ?_
  refine r_iadd 320 C dL_law_319 rfl ?_
  refine r_sld 321 C hX i3 dL_law_320 rfl ?_
  obtain ⟨r, u1, u2, h1, h2, hr2⟩ := hs (xs (Int32.toNatClampNeg (i + (1 : Int32)))) (xs (Int32.toNatClampNeg (i + (2 : Int32)))) (xs (Int32.toNatClampNeg (i + (3 : Int32)))) u hr
  refine r_cVI 324 [.int (xs (Int32.toNatClampNeg (i + (1 : Int32)))), .int (xs (Int32.toNatClampNeg (i + (2 : Int32)))), .int (xs (Int32.toNatClampNeg (i + (3 : Int32))))] C hR (c_X11_tune ad (xs (Int32.toNatClampNeg (i + (1 : Int32)))) (xs (Int32.toNatClampNeg (i + (2 : Int32)))) (xs (Int32.toNatClampNeg (i + (3 : Int32)))) u r u1 h1) q_X11_tune tw_398 (wd_0 ad u) rfl rfl tw_399 tw_400 (Nat.le_of_ble_eq_true rfl) (Nat.le_of_ble_eq_true rfl) rfl rfl (Nat.le_of_ble_eq_true rfl) dL_law_321 rfl ?_
  refine r_aload_n 325 2 C dL_law_324 rfl rfl rfl ?_
  refine r_aload_n 326 0 C dL_law_325 rfl rfl rfl ?_
  refine r_iload_n 327 3 C dL_law_326 rfl rfl rfl ?_
  refine r_iconst (v := 1) 328 C dL_law_327 (by decide) rfl ?_
  refine r_iadd 329 C dL_law_328 rfl ?_
  refine r_sld 330 C hX i1 dL_law_329 rfl ?_
  refine r_aload_n 331 0 C dL_law_330 rfl rfl rfl ?_
  refine r_iload_n 332 3 C dL_law_331 rfl rfl rfl ?_
  refine r_iconst (v := 2) 333 C dL_law_332 (by decide) rfl ?_
  refine r_iadd 334 C dL_law_333 rfl ?_
  refine r_sld 335 C hX i2 dL_law_334 rfl ?_
  refine r_aload_n 336 0 C dL_law_335 rfl rfl rfl ?_
  refine r_iload_n 337 3 C dL_law_336 rfl rfl rfl ?_
  refine r_iconst (v := 3) 338 C dL_law_337 (by decide) rfl ?_
  refine r_iadd 339 C dL_law_338 rfl ?_
  refine r_sld 340 C hX i3 dL_law_339 rfl ?_
  refine r_cVI 343 [.int (xs (Int32.toNatClampNeg (i + (1 : Int32)))), .int (xs (Int32.toNatClampNeg (i + (2 : Int32)))), .int (xs (Int32.toNatClampNeg (i + (3 : Int32))))] C hR (c_X12_tune ad (xs (Int32.toNatClampNeg (i + (1 : Int32)))) (xs (Int32.toNatClampNeg (i + (2 : Int32)))) (xs (Int32.toNatClampNeg (i + (3 : Int32)))) u1 r u2 h2) q_X12_tune tw_981 (wd_38 ad u1) rfl rfl tw_982 tw_983 (Nat.le_of_ble_eq_true rfl) (Nat.le_of_ble_eq_true rfl) rfl rfl (Nat.le_of_ble_eq_true rfl) dL_law_340 rfl ?_
  refine r_icmp_eq 346 1281 C dL_law_343 (by decide) rfl (fun _ => ?_) (fun c => absurd rfl c)
  exact kk u2 hr2
set_option maxRecDepth 20000 in
theorem lc_6 {K : Ctx} {ad : Nat → Nat} {b L : Nat} {xs : Nat → Int32} {i : Int32} {Rel : S2 → Prop} (C : Cx K ad cL_law 4 yL_law.cls (some .boolean)) (hR : Rm K 11 398) (hX : Xs K b L xs) (i0 : inb i L = true) (i1 : inb (i + 1) L = true) (i2 : inb (i + 2) L = true) (i3 : inb (i + 3) L = true) (i4 : inb (i + 4) L = true) (hs : St_2 f_X11_off f_X12_off Rel) (u : S2) (hr : Rel u) (kk : ∀ u : S2, Rel u → RW K ad 4 1281 [(0, .ref b), (1, .ref (ad 0)), (2, .ref (ad 38)), (3, .int i)] [] u) : RW K ad 4 348 [(0, .ref b), (1, .ref (ad 0)), (2, .ref (ad 38)), (3, .int i)] [] u := by
  refine r_aload_n 349 1 C dL_law_348 rfl rfl rfl ?_
  refine r_aload_n 350 0 C dL_law_349 rfl rfl rfl ?_
  refine r_iload_n 351 3 C dL_law_350 rfl rfl rfl ?_
  refine r_iconst (v := 1) 352 C dL_law_351 (by decide) rfl ?_
  refine r_iadd 353 C dL_law_352 rfl ?_
  refine r_sld 354 C hX i1 dL_law_353 rfl ?_
  refine r_aload_n 355 0 C dL_law_354 rfl rfl rfl ?_
  refine r_iload_n 356 3 C dL_law_355 rfl rfl rfl ?_
  refine r_iconst (v := 2) 357 C dL_law_356 (by decide) rfl ?_
  refine r_iadd 358 C dL_law_357 rfl ?_
  refine r_sld 359 C hX i2 dL_law_358 rfl ?_
  obtain ⟨r, u1, u2, h1, h2, hr2⟩ := hs (xs (Int32.toNatClampNeg (i + (1 : Int32)))) (xs (Int32.toNatClampNeg (i + (2 : Int32)))) u hr
  refine r_cVI 362 [.int (xs (Int32.toNatClampNeg (i + (1 : Int32)))), .int (xs (Int32.toNatClampNeg (i + (2 : Int32))))] C hR (c_X11_off ad (xs (Int32.toNatClampNeg (i + (1 : Int32)))) (xs (Int32.toNatClampNeg (i + (2 : Int32)))) u r u1 h1) q_X11_off tw_406 (wd_0 ad u) rfl rfl tw_407 tw_408 (Nat.le_of_ble_eq_true rfl) (Nat.le_of_ble_eq_true rfl) rfl rfl (Nat.le_of_ble_eq_true rfl) dL_law_359 rfl ?_
  refine r_aload_n 363 2 C dL_law_362 rfl rfl rfl ?_
  refine r_aload_n 364 0 C dL_law_363 rfl rfl rfl ?_
  refine r_iload_n 365 3 C dL_law_364 rfl rfl rfl ?_
  refine r_iconst (v := 1) 366 C dL_law_365 (by decide) rfl ?_
  refine r_iadd 367 C dL_law_366 rfl ?_
  refine r_sld 368 C hX i1 dL_law_367 rfl ?_
  refine r_aload_n 369 0 C dL_law_368 rfl rfl rfl ?_
  refine r_iload_n 370 3 C dL_law_369 rfl rfl rfl ?_
  refine r_iconst (v := 2) 371 C dL_law_370 (by decide) rfl ?_
  refine r_iadd 372 C dL_law_371 rfl ?_
  refine r_sld 373 C hX i2 dL_law_372 rfl ?_
  refine r_cVI 376 [.int (xs (Int32.toNatClampNeg (i + (1 : Int32)))), .int (xs (Int32.toNatClampNeg (i + (2 : Int32))))] C hR (c_X12_off ad (xs (Int32.toNatClampNeg (i + (1 : Int32)))) (xs (Int32.toNatClampNeg (i + (2 : Int32)))) u1 r u2 h2) q_X12_off tw_985 (wd_38 ad u1) rfl rfl tw_986 tw_987 (Nat.le_of_ble_eq_true rfl) (Nat.le_of_ble_eq_true rfl) rfl rfl (Nat.le_of_ble_eq_true rfl) dL_law_373 rfl ?_
  refine r_icmp_eq 379 1281 C dL_law_376 (by decide) rfl (fun _ => ?_) (fun c => absurd rfl c)
  exact kk u2 hr2
set_option maxRecDepth 20000 in
theorem lc_7 {K : Ctx} {ad : Nat → Nat} {b L : Nat} {xs : Nat → Int32} {i : Int32} {Rel : S2 → Prop} (C : Cx K ad cL_law 4 yL_law.cls (some .boolean)) (hR : Rm K 11 398) (hX : Xs K b L xs) (i0 : inb i L = true) (i1 : inb (i + 1) L = true) (i2 : inb (i + 2) L = true) (i3 : inb (i + 3) L = true) (i4 : inb (i + 4) L = true) (hs : St_3 f_X11_told f_X12_told Rel) (u : S2) (hr : Rel u) (kk : ∀ u : S2, Rel u → RW K ad 4 1281 [(0, .ref b), (1, .ref (ad 0)), (2, .ref (ad 38)), (3, .int i)] [] u) : RW K ad 4 381 [(0, .ref b), (1, .ref (ad 0)), (2, .ref (ad 38)), (3, .int i)] [] u := by
  refine r_aload_n 382 1 C dL_law_381 rfl rfl rfl ?_
  refine r_aload_n 383 0 C dL_law_382 rfl rfl rfl ?_
  refine r_iload_n 384 3 C dL_law_383 rfl rfl rfl ?_
  refine r_iconst (v := 1) 385 C dL_law_384 (by decide) rfl ?_
  refine r_iadd 386 C dL_law_385 rfl ?_
  refine r_sld 387 C hX i1 dL_law_386 rfl ?_
  refine r_aload_n 388 0 C dL_law_387 rfl rfl rfl ?_
  refine r_iload_n 389 3 C dL_law_388 rfl rfl rfl ?_
  refine r_iconst (v := 2) 390 C dL_law_389 (by decide) rfl ?_
  refine r_iadd 391 C dL_law_390 rfl ?_
  refine r_sld 392 C hX i2 dL_law_391 rfl ?_
  refine r_aload_n 393 0 C dL_law_392 rfl rfl rfl ?_
  refine r_iload_n 394 3 C dL_law_393 rfl rfl rfl ?_
  refine r_iconst (v := 3) 395 C dL_law_394 (by decide) rfl ?_
  refine r_iadd 396 C dL_law_395 rfl ?_
  refine r_sld 397 C hX i3 dL_law_396 rfl ?_
  obtain ⟨r, u1, u2, h1, h2, hr2⟩ := hs (xs (Int32.toNatClampNeg (i + (1 : Int32)))) (xs (Int32.toNatClampNeg (i + (2 : Int32)))) (xs (Int32.toNatClampNeg (i + (3 : Int32)))) u hr
  refine r_cVI 400 [.int (xs (Int32.toNatClampNeg (i + (1 : Int32)))), .int (xs (Int32.toNatClampNeg (i + (2 : Int32)))), .int (xs (Int32.toNatClampNeg (i + (3 : Int32))))] C hR (c_X11_told ad (xs (Int32.toNatClampNeg (i + (1 : Int32)))) (xs (Int32.toNatClampNeg (i + (2 : Int32)))) (xs (Int32.toNatClampNeg (i + (3 : Int32)))) u r u1 h1) q_X11_told tw_413 (wd_0 ad u) rfl rfl tw_414 tw_415 (Nat.le_of_ble_eq_true rfl) (Nat.le_of_ble_eq_true rfl) rfl rfl (Nat.le_of_ble_eq_true rfl) dL_law_397 rfl ?_
  refine r_aload_n 401 2 C dL_law_400 rfl rfl rfl ?_
  refine r_aload_n 402 0 C dL_law_401 rfl rfl rfl ?_
  refine r_iload_n 403 3 C dL_law_402 rfl rfl rfl ?_
  refine r_iconst (v := 1) 404 C dL_law_403 (by decide) rfl ?_
  refine r_iadd 405 C dL_law_404 rfl ?_
  refine r_sld 406 C hX i1 dL_law_405 rfl ?_
  refine r_aload_n 407 0 C dL_law_406 rfl rfl rfl ?_
  refine r_iload_n 408 3 C dL_law_407 rfl rfl rfl ?_
  refine r_iconst (v := 2) 409 C dL_law_408 (by decide) rfl ?_
  refine r_iadd 410 C dL_law_409 rfl ?_
  refine r_sld 411 C hX i2 dL_law_410 rfl ?_
  refine r_aload_n 412 0 C dL_law_411 rfl rfl rfl ?_
  refine r_iload_n 413 3 C dL_law_412 rfl rfl rfl ?_
  refine r_iconst (v := 3) 414 C dL_law_413 (by decide) rfl ?_
  refine r_iadd 415 C dL_law_414 rfl ?_
  refine r_sld 416 C hX i3 dL_law_415 rfl ?_
  refine r_cVI 419 [.int (xs (Int32.toNatClampNeg (i + (1 : Int32)))), .int (xs (Int32.toNatClampNeg (i + (2 : Int32)))), .int (xs (Int32.toNatClampNeg (i + (3 : Int32))))] C hR (c_X12_told ad (xs (Int32.toNatClampNeg (i + (1 : Int32)))) (xs (Int32.toNatClampNeg (i + (2 : Int32)))) (xs (Int32.toNatClampNeg (i + (3 : Int32)))) u1 r u2 h2) q_X12_told tw_994 (wd_38 ad u1) rfl rfl tw_995 tw_996 (Nat.le_of_ble_eq_true rfl) (Nat.le_of_ble_eq_true rfl) rfl rfl (Nat.le_of_ble_eq_true rfl) dL_law_416 rfl ?_
  refine r_icmp_eq 422 1281 C dL_law_419 (by decide) rfl (fun _ => ?_) (fun c => absurd rfl c)
  exact kk u2 hr2
set_option maxRecDepth 20000 in
theorem lc_8 {K : Ctx} {ad : Nat → Nat} {b L : Nat} {xs : Nat → Int32} {i : Int32} {Rel : S2 → Prop} (C : Cx K ad cL_law 4 yL_law.cls (some .boolean)) (hR : Rm K 11 398) (hX : Xs K b L xs) (i0 : inb i L = true) (i1 : inb (i + 1) L = true) (i2 : inb (i + 2) L = true) (i3 : inb (i + 3) L = true) (i4 : inb (i + 4) L = true) (hs : St_2 f_X11_iron f_X12_iron Rel) (u : S2) (hr : Rel u) (kk : ∀ u : S2, Rel u → RW K ad 4 1281 [(0, .ref b), (1, .ref (ad 0)), (2, .ref (ad 38)), (3, .int i)] [] u) : RW K ad 4 424 [(0, .ref b), (1, .ref (ad 0)), (2, .ref (ad 38)), (3, .int i)] [] u := by
  refine r_aload_n 425 1 C dL_law_424 rfl rfl rfl ?_
  refine r_aload_n 426 0 C dL_law_425 rfl rfl rfl ?_
  refine r_iload_n 427 3 C dL_law_426 rfl rfl rfl ?_
  refine r_iconst (v := 1) 428 C dL_law_427 (by decide) rfl ?_
  refine r_iadd 429 C dL_law_428 rfl ?_
  refine r_sld 430 C hX i1 dL_law_429 rfl ?_
  refine r_aload_n 431 0 C dL_law_430 rfl rfl rfl ?_
  refine r_iload_n 432 3 C dL_law_431 rfl rfl rfl ?_
  refine r_iconst (v := 2) 433 C dL_law_432 (by decide) rfl ?_
  refine r_iadd 434 C dL_law_433 rfl ?_
  refine r_sld 435 C hX i2 dL_law_434 rfl ?_
  obtain ⟨r, u1, u2, h1, h2, hr2⟩ := hs (xs (Int32.toNatClampNeg (i + (1 : Int32)))) (xs (Int32.toNatClampNeg (i + (2 : Int32)))) u hr
  refine r_cVI 438 [.int (xs (Int32.toNatClampNeg (i + (1 : Int32)))), .int (xs (Int32.toNatClampNeg (i + (2 : Int32))))] C hR (c_X11_iron ad (xs (Int32.toNatClampNeg (i + (1 : Int32)))) (xs (Int32.toNatClampNeg (i + (2 : Int32)))) u r u1 h1) q_X11_iron tw_417 (wd_0 ad u) rfl rfl tw_418 tw_419 (Nat.le_of_ble_eq_true rfl) (Nat.le_of_ble_eq_true rfl) rfl rfl (Nat.le_of_ble_eq_true rfl) dL_law_435 rfl ?_
  refine r_aload_n 439 2 C dL_law_438 rfl rfl rfl ?_
  refine r_aload_n 440 0 C dL_law_439 rfl rfl rfl ?_
  refine r_iload_n 441 3 C dL_law_440 rfl rfl rfl ?_
  refine r_iconst (v := 1) 442 C dL_law_441 (by decide) rfl ?_
  refine r_iadd 443 C dL_law_442 rfl ?_
  refine r_sld 444 C hX i1 dL_law_443 rfl ?_
  refine r_aload_n 445 0 C dL_law_444 rfl rfl rfl ?_
  refine r_iload_n 446 3 C dL_law_445 rfl rfl rfl ?_
  refine r_iconst (v := 2) 447 C dL_law_446 (by decide) rfl ?_
  refine r_iadd 448 C dL_law_447 rfl ?_
  refine r_sld 449 C hX i2 dL_law_448 rfl ?_
  refine r_cVI 452 [.int (xs (Int32.toNatClampNeg (i + (1 : Int32)))), .int (xs (Int32.toNatClampNeg (i + (2 : Int32))))] C hR (c_X12_iron ad (xs (Int32.toNatClampNeg (i + (1 : Int32)))) (xs (Int32.toNatClampNeg (i + (2 : Int32)))) u1 r u2 h2) q_X12_iron tw_1004 (wd_38 ad u1) rfl rfl tw_1005 tw_1006 (Nat.le_of_ble_eq_true rfl) (Nat.le_of_ble_eq_true rfl) rfl rfl (Nat.le_of_ble_eq_true rfl) dL_law_449 rfl ?_
  refine r_icmp_eq 455 1281 C dL_law_452 (by decide) rfl (fun _ => ?_) (fun c => absurd rfl c)
  exact kk u2 hr2
set_option maxRecDepth 20000 in
theorem lc_9 {K : Ctx} {ad : Nat → Nat} {b L : Nat} {xs : Nat → Int32} {i : Int32} {Rel : S2 → Prop} (C : Cx K ad cL_law 4 yL_law.cls (some .boolean)) (hR : Rm K 11 398) (hX : Xs K b L xs) (i0 : inb i L = true) (i1 : inb (i + 1) L = true) (i2 : inb (i + 2) L = true) (i3 : inb (i + 3) L = true) (i4 : inb (i + 4) L = true) (hs : St_1 f_X11_shows f_X12_shows Rel) (u : S2) (hr : Rel u) (kk : ∀ u : S2, Rel u → RW K ad 4 1281 [(0, .ref b), (1, .ref (ad 0)), (2, .ref (ad 38)), (3, .int i)] [] u) : RW K ad 4 457 [(0, .ref b), (1, .ref (ad 0)), (2, .ref (ad 38)), (3, .int i)] [] u := by
  refine r_aload_n 458 1 C dL_law_457 rfl rfl rfl ?_
  refine r_aload_n 459 0 C dL_law_458 rfl rfl rfl ?_
  refine r_iload_n 460 3 C dL_law_459 rfl rfl rfl ?_
  refine r_iconst (v := 1) 461 C dL_law_460 (by decide) rfl ?_
  refine r_iadd 462 C dL_law_461 rfl ?_
  refine r_sld 463 C hX i1 dL_law_462 rfl ?_
  obtain ⟨r, u1, u2, h1, h2, hr2⟩ := hs (xs (Int32.toNatClampNeg (i + (1 : Int32)))) u hr
  refine r_cVI 466 [.int (xs (Int32.toNatClampNeg (i + (1 : Int32))))] C hR (c_X11_shows ad (xs (Int32.toNatClampNeg (i + (1 : Int32)))) u r u1 h1) q_X11_shows tw_424 (wd_0 ad u) rfl rfl tw_425 tw_426 (Nat.le_of_ble_eq_true rfl) (Nat.le_of_ble_eq_true rfl) rfl rfl (Nat.le_of_ble_eq_true rfl) dL_law_463 rfl ?_
  refine r_aload_n 467 2 C dL_law_466 rfl rfl rfl ?_
  refine r_aload_n 468 0 C dL_law_467 rfl rfl rfl ?_
  refine r_iload_n 469 3 C dL_law_468 rfl rfl rfl ?_
  refine r_iconst (v := 1) 470 C dL_law_469 (by decide) rfl ?_
  refine r_iadd 471 C dL_law_470 rfl ?_
  refine r_sld 472 C hX i1 dL_law_471 rfl ?_
  refine r_cVI 475 [.int (xs (Int32.toNatClampNeg (i + (1 : Int32))))] C hR (c_X12_shows ad (xs (Int32.toNatClampNeg (i + (1 : Int32)))) u1 r u2 h2) q_X12_shows tw_1011 (wd_38 ad u1) rfl rfl tw_1012 tw_1013 (Nat.le_of_ble_eq_true rfl) (Nat.le_of_ble_eq_true rfl) rfl rfl (Nat.le_of_ble_eq_true rfl) dL_law_472 rfl ?_
  refine r_icmp_eq 478 1281 C dL_law_475 (by decide) rfl (fun _ => ?_) (fun c => absurd rfl c)
  exact kk u2 hr2
set_option maxRecDepth 20000 in
theorem lc_10 {K : Ctx} {ad : Nat → Nat} {b L : Nat} {xs : Nat → Int32} {i : Int32} {Rel : S2 → Prop} (C : Cx K ad cL_law 4 yL_law.cls (some .boolean)) (hR : Rm K 11 398) (hX : Xs K b L xs) (i0 : inb i L = true) (i1 : inb (i + 1) L = true) (i2 : inb (i + 2) L = true) (i3 : inb (i + 3) L = true) (i4 : inb (i + 4) L = true) (hs : St_2 f_X11_now f_X12_now Rel) (u : S2) (hr : Rel u) (kk : ∀ u : S2, Rel u → RW K ad 4 1281 [(0, .ref b), (1, .ref (ad 0)), (2, .ref (ad 38)), (3, .int i)] [] u) : RW K ad 4 480 [(0, .ref b), (1, .ref (ad 0)), (2, .ref (ad 38)), (3, .int i)] [] u := by
  refine r_aload_n 481 1 C dL_law_480 rfl rfl rfl ?_
  refine r_aload_n 482 0 C dL_law_481 rfl rfl rfl ?_
  refine r_iload_n 483 3 C dL_law_482 rfl rfl rfl ?_
  refine r_iconst (v := 1) 484 C dL_law_483 (by decide) rfl ?_
  refine r_iadd 485 C dL_law_484 rfl ?_
  refine r_sld 486 C hX i1 dL_law_485 rfl ?_
  refine r_aload_n 487 0 C dL_law_486 rfl rfl rfl ?_
  refine r_iload_n 488 3 C dL_law_487 rfl rfl rfl ?_
  refine r_iconst (v := 2) 489 C dL_law_488 (by decide) rfl ?_
  refine r_iadd 490 C dL_law_489 rfl ?_
  refine r_sld 491 C hX i2 dL_law_490 rfl ?_
  obtain ⟨r, u1, u2, h1, h2, hr2⟩ := hs (xs (Int32.toNatClampNeg (i + (1 : Int32)))) (xs (Int32.toNatClampNeg (i + (2 : Int32)))) u hr
  refine r_cVI 494 [.int (xs (Int32.toNatClampNeg (i + (1 : Int32)))), .int (xs (Int32.toNatClampNeg (i + (2 : Int32))))] C hR (c_X11_now ad (xs (Int32.toNatClampNeg (i + (1 : Int32)))) (xs (Int32.toNatClampNeg (i + (2 : Int32)))) u r u1 h1) q_X11_now tw_456 (wd_0 ad u) rfl rfl tw_457 tw_458 (Nat.le_of_ble_eq_true rfl) (Nat.le_of_ble_eq_true rfl) rfl rfl (Nat.le_of_ble_eq_true rfl) dL_law_491 rfl ?_
  refine r_aload_n 495 2 C dL_law_494 rfl rfl rfl ?_
  refine r_aload_n 496 0 C dL_law_495 rfl rfl rfl ?_
  refine r_iload_n 497 3 C dL_law_496 rfl rfl rfl ?_
  refine r_iconst (v := 1) 498 C dL_law_497 (by decide) rfl ?_
  refine r_iadd 499 C dL_law_498 rfl ?_
  refine r_sld 500 C hX i1 dL_law_499 rfl ?_
  refine r_aload_n 501 0 C dL_law_500 rfl rfl rfl ?_
  refine r_iload_n 502 3 C dL_law_501 rfl rfl rfl ?_
  refine r_iconst (v := 2) 503 C dL_law_502 (by decide) rfl ?_
  refine r_iadd 504 C dL_law_503 rfl ?_
  refine r_sld 505 C hX i2 dL_law_504 rfl ?_
  refine r_cVI 508 [.int (xs (Int32.toNatClampNeg (i + (1 : Int32)))), .int (xs (Int32.toNatClampNeg (i + (2 : Int32))))] C hR (c_X12_now ad (xs (Int32.toNatClampNeg (i + (1 : Int32)))) (xs (Int32.toNatClampNeg (i + (2 : Int32)))) u1 r u2 h2) q_X12_now tw_1036 (wd_38 ad u1) rfl rfl tw_1037 tw_1038 (Nat.le_of_ble_eq_true rfl) (Nat.le_of_ble_eq_true rfl) rfl rfl (Nat.le_of_ble_eq_true rfl) dL_law_505 rfl ?_
  refine r_icmp_eq 511 1281 C dL_law_508 (by decide) rfl (fun _ => ?_) (fun c => absurd rfl c)
  exact kk u2 hr2
set_option maxRecDepth 20000 in
theorem lc_11 {K : Ctx} {ad : Nat → Nat} {b L : Nat} {xs : Nat → Int32} {i : Int32} {Rel : S2 → Prop} (C : Cx K ad cL_law 4 yL_law.cls (some .boolean)) (hR : Rm K 11 398) (hX : Xs K b L xs) (i0 : inb i L = true) (i1 : inb (i + 1) L = true) (i2 : inb (i + 2) L = true) (i3 : inb (i + 3) L = true) (i4 : inb (i + 4) L = true) (hs : St_3 f_X11_lean f_X12_lean Rel) (u : S2) (hr : Rel u) (kk : ∀ u : S2, Rel u → RW K ad 4 1281 [(0, .ref b), (1, .ref (ad 0)), (2, .ref (ad 38)), (3, .int i)] [] u) : RW K ad 4 513 [(0, .ref b), (1, .ref (ad 0)), (2, .ref (ad 38)), (3, .int i)] [] u := by
  refine r_aload_n 514 1 C dL_law_513 rfl rfl rfl ?_
  refine r_aload_n 515 0 C dL_law_514 rfl rfl rfl ?_
  refine r_iload_n 516 3 C dL_law_515 rfl rfl rfl ?_
  refine r_iconst (v := 1) 517 C dL_law_516 (by decide) rfl ?_
  refine r_iadd 518 C dL_law_517 rfl ?_
  refine r_sld 519 C hX i1 dL_law_518 rfl ?_
  refine r_aload_n 520 0 C dL_law_519 rfl rfl rfl ?_
  refine r_iload_n 521 3 C dL_law_520 rfl rfl rfl ?_
  refine r_iconst (v := 2) 522 C dL_law_521 (by decide) rfl ?_
  refine r_iadd 523 C dL_law_522 rfl ?_
  refine r_sld 524 C hX i2 dL_law_523 rfl ?_
  refine r_aload_n 525 0 C dL_law_524 rfl rfl rfl ?_
  refine r_iload_n 526 3 C dL_law_525 rfl rfl rfl ?_
  refine r_iconst (v := 3) 527 C dL_law_526 (by decide) rfl ?_
  refine r_iadd 528 C dL_law_527 rfl ?_
  refine r_sld 529 C hX i3 dL_law_528 rfl ?_
  obtain ⟨r, u1, u2, h1, h2, hr2⟩ := hs (xs (Int32.toNatClampNeg (i + (1 : Int32)))) (xs (Int32.toNatClampNeg (i + (2 : Int32)))) (xs (Int32.toNatClampNeg (i + (3 : Int32)))) u hr
  refine r_cVI 532 [.int (xs (Int32.toNatClampNeg (i + (1 : Int32)))), .int (xs (Int32.toNatClampNeg (i + (2 : Int32)))), .int (xs (Int32.toNatClampNeg (i + (3 : Int32))))] C hR (c_X11_lean ad (xs (Int32.toNatClampNeg (i + (1 : Int32)))) (xs (Int32.toNatClampNeg (i + (2 : Int32)))) (xs (Int32.toNatClampNeg (i + (3 : Int32)))) u r u1 h1) q_X11_lean tw_461 (wd_0 ad u) rfl rfl tw_462 tw_463 (Nat.le_of_ble_eq_true rfl) (Nat.le_of_ble_eq_true rfl) rfl rfl (Nat.le_of_ble_eq_true rfl) dL_law_529 rfl ?_
  refine r_aload_n 533 2 C dL_law_532 rfl rfl rfl ?_
  refine r_aload_n 534 0 C dL_law_533 rfl rfl rfl ?_
  refine r_iload_n 535 3 C dL_law_534 rfl rfl rfl ?_
  refine r_iconst (v := 1) 536 C dL_law_535 (by decide) rfl ?_
  refine r_iadd 537 C dL_law_536 rfl ?_
  refine r_sld 538 C hX i1 dL_law_537 rfl ?_
  refine r_aload_n 539 0 C dL_law_538 rfl rfl rfl ?_
  refine r_iload_n 540 3 C dL_law_539 rfl rfl rfl ?_
  refine r_iconst (v := 2) 541 C dL_law_540 (by decide) rfl ?_
  refine r_iadd 542 C dL_law_541 rfl ?_
  refine r_sld 543 C hX i2 dL_law_542 rfl ?_
  refine r_aload_n 544 0 C dL_law_543 rfl rfl rfl ?_
  refine r_iload_n 545 3 C dL_law_544 rfl rfl rfl ?_
  refine r_iconst (v := 3) 546 C dL_law_545 (by decide) rfl ?_
  refine r_iadd 547 C dL_law_546 rfl ?_
  refine r_sld 548 C hX i3 dL_law_547 rfl ?_
  refine r_cVI 551 [.int (xs (Int32.toNatClampNeg (i + (1 : Int32)))), .int (xs (Int32.toNatClampNeg (i + (2 : Int32)))), .int (xs (Int32.toNatClampNeg (i + (3 : Int32))))] C hR (c_X12_lean ad (xs (Int32.toNatClampNeg (i + (1 : Int32)))) (xs (Int32.toNatClampNeg (i + (2 : Int32)))) (xs (Int32.toNatClampNeg (i + (3 : Int32)))) u1 r u2 h2) q_X12_lean tw_1041 (wd_38 ad u1) rfl rfl tw_1042 tw_1043 (Nat.le_of_ble_eq_true rfl) (Nat.le_of_ble_eq_true rfl) rfl rfl (Nat.le_of_ble_eq_true rfl) dL_law_548 rfl ?_
  refine r_icmp_eq 554 1281 C dL_law_551 (by decide) rfl (fun _ => ?_) (fun c => absurd rfl c)
  exact kk u2 hr2
set_option maxRecDepth 20000 in
theorem lc_12 {K : Ctx} {ad : Nat → Nat} {b L : Nat} {xs : Nat → Int32} {i : Int32} {Rel : S2 → Prop} (C : Cx K ad cL_law 4 yL_law.cls (some .boolean)) (hR : Rm K 11 398) (hX : Xs K b L xs) (i0 : inb i L = true) (i1 : inb (i + 1) L = true) (i2 : inb (i + 2) L = true) (i3 : inb (i + 3) L = true) (i4 : inb (i + 4) L = true) (hs : St_1 f_X11_deviation f_X12_deviation Rel) (u : S2) (hr : Rel u) (kk : ∀ u : S2, Rel u → RW K ad 4 1281 [(0, .ref b), (1, .ref (ad 0)), (2, .ref (ad 38)), (3, .int i)] [] u) : RW K ad 4 556 [(0, .ref b), (1, .ref (ad 0)), (2, .ref (ad 38)), (3, .int i)] [] u := by
  refine r_aload_n 557 1 C dL_law_556 rfl rfl rfl ?_
  refine r_aload_n 558 0 C dL_law_557 rfl rfl rfl ?_
  refine r_iload_n 559 3 C dL_law_558 rfl rfl rfl ?_
  refine r_iconst (v := 1) 560 C dL_law_559 (by decide) rfl ?_
  refine r_iadd 561 C dL_law_560 rfl ?_
  refine r_sld 562 C hX i1 dL_law_561 rfl ?_
  obtain ⟨r, u1, u2, h1, h2, hr2⟩ := hs (xs (Int32.toNatClampNeg (i + (1 : Int32)))) u hr
  refine r_cVI 565 [.int (xs (Int32.toNatClampNeg (i + (1 : Int32))))] C hR (c_X11_deviation ad (xs (Int32.toNatClampNeg (i + (1 : Int32)))) u r u1 h1) q_X11_deviation tw_467 (wd_0 ad u) rfl rfl tw_468 tw_469 (Nat.le_of_ble_eq_true rfl) (Nat.le_of_ble_eq_true rfl) rfl rfl (Nat.le_of_ble_eq_true rfl) dL_law_562 rfl ?_
  refine r_aload_n 566 2 C dL_law_565 rfl rfl rfl ?_
  refine r_aload_n 567 0 C dL_law_566 rfl rfl rfl ?_
  refine r_iload_n 568 3 C dL_law_567 rfl rfl rfl ?_
  refine r_iconst (v := 1) 569 C dL_law_568 (by decide) rfl ?_
  refine r_iadd 570 C dL_law_569 rfl ?_
  refine r_sld 571 C hX i1 dL_law_570 rfl ?_
  refine r_cVI 574 [.int (xs (Int32.toNatClampNeg (i + (1 : Int32))))] C hR (c_X12_deviation ad (xs (Int32.toNatClampNeg (i + (1 : Int32)))) u1 r u2 h2) q_X12_deviation tw_1046 (wd_38 ad u1) rfl rfl tw_1047 tw_1048 (Nat.le_of_ble_eq_true rfl) (Nat.le_of_ble_eq_true rfl) rfl rfl (Nat.le_of_ble_eq_true rfl) dL_law_571 rfl ?_
  refine r_icmp_eq 577 1281 C dL_law_574 (by decide) rfl (fun _ => ?_) (fun c => absurd rfl c)
  exact kk u2 hr2
set_option maxRecDepth 20000 in
theorem lc_13 {K : Ctx} {ad : Nat → Nat} {b L : Nat} {xs : Nat → Int32} {i : Int32} {Rel : S2 → Prop} (C : Cx K ad cL_law 4 yL_law.cls (some .boolean)) (hR : Rm K 11 398) (hX : Xs K b L xs) (i0 : inb i L = true) (i1 : inb (i + 1) L = true) (i2 : inb (i + 2) L = true) (i3 : inb (i + 3) L = true) (i4 : inb (i + 4) L = true) (hs : St_2 f_X11_run f_X12_run Rel) (u : S2) (hr : Rel u) (kk : ∀ u : S2, Rel u → RW K ad 4 1281 [(0, .ref b), (1, .ref (ad 0)), (2, .ref (ad 38)), (3, .int i)] [] u) : RW K ad 4 579 [(0, .ref b), (1, .ref (ad 0)), (2, .ref (ad 38)), (3, .int i)] [] u := by
  refine r_aload_n 580 1 C dL_law_579 rfl rfl rfl ?_
  refine r_aload_n 581 0 C dL_law_580 rfl rfl rfl ?_
  refine r_iload_n 582 3 C dL_law_581 rfl rfl rfl ?_
  refine r_iconst (v := 1) 583 C dL_law_582 (by decide) rfl ?_
  refine r_iadd 584 C dL_law_583 rfl ?_
  refine r_sld 585 C hX i1 dL_law_584 rfl ?_
  refine r_aload_n 586 0 C dL_law_585 rfl rfl rfl ?_
  refine r_iload_n 587 3 C dL_law_586 rfl rfl rfl ?_
  refine r_iconst (v := 2) 588 C dL_law_587 (by decide) rfl ?_
  refine r_iadd 589 C dL_law_588 rfl ?_
  refine r_sld 590 C hX i2 dL_law_589 rfl ?_
  refine r_if_eq 593 597 C dL_law_590 (by decide) rfl (fun c0 => ?_) (fun c0 => ?_)
  · refine r_iconst (v := 0) 598 C dL_law_597 (by decide) rfl ?_
    obtain ⟨r, u1, u2, h1, h2, hr2⟩ := hs (xs (Int32.toNatClampNeg (i + (1 : Int32)))) (0 : Int32) u hr
    refine r_cVI 601 [.int (xs (Int32.toNatClampNeg (i + (1 : Int32)))), .int (0 : Int32)] C hR (c_X11_run ad (xs (Int32.toNatClampNeg (i + (1 : Int32)))) (0 : Int32) u r u1 h1) q_X11_run tw_472 (wd_0 ad u) rfl rfl tw_473 tw_474 (Nat.le_of_ble_eq_true rfl) (Nat.le_of_ble_eq_true rfl) rfl rfl (Nat.le_of_ble_eq_true rfl) dL_law_598 rfl ?_
    refine r_aload_n 602 2 C dL_law_601 rfl rfl rfl ?_
    refine r_aload_n 603 0 C dL_law_602 rfl rfl rfl ?_
    refine r_iload_n 604 3 C dL_law_603 rfl rfl rfl ?_
    refine r_iconst (v := 1) 605 C dL_law_604 (by decide) rfl ?_
    refine r_iadd 606 C dL_law_605 rfl ?_
    refine r_sld 607 C hX i1 dL_law_606 rfl ?_
    refine r_aload_n 608 0 C dL_law_607 rfl rfl rfl ?_
    refine r_iload_n 609 3 C dL_law_608 rfl rfl rfl ?_
    refine r_iconst (v := 2) 610 C dL_law_609 (by decide) rfl ?_
    refine r_iadd 611 C dL_law_610 rfl ?_
    refine r_sld 612 C hX i2 dL_law_611 rfl ?_
    refine r_if_eq 615 619 C dL_law_612 (by decide) rfl (fun _ => ?_) (fun c => absurd c0 c)
    refine r_iconst (v := 0) 620 C dL_law_619 (by decide) rfl ?_
    refine r_cVI 623 [.int (xs (Int32.toNatClampNeg (i + (1 : Int32)))), .int (0 : Int32)] C hR (c_X12_run ad (xs (Int32.toNatClampNeg (i + (1 : Int32)))) (0 : Int32) u1 r u2 h2) q_X12_run tw_1050 (wd_38 ad u1) rfl rfl tw_1051 tw_1052 (Nat.le_of_ble_eq_true rfl) (Nat.le_of_ble_eq_true rfl) rfl rfl (Nat.le_of_ble_eq_true rfl) dL_law_620 rfl ?_
    refine r_icmp_eq 626 1281 C dL_law_623 (by decide) rfl (fun _ => ?_) (fun c => absurd rfl c)
    exact kk u2 hr2
  · refine r_iconst (v := 1) 594 C dL_law_593 (by decide) rfl ?_
    refine r_goto 598 C dL_law_594 (by decide) ?_
    obtain ⟨r, u1, u2, h1, h2, hr2⟩ := hs (xs (Int32.toNatClampNeg (i + (1 : Int32)))) (1 : Int32) u hr
    refine r_cVI 601 [.int (xs (Int32.toNatClampNeg (i + (1 : Int32)))), .int (1 : Int32)] C hR (c_X11_run ad (xs (Int32.toNatClampNeg (i + (1 : Int32)))) (1 : Int32) u r u1 h1) q_X11_run tw_472 (wd_0 ad u) rfl rfl tw_473 tw_474 (Nat.le_of_ble_eq_true rfl) (Nat.le_of_ble_eq_true rfl) rfl rfl (Nat.le_of_ble_eq_true rfl) dL_law_598 rfl ?_
    refine r_aload_n 602 2 C dL_law_601 rfl rfl rfl ?_
    refine r_aload_n 603 0 C dL_law_602 rfl rfl rfl ?_
    refine r_iload_n 604 3 C dL_law_603 rfl rfl rfl ?_
    refine r_iconst (v := 1) 605 C dL_law_604 (by decide) rfl ?_
    refine r_iadd 606 C dL_law_605 rfl ?_
    refine r_sld 607 C hX i1 dL_law_606 rfl ?_
    refine r_aload_n 608 0 C dL_law_607 rfl rfl rfl ?_
    refine r_iload_n 609 3 C dL_law_608 rfl rfl rfl ?_
    refine r_iconst (v := 2) 610 C dL_law_609 (by decide) rfl ?_
    refine r_iadd 611 C dL_law_610 rfl ?_
    refine r_sld 612 C hX i2 dL_law_611 rfl ?_
    refine r_if_eq 615 619 C dL_law_612 (by decide) rfl (fun c => absurd c c0) (fun _ => ?_)
    refine r_iconst (v := 1) 616 C dL_law_615 (by decide) rfl ?_
    refine r_goto 620 C dL_law_616 (by decide) ?_
    refine r_cVI 623 [.int (xs (Int32.toNatClampNeg (i + (1 : Int32)))), .int (1 : Int32)] C hR (c_X12_run ad (xs (Int32.toNatClampNeg (i + (1 : Int32)))) (1 : Int32) u1 r u2 h2) q_X12_run tw_1050 (wd_38 ad u1) rfl rfl tw_1051 tw_1052 (Nat.le_of_ble_eq_true rfl) (Nat.le_of_ble_eq_true rfl) rfl rfl (Nat.le_of_ble_eq_true rfl) dL_law_620 rfl ?_
    refine r_icmp_eq 626 1281 C dL_law_623 (by decide) rfl (fun _ => ?_) (fun c => absurd rfl c)
    exact kk u2 hr2
set_option maxRecDepth 20000 in
theorem lc_14 {K : Ctx} {ad : Nat → Nat} {b L : Nat} {xs : Nat → Int32} {i : Int32} {Rel : S2 → Prop} (C : Cx K ad cL_law 4 yL_law.cls (some .boolean)) (hR : Rm K 11 398) (hX : Xs K b L xs) (i0 : inb i L = true) (i1 : inb (i + 1) L = true) (i2 : inb (i + 2) L = true) (i3 : inb (i + 3) L = true) (i4 : inb (i + 4) L = true) (hs : St_W f_X11_write f_X12_write Rel) (u : S2) (hr : Rel u) (kk : ∀ u : S2, Rel u → RW K ad 4 1281 [(0, .ref b), (1, .ref (ad 0)), (2, .ref (ad 38)), (3, .int i)] [] u) : RW K ad 4 628 [(0, .ref b), (1, .ref (ad 0)), (2, .ref (ad 38)), (3, .int i)] [] u := by
  refine r_aload_n 629 1 C dL_law_628 rfl rfl rfl ?_
  refine r_aload_n 630 0 C dL_law_629 rfl rfl rfl ?_
  refine r_iload_n 631 3 C dL_law_630 rfl rfl rfl ?_
  refine r_iconst (v := 1) 632 C dL_law_631 (by decide) rfl ?_
  refine r_iadd 633 C dL_law_632 rfl ?_
  refine r_sld 634 C hX i1 dL_law_633 rfl ?_
  refine r_i2l 635 C dL_law_634 rfl ?_
  refine r_bipush (v := 32) 637 C dL_law_635 (by decide) rfl ?_
  refine r_lshl 638 C dL_law_637 rfl ?_
  refine r_aload_n 639 0 C dL_law_638 rfl rfl rfl ?_
  refine r_iload_n 640 3 C dL_law_639 rfl rfl rfl ?_
  refine r_iconst (v := 2) 641 C dL_law_640 (by decide) rfl ?_
  refine r_iadd 642 C dL_law_641 rfl ?_
  refine r_sld 643 C hX i2 dL_law_642 rfl ?_
  refine r_i2l 644 C dL_law_643 rfl ?_
  refine r_ldc2 (v := 4294967295) 647 C tw_1214 dL_law_644 rfl ?_
  refine r_land 648 C dL_law_647 rfl ?_
  refine r_lor 649 C dL_law_648 rfl ?_
  refine r_aload_n 650 0 C dL_law_649 rfl rfl rfl ?_
  refine r_iload_n 651 3 C dL_law_650 rfl rfl rfl ?_
  refine r_iconst (v := 3) 652 C dL_law_651 (by decide) rfl ?_
  refine r_iadd 653 C dL_law_652 rfl ?_
  refine r_sld 654 C hX i3 dL_law_653 rfl ?_
  obtain ⟨r, u1, u2, h1, h2, hr2⟩ := hs (((Int32.toInt64 (xs (Int32.toNatClampNeg (i + (1 : Int32))))) <<< (Int32.toInt64 (32 : Int32) &&& 63)) ||| ((Int32.toInt64 (xs (Int32.toNatClampNeg (i + (2 : Int32))))) &&& (4294967295 : Int64))) (xs (Int32.toNatClampNeg (i + (3 : Int32)))) u hr
  refine r_cVI 657 [.long (((Int32.toInt64 (xs (Int32.toNatClampNeg (i + (1 : Int32))))) <<< (Int32.toInt64 (32 : Int32) &&& 63)) ||| ((Int32.toInt64 (xs (Int32.toNatClampNeg (i + (2 : Int32))))) &&& (4294967295 : Int64))), .int (xs (Int32.toNatClampNeg (i + (3 : Int32))))] C hR (c_X11_write ad (((Int32.toInt64 (xs (Int32.toNatClampNeg (i + (1 : Int32))))) <<< (Int32.toInt64 (32 : Int32) &&& 63)) ||| ((Int32.toInt64 (xs (Int32.toNatClampNeg (i + (2 : Int32))))) &&& (4294967295 : Int64))) (xs (Int32.toNatClampNeg (i + (3 : Int32)))) u r u1 h1) q_X11_write tw_517 (wd_0 ad u) rfl rfl tw_518 tw_519 (Nat.le_of_ble_eq_true rfl) (Nat.le_of_ble_eq_true rfl) rfl rfl (Nat.le_of_ble_eq_true rfl) dL_law_654 rfl ?_
  refine r_aload_n 658 2 C dL_law_657 rfl rfl rfl ?_
  refine r_aload_n 659 0 C dL_law_658 rfl rfl rfl ?_
  refine r_iload_n 660 3 C dL_law_659 rfl rfl rfl ?_
  refine r_iconst (v := 1) 661 C dL_law_660 (by decide) rfl ?_
  refine r_iadd 662 C dL_law_661 rfl ?_
  refine r_sld 663 C hX i1 dL_law_662 rfl ?_
  refine r_i2l 664 C dL_law_663 rfl ?_
  refine r_bipush (v := 32) 666 C dL_law_664 (by decide) rfl ?_
  refine r_lshl 667 C dL_law_666 rfl ?_
  refine r_aload_n 668 0 C dL_law_667 rfl rfl rfl ?_
  refine r_iload_n 669 3 C dL_law_668 rfl rfl rfl ?_
  refine r_iconst (v := 2) 670 C dL_law_669 (by decide) rfl ?_
  refine r_iadd 671 C dL_law_670 rfl ?_
  refine r_sld 672 C hX i2 dL_law_671 rfl ?_
  refine r_i2l 673 C dL_law_672 rfl ?_
  refine r_ldc2 (v := 4294967295) 676 C tw_1214 dL_law_673 rfl ?_
  refine r_land 677 C dL_law_676 rfl ?_
  refine r_lor 678 C dL_law_677 rfl ?_
  refine r_aload_n 679 0 C dL_law_678 rfl rfl rfl ?_
  refine r_iload_n 680 3 C dL_law_679 rfl rfl rfl ?_
  refine r_iconst (v := 3) 681 C dL_law_680 (by decide) rfl ?_
  refine r_iadd 682 C dL_law_681 rfl ?_
  refine r_sld 683 C hX i3 dL_law_682 rfl ?_
  refine r_cVI 686 [.long (((Int32.toInt64 (xs (Int32.toNatClampNeg (i + (1 : Int32))))) <<< (Int32.toInt64 (32 : Int32) &&& 63)) ||| ((Int32.toInt64 (xs (Int32.toNatClampNeg (i + (2 : Int32))))) &&& (4294967295 : Int64))), .int (xs (Int32.toNatClampNeg (i + (3 : Int32))))] C hR (c_X12_write ad (((Int32.toInt64 (xs (Int32.toNatClampNeg (i + (1 : Int32))))) <<< (Int32.toInt64 (32 : Int32) &&& 63)) ||| ((Int32.toInt64 (xs (Int32.toNatClampNeg (i + (2 : Int32))))) &&& (4294967295 : Int64))) (xs (Int32.toNatClampNeg (i + (3 : Int32)))) u1 r u2 h2) q_X12_write tw_1078 (wd_38 ad u1) rfl rfl tw_1079 tw_1080 (Nat.le_of_ble_eq_true rfl) (Nat.le_of_ble_eq_true rfl) rfl rfl (Nat.le_of_ble_eq_true rfl) dL_law_683 rfl ?_
  refine r_icmp_eq 689 1281 C dL_law_686 (by decide) rfl (fun _ => ?_) (fun c => absurd rfl c)
  exact kk u2 hr2
set_option maxRecDepth 20000 in
theorem lc_15 {K : Ctx} {ad : Nat → Nat} {b L : Nat} {xs : Nat → Int32} {i : Int32} {Rel : S2 → Prop} (C : Cx K ad cL_law 4 yL_law.cls (some .boolean)) (hR : Rm K 11 398) (hX : Xs K b L xs) (i0 : inb i L = true) (i1 : inb (i + 1) L = true) (i2 : inb (i + 2) L = true) (i3 : inb (i + 3) L = true) (i4 : inb (i + 4) L = true) (hs : St_0 f_X11_erase f_X12_erase Rel) (u : S2) (hr : Rel u) (kk : ∀ u : S2, Rel u → RW K ad 4 1281 [(0, .ref b), (1, .ref (ad 0)), (2, .ref (ad 38)), (3, .int i)] [] u) : RW K ad 4 691 [(0, .ref b), (1, .ref (ad 0)), (2, .ref (ad 38)), (3, .int i)] [] u := by
  refine r_aload_n 692 1 C dL_law_691 rfl rfl rfl ?_
  obtain ⟨r, u1, u2, h1, h2, hr2⟩ := hs  u hr
  refine r_cVI 695 [] C hR (c_X11_erase ad  u r u1 h1) q_X11_erase tw_526 (wd_0 ad u) rfl rfl tw_527 tw_528 (Nat.le_of_ble_eq_true rfl) (Nat.le_of_ble_eq_true rfl) rfl rfl (Nat.le_of_ble_eq_true rfl) dL_law_692 rfl ?_
  refine r_aload_n 696 2 C dL_law_695 rfl rfl rfl ?_
  refine r_cVI 699 [] C hR (c_X12_erase ad  u1 r u2 h2) q_X12_erase tw_1084 (wd_38 ad u1) rfl rfl tw_1085 tw_1086 (Nat.le_of_ble_eq_true rfl) (Nat.le_of_ble_eq_true rfl) rfl rfl (Nat.le_of_ble_eq_true rfl) dL_law_696 rfl ?_
  refine r_icmp_eq 702 1281 C dL_law_699 (by decide) rfl (fun _ => ?_) (fun c => absurd rfl c)
  exact kk u2 hr2
set_option maxRecDepth 20000 in
theorem lc_16 {K : Ctx} {ad : Nat → Nat} {b L : Nat} {xs : Nat → Int32} {i : Int32} {Rel : S2 → Prop} (C : Cx K ad cL_law 4 yL_law.cls (some .boolean)) (hR : Rm K 11 398) (hX : Xs K b L xs) (i0 : inb i L = true) (i1 : inb (i + 1) L = true) (i2 : inb (i + 2) L = true) (i3 : inb (i + 3) L = true) (i4 : inb (i + 4) L = true) (hs : St_0 f_X11_fault f_X12_fault Rel) (u : S2) (hr : Rel u) (kk : ∀ u : S2, Rel u → RW K ad 4 1281 [(0, .ref b), (1, .ref (ad 0)), (2, .ref (ad 38)), (3, .int i)] [] u) : RW K ad 4 704 [(0, .ref b), (1, .ref (ad 0)), (2, .ref (ad 38)), (3, .int i)] [] u := by
  refine r_aload_n 705 1 C dL_law_704 rfl rfl rfl ?_
  obtain ⟨r, u1, u2, h1, h2, hr2⟩ := hs  u hr
  refine r_cVI 708 [] C hR (c_X11_fault ad  u r u1 h1) q_X11_fault tw_530 (wd_0 ad u) rfl rfl tw_531 tw_532 (Nat.le_of_ble_eq_true rfl) (Nat.le_of_ble_eq_true rfl) rfl rfl (Nat.le_of_ble_eq_true rfl) dL_law_705 rfl ?_
  refine r_aload_n 709 2 C dL_law_708 rfl rfl rfl ?_
  refine r_cVI 712 [] C hR (c_X12_fault ad  u1 r u2 h2) q_X12_fault tw_1088 (wd_38 ad u1) rfl rfl tw_1089 tw_1090 (Nat.le_of_ble_eq_true rfl) (Nat.le_of_ble_eq_true rfl) rfl rfl (Nat.le_of_ble_eq_true rfl) dL_law_709 rfl ?_
  refine r_icmp_eq 715 1281 C dL_law_712 (by decide) rfl (fun _ => ?_) (fun c => absurd rfl c)
  exact kk u2 hr2
set_option maxRecDepth 20000 in
theorem lc_17 {K : Ctx} {ad : Nat → Nat} {b L : Nat} {xs : Nat → Int32} {i : Int32} {Rel : S2 → Prop} (C : Cx K ad cL_law 4 yL_law.cls (some .boolean)) (hR : Rm K 11 398) (hX : Xs K b L xs) (i0 : inb i L = true) (i1 : inb (i + 1) L = true) (i2 : inb (i + 2) L = true) (i3 : inb (i + 3) L = true) (i4 : inb (i + 4) L = true) (hs : St_0 f_X11_steerer f_X12_steerer Rel) (u : S2) (hr : Rel u) (kk : ∀ u : S2, Rel u → RW K ad 4 1281 [(0, .ref b), (1, .ref (ad 0)), (2, .ref (ad 38)), (3, .int i)] [] u) : RW K ad 4 717 [(0, .ref b), (1, .ref (ad 0)), (2, .ref (ad 38)), (3, .int i)] [] u := by
  refine r_aload_n 718 1 C dL_law_717 rfl rfl rfl ?_
  obtain ⟨r, u1, u2, h1, h2, hr2⟩ := hs  u hr
  refine r_cVI 721 [] C hR (c_X11_steerer ad  u r u1 h1) q_X11_steerer tw_629 (wd_0 ad u) rfl rfl tw_630 tw_631 (Nat.le_of_ble_eq_true rfl) (Nat.le_of_ble_eq_true rfl) rfl rfl (Nat.le_of_ble_eq_true rfl) dL_law_718 rfl ?_
  refine r_aload_n 722 2 C dL_law_721 rfl rfl rfl ?_
  refine r_cVI 725 [] C hR (c_X12_steerer ad  u1 r u2 h2) q_X12_steerer tw_1112 (wd_38 ad u1) rfl rfl tw_1113 tw_1114 (Nat.le_of_ble_eq_true rfl) (Nat.le_of_ble_eq_true rfl) rfl rfl (Nat.le_of_ble_eq_true rfl) dL_law_722 rfl ?_
  refine r_icmp_eq 728 1281 C dL_law_725 (by decide) rfl (fun _ => ?_) (fun c => absurd rfl c)
  exact kk u2 hr2
set_option maxRecDepth 20000 in
theorem lc_18 {K : Ctx} {ad : Nat → Nat} {b L : Nat} {xs : Nat → Int32} {i : Int32} {Rel : S2 → Prop} (C : Cx K ad cL_law 4 yL_law.cls (some .boolean)) (hR : Rm K 11 398) (hX : Xs K b L xs) (i0 : inb i L = true) (i1 : inb (i + 1) L = true) (i2 : inb (i + 2) L = true) (i3 : inb (i + 3) L = true) (i4 : inb (i + 4) L = true) (hs : St_1 f_X11_steers f_X12_steers Rel) (u : S2) (hr : Rel u) (kk : ∀ u : S2, Rel u → RW K ad 4 1281 [(0, .ref b), (1, .ref (ad 0)), (2, .ref (ad 38)), (3, .int i)] [] u) : RW K ad 4 730 [(0, .ref b), (1, .ref (ad 0)), (2, .ref (ad 38)), (3, .int i)] [] u := by
  refine r_aload_n 731 1 C dL_law_730 rfl rfl rfl ?_
  refine r_aload_n 732 0 C dL_law_731 rfl rfl rfl ?_
  refine r_iload_n 733 3 C dL_law_732 rfl rfl rfl ?_
  refine r_iconst (v := 1) 734 C dL_law_733 (by decide) rfl ?_
  refine r_iadd 735 C dL_law_734 rfl ?_
  refine r_sld 736 C hX i1 dL_law_735 rfl ?_
  obtain ⟨r, u1, u2, h1, h2, hr2⟩ := hs (xs (Int32.toNatClampNeg (i + (1 : Int32)))) u hr
  refine r_cVI 739 [.int (xs (Int32.toNatClampNeg (i + (1 : Int32))))] C hR (c_X11_steers ad (xs (Int32.toNatClampNeg (i + (1 : Int32)))) u r u1 h1) q_X11_steers tw_637 (wd_0 ad u) rfl rfl tw_638 tw_639 (Nat.le_of_ble_eq_true rfl) (Nat.le_of_ble_eq_true rfl) rfl rfl (Nat.le_of_ble_eq_true rfl) dL_law_736 rfl ?_
  refine r_aload_n 740 2 C dL_law_739 rfl rfl rfl ?_
  refine r_aload_n 741 0 C dL_law_740 rfl rfl rfl ?_
  refine r_iload_n 742 3 C dL_law_741 rfl rfl rfl ?_
  refine r_iconst (v := 1) 743 C dL_law_742 (by decide) rfl ?_
  refine r_iadd 744 C dL_law_743 rfl ?_
  refine r_sld 745 C hX i1 dL_law_744 rfl ?_
  refine r_cVI 748 [.int (xs (Int32.toNatClampNeg (i + (1 : Int32))))] C hR (c_X12_steers ad (xs (Int32.toNatClampNeg (i + (1 : Int32)))) u1 r u2 h2) q_X12_steers tw_1117 (wd_38 ad u1) rfl rfl tw_1118 tw_1119 (Nat.le_of_ble_eq_true rfl) (Nat.le_of_ble_eq_true rfl) rfl rfl (Nat.le_of_ble_eq_true rfl) dL_law_745 rfl ?_
  refine r_icmp_eq 751 1281 C dL_law_748 (by decide) rfl (fun _ => ?_) (fun c => absurd rfl c)
  exact kk u2 hr2
set_option maxRecDepth 20000 in
theorem lc_19 {K : Ctx} {ad : Nat → Nat} {b L : Nat} {xs : Nat → Int32} {i : Int32} {Rel : S2 → Prop} (C : Cx K ad cL_law 4 yL_law.cls (some .boolean)) (hR : Rm K 11 398) (hX : Xs K b L xs) (i0 : inb i L = true) (i1 : inb (i + 1) L = true) (i2 : inb (i + 2) L = true) (i3 : inb (i + 3) L = true) (i4 : inb (i + 4) L = true) (hs : St_1 f_X11_course f_X12_course Rel) (u : S2) (hr : Rel u) (kk : ∀ u : S2, Rel u → RW K ad 4 1281 [(0, .ref b), (1, .ref (ad 0)), (2, .ref (ad 38)), (3, .int i)] [] u) : RW K ad 4 753 [(0, .ref b), (1, .ref (ad 0)), (2, .ref (ad 38)), (3, .int i)] [] u := by
  refine r_aload_n 754 1 C dL_law_753 rfl rfl rfl ?_
  refine r_aload_n 755 0 C dL_law_754 rfl rfl rfl ?_
  refine r_iload_n 756 3 C dL_law_755 rfl rfl rfl ?_
  refine r_iconst (v := 1) 757 C dL_law_756 (by decide) rfl ?_
  refine r_iadd 758 C dL_law_757 rfl ?_
  refine r_sld 759 C hX i1 dL_law_758 rfl ?_
  obtain ⟨r, u1, u2, h1, h2, hr2⟩ := hs (xs (Int32.toNatClampNeg (i + (1 : Int32)))) u hr
  refine r_cVI 762 [.int (xs (Int32.toNatClampNeg (i + (1 : Int32))))] C hR (c_X11_course ad (xs (Int32.toNatClampNeg (i + (1 : Int32)))) u r u1 h1) q_X11_course tw_641 (wd_0 ad u) rfl rfl tw_642 tw_643 (Nat.le_of_ble_eq_true rfl) (Nat.le_of_ble_eq_true rfl) rfl rfl (Nat.le_of_ble_eq_true rfl) dL_law_759 rfl ?_
  refine r_aload_n 763 2 C dL_law_762 rfl rfl rfl ?_
  refine r_aload_n 764 0 C dL_law_763 rfl rfl rfl ?_
  refine r_iload_n 765 3 C dL_law_764 rfl rfl rfl ?_
  refine r_iconst (v := 1) 766 C dL_law_765 (by decide) rfl ?_
  refine r_iadd 767 C dL_law_766 rfl ?_
  refine r_sld 768 C hX i1 dL_law_767 rfl ?_
  refine r_cVI 771 [.int (xs (Int32.toNatClampNeg (i + (1 : Int32))))] C hR (c_X12_course ad (xs (Int32.toNatClampNeg (i + (1 : Int32)))) u1 r u2 h2) q_X12_course tw_1121 (wd_38 ad u1) rfl rfl tw_1122 tw_1123 (Nat.le_of_ble_eq_true rfl) (Nat.le_of_ble_eq_true rfl) rfl rfl (Nat.le_of_ble_eq_true rfl) dL_law_768 rfl ?_
  refine r_icmp_eq 774 1281 C dL_law_771 (by decide) rfl (fun _ => ?_) (fun c => absurd rfl c)
  exact kk u2 hr2
set_option maxRecDepth 20000 in
theorem lc_20 {K : Ctx} {ad : Nat → Nat} {b L : Nat} {xs : Nat → Int32} {i : Int32} {Rel : S2 → Prop} (C : Cx K ad cL_law 4 yL_law.cls (some .boolean)) (hR : Rm K 11 398) (hX : Xs K b L xs) (i0 : inb i L = true) (i1 : inb (i + 1) L = true) (i2 : inb (i + 2) L = true) (i3 : inb (i + 3) L = true) (i4 : inb (i + 4) L = true) (hs : St_4 f_X11_swing f_X12_swing Rel) (u : S2) (hr : Rel u) (kk : ∀ u : S2, Rel u → RW K ad 4 1281 [(0, .ref b), (1, .ref (ad 0)), (2, .ref (ad 38)), (3, .int i)] [] u) : RW K ad 4 776 [(0, .ref b), (1, .ref (ad 0)), (2, .ref (ad 38)), (3, .int i)] [] u := by
  refine r_aload_n 777 1 C dL_law_776 rfl rfl rfl ?_
  refine r_aload_n 778 0 C dL_law_777 rfl rfl rfl ?_
  refine r_iload_n 779 3 C dL_law_778 rfl rfl rfl ?_
  refine r_iconst (v := 1) 780 C dL_law_779 (by decide) rfl ?_
  refine r_iadd 781 C dL_law_780 rfl ?_
  refine r_sld 782 C hX i1 dL_law_781 rfl ?_
  refine r_aload_n 783 0 C dL_law_782 rfl rfl rfl ?_
  refine r_iload_n 784 3 C dL_law_783 rfl rfl rfl ?_
  refine r_iconst (v := 2) 785 C dL_law_784 (by decide) rfl ?_
  refine r_iadd 786 C dL_law_785 rfl ?_
  refine r_sld 787 C hX i2 dL_law_786 rfl ?_
  refine r_aload_n 788 0 C dL_law_787 rfl rfl rfl ?_
  refine r_iload_n 789 3 C dL_law_788 rfl rfl rfl ?_
  refine r_iconst (v := 3) 790 C dL_law_789 (by decide) rfl ?_
  refine r_iadd 791 C dL_law_790 rfl ?_
  refine r_sld 792 C hX i3 dL_law_791 rfl ?_
  refine r_if_eq 795 799 C dL_law_792 (by decide) rfl (fun c0 => ?_) (fun c0 => ?_)
  · refine r_iconst (v := 0) 800 C dL_law_799 (by decide) rfl ?_
    refine r_aload_n 801 0 C dL_law_800 rfl rfl rfl ?_
    refine r_iload_n 802 3 C dL_law_801 rfl rfl rfl ?_
    refine r_iconst (v := 4) 803 C dL_law_802 (by decide) rfl ?_
    refine r_iadd 804 C dL_law_803 rfl ?_
    refine r_sld 805 C hX i4 dL_law_804 rfl ?_
    obtain ⟨r, u1, u2, h1, h2, hr2⟩ := hs (xs (Int32.toNatClampNeg (i + (1 : Int32)))) (xs (Int32.toNatClampNeg (i + (2 : Int32)))) (0 : Int32) (xs (Int32.toNatClampNeg (i + (4 : Int32)))) u hr
    refine r_cVI 808 [.int (xs (Int32.toNatClampNeg (i + (1 : Int32)))), .int (xs (Int32.toNatClampNeg (i + (2 : Int32)))), .int (0 : Int32), .int (xs (Int32.toNatClampNeg (i + (4 : Int32))))] C hR (c_X11_swing ad (xs (Int32.toNatClampNeg (i + (1 : Int32)))) (xs (Int32.toNatClampNeg (i + (2 : Int32)))) (0 : Int32) (xs (Int32.toNatClampNeg (i + (4 : Int32)))) u r u1 h1) q_X11_swing tw_649 (wd_0 ad u) rfl rfl tw_650 tw_651 (Nat.le_of_ble_eq_true rfl) (Nat.le_of_ble_eq_true rfl) rfl rfl (Nat.le_of_ble_eq_true rfl) dL_law_805 rfl ?_
    refine r_aload_n 809 2 C dL_law_808 rfl rfl rfl ?_
    refine r_aload_n 810 0 C dL_law_809 rfl rfl rfl ?_
    refine r_iload_n 811 3 C dL_law_810 rfl rfl rfl ?_
    refine r_iconst (v := 1) 812 C dL_law_811 (by decide) rfl ?_
    refine r_iadd 813 C dL_law_812 rfl ?_
    refine r_sld 814 C hX i1 dL_law_813 rfl ?_
    refine r_aload_n 815 0 C dL_law_814 rfl rfl rfl ?_
    refine r_iload_n 816 3 C dL_law_815 rfl rfl rfl ?_
    refine r_iconst (v := 2) 817 C dL_law_816 (by decide) rfl ?_
    refine r_iadd 818 C dL_law_817 rfl ?_
    refine r_sld 819 C hX i2 dL_law_818 rfl ?_
    refine r_aload_n 820 0 C dL_law_819 rfl rfl rfl ?_
    refine r_iload_n 821 3 C dL_law_820 rfl rfl rfl ?_
    refine r_iconst (v := 3) 822 C dL_law_821 (by decide) rfl ?_
    refine r_iadd 823 C dL_law_822 rfl ?_
    refine r_sld 824 C hX i3 dL_law_823 rfl ?_
    refine r_if_eq 827 831 C dL_law_824 (by decide) rfl (fun _ => ?_) (fun c => absurd c0 c)
    refine r_iconst (v := 0) 832 C dL_law_831 (by decide) rfl ?_
    refine r_aload_n 833 0 C dL_law_832 rfl rfl rfl ?_
    refine r_iload_n 834 3 C dL_law_833 rfl rfl rfl ?_
    refine r_iconst (v := 4) 835 C dL_law_834 (by decide) rfl ?_
    refine r_iadd 836 C dL_law_835 rfl ?_
    refine r_sld 837 C hX i4 dL_law_836 rfl ?_
    refine r_cVI 840 [.int (xs (Int32.toNatClampNeg (i + (1 : Int32)))), .int (xs (Int32.toNatClampNeg (i + (2 : Int32)))), .int (0 : Int32), .int (xs (Int32.toNatClampNeg (i + (4 : Int32))))] C hR (c_X12_swing ad (xs (Int32.toNatClampNeg (i + (1 : Int32)))) (xs (Int32.toNatClampNeg (i + (2 : Int32)))) (0 : Int32) (xs (Int32.toNatClampNeg (i + (4 : Int32)))) u1 r u2 h2) q_X12_swing tw_1125 (wd_38 ad u1) rfl rfl tw_1126 tw_1127 (Nat.le_of_ble_eq_true rfl) (Nat.le_of_ble_eq_true rfl) rfl rfl (Nat.le_of_ble_eq_true rfl) dL_law_837 rfl ?_
    refine r_icmp_eq 843 1281 C dL_law_840 (by decide) rfl (fun _ => ?_) (fun c => absurd rfl c)
    exact kk u2 hr2
  · refine r_iconst (v := 1) 796 C dL_law_795 (by decide) rfl ?_
    refine r_goto 800 C dL_law_796 (by decide) ?_
    refine r_aload_n 801 0 C dL_law_800 rfl rfl rfl ?_
    refine r_iload_n 802 3 C dL_law_801 rfl rfl rfl ?_
    refine r_iconst (v := 4) 803 C dL_law_802 (by decide) rfl ?_
    refine r_iadd 804 C dL_law_803 rfl ?_
    refine r_sld 805 C hX i4 dL_law_804 rfl ?_
    obtain ⟨r, u1, u2, h1, h2, hr2⟩ := hs (xs (Int32.toNatClampNeg (i + (1 : Int32)))) (xs (Int32.toNatClampNeg (i + (2 : Int32)))) (1 : Int32) (xs (Int32.toNatClampNeg (i + (4 : Int32)))) u hr
    refine r_cVI 808 [.int (xs (Int32.toNatClampNeg (i + (1 : Int32)))), .int (xs (Int32.toNatClampNeg (i + (2 : Int32)))), .int (1 : Int32), .int (xs (Int32.toNatClampNeg (i + (4 : Int32))))] C hR (c_X11_swing ad (xs (Int32.toNatClampNeg (i + (1 : Int32)))) (xs (Int32.toNatClampNeg (i + (2 : Int32)))) (1 : Int32) (xs (Int32.toNatClampNeg (i + (4 : Int32)))) u r u1 h1) q_X11_swing tw_649 (wd_0 ad u) rfl rfl tw_650 tw_651 (Nat.le_of_ble_eq_true rfl) (Nat.le_of_ble_eq_true rfl) rfl rfl (Nat.le_of_ble_eq_true rfl) dL_law_805 rfl ?_
    refine r_aload_n 809 2 C dL_law_808 rfl rfl rfl ?_
    refine r_aload_n 810 0 C dL_law_809 rfl rfl rfl ?_
    refine r_iload_n 811 3 C dL_law_810 rfl rfl rfl ?_
    refine r_iconst (v := 1) 812 C dL_law_811 (by decide) rfl ?_
    refine r_iadd 813 C dL_law_812 rfl ?_
    refine r_sld 814 C hX i1 dL_law_813 rfl ?_
    refine r_aload_n 815 0 C dL_law_814 rfl rfl rfl ?_
    refine r_iload_n 816 3 C dL_law_815 rfl rfl rfl ?_
    refine r_iconst (v := 2) 817 C dL_law_816 (by decide) rfl ?_
    refine r_iadd 818 C dL_law_817 rfl ?_
    refine r_sld 819 C hX i2 dL_law_818 rfl ?_
    refine r_aload_n 820 0 C dL_law_819 rfl rfl rfl ?_
    refine r_iload_n 821 3 C dL_law_820 rfl rfl rfl ?_
    refine r_iconst (v := 3) 822 C dL_law_821 (by decide) rfl ?_
    refine r_iadd 823 C dL_law_822 rfl ?_
    refine r_sld 824 C hX i3 dL_law_823 rfl ?_
    refine r_if_eq 827 831 C dL_law_824 (by decide) rfl (fun c => absurd c c0) (fun _ => ?_)
    refine r_iconst (v := 1) 828 C dL_law_827 (by decide) rfl ?_
    refine r_goto 832 C dL_law_828 (by decide) ?_
    refine r_aload_n 833 0 C dL_law_832 rfl rfl rfl ?_
    refine r_iload_n 834 3 C dL_law_833 rfl rfl rfl ?_
    refine r_iconst (v := 4) 835 C dL_law_834 (by decide) rfl ?_
    refine r_iadd 836 C dL_law_835 rfl ?_
    refine r_sld 837 C hX i4 dL_law_836 rfl ?_
    refine r_cVI 840 [.int (xs (Int32.toNatClampNeg (i + (1 : Int32)))), .int (xs (Int32.toNatClampNeg (i + (2 : Int32)))), .int (1 : Int32), .int (xs (Int32.toNatClampNeg (i + (4 : Int32))))] C hR (c_X12_swing ad (xs (Int32.toNatClampNeg (i + (1 : Int32)))) (xs (Int32.toNatClampNeg (i + (2 : Int32)))) (1 : Int32) (xs (Int32.toNatClampNeg (i + (4 : Int32)))) u1 r u2 h2) q_X12_swing tw_1125 (wd_38 ad u1) rfl rfl tw_1126 tw_1127 (Nat.le_of_ble_eq_true rfl) (Nat.le_of_ble_eq_true rfl) rfl rfl (Nat.le_of_ble_eq_true rfl) dL_law_837 rfl ?_
    refine r_icmp_eq 843 1281 C dL_law_840 (by decide) rfl (fun _ => ?_) (fun c => absurd rfl c)
    exact kk u2 hr2
set_option maxRecDepth 20000 in
theorem lc_21 {K : Ctx} {ad : Nat → Nat} {b L : Nat} {xs : Nat → Int32} {i : Int32} {Rel : S2 → Prop} (C : Cx K ad cL_law 4 yL_law.cls (some .boolean)) (hR : Rm K 11 398) (hX : Xs K b L xs) (i0 : inb i L = true) (i1 : inb (i + 1) L = true) (i2 : inb (i + 2) L = true) (i3 : inb (i + 3) L = true) (i4 : inb (i + 4) L = true) (hs : St_1 f_X11_noUse f_X12_noUse Rel) (u : S2) (hr : Rel u) (kk : ∀ u : S2, Rel u → RW K ad 4 1281 [(0, .ref b), (1, .ref (ad 0)), (2, .ref (ad 38)), (3, .int i)] [] u) : RW K ad 4 845 [(0, .ref b), (1, .ref (ad 0)), (2, .ref (ad 38)), (3, .int i)] [] u := by
  refine r_aload_n 846 1 C dL_law_845 rfl rfl rfl ?_
  refine r_aload_n 847 0 C dL_law_846 rfl rfl rfl ?_
  refine r_iload_n 848 3 C dL_law_847 rfl rfl rfl ?_
  refine r_iconst (v := 1) 849 C dL_law_848 (by decide) rfl ?_
  refine r_iadd 850 C dL_law_849 rfl ?_
  refine r_sld 851 C hX i1 dL_law_850 rfl ?_
  obtain ⟨r, u1, u2, h1, h2, hr2⟩ := hs (xs (Int32.toNatClampNeg (i + (1 : Int32)))) u hr
  refine r_cVI 854 [.int (xs (Int32.toNatClampNeg (i + (1 : Int32))))] C hR (c_X11_noUse ad (xs (Int32.toNatClampNeg (i + (1 : Int32)))) u r u1 h1) q_X11_noUse tw_672 (wd_0 ad u) rfl rfl tw_673 tw_674 (Nat.le_of_ble_eq_true rfl) (Nat.le_of_ble_eq_true rfl) rfl rfl (Nat.le_of_ble_eq_true rfl) dL_law_851 rfl ?_
  refine r_aload_n 855 2 C dL_law_854 rfl rfl rfl ?_
  refine r_aload_n 856 0 C dL_law_855 rfl rfl rfl ?_
  refine r_iload_n 857 3 C dL_law_856 rfl rfl rfl ?_
  refine r_iconst (v := 1) 858 C dL_law_857 (by decide) rfl ?_
  refine r_iadd 859 C dL_law_858 rfl ?_
  refine r_sld 860 C hX i1 dL_law_859 rfl ?_
  refine r_cVI 863 [.int (xs (Int32.toNatClampNeg (i + (1 : Int32))))] C hR (c_X12_noUse ad (xs (Int32.toNatClampNeg (i + (1 : Int32)))) u1 r u2 h2) q_X12_noUse tw_1143 (wd_38 ad u1) rfl rfl tw_1144 tw_1145 (Nat.le_of_ble_eq_true rfl) (Nat.le_of_ble_eq_true rfl) rfl rfl (Nat.le_of_ble_eq_true rfl) dL_law_860 rfl ?_
  refine r_icmp_eq 866 1281 C dL_law_863 (by decide) rfl (fun _ => ?_) (fun c => absurd rfl c)
  exact kk u2 hr2
set_option maxRecDepth 20000 in
theorem lc_22 {K : Ctx} {ad : Nat → Nat} {b L : Nat} {xs : Nat → Int32} {i : Int32} {Rel : S2 → Prop} (C : Cx K ad cL_law 4 yL_law.cls (some .boolean)) (hR : Rm K 11 398) (hX : Xs K b L xs) (i0 : inb i L = true) (i1 : inb (i + 1) L = true) (i2 : inb (i + 2) L = true) (i3 : inb (i + 3) L = true) (i4 : inb (i + 4) L = true) (hs : St_4 f_X11_turned f_X12_turned Rel) (u : S2) (hr : Rel u) (kk : ∀ u : S2, Rel u → RW K ad 4 1281 [(0, .ref b), (1, .ref (ad 0)), (2, .ref (ad 38)), (3, .int i)] [] u) : RW K ad 4 868 [(0, .ref b), (1, .ref (ad 0)), (2, .ref (ad 38)), (3, .int i)] [] u := by
  refine r_aload_n 869 1 C dL_law_868 rfl rfl rfl ?_
  refine r_aload_n 870 0 C dL_law_869 rfl rfl rfl ?_
  refine r_iload_n 871 3 C dL_law_870 rfl rfl rfl ?_
  refine r_iconst (v := 1) 872 C dL_law_871 (by decide) rfl ?_
  refine r_iadd 873 C dL_law_872 rfl ?_
  refine r_sld 874 C hX i1 dL_law_873 rfl ?_
  refine r_aload_n 875 0 C dL_law_874 rfl rfl rfl ?_
  refine r_iload_n 876 3 C dL_law_875 rfl rfl rfl ?_
  refine r_iconst (v := 2) 877 C dL_law_876 (by decide) rfl ?_
  refine r_iadd 878 C dL_law_877 rfl ?_
  refine r_sld 879 C hX i2 dL_law_878 rfl ?_
  refine r_aload_n 880 0 C dL_law_879 rfl rfl rfl ?_
  refine r_iload_n 881 3 C dL_law_880 rfl rfl rfl ?_
  refine r_iconst (v := 3) 882 C dL_law_881 (by decide) rfl ?_
  refine r_iadd 883 C dL_law_882 rfl ?_
  refine r_sld 884 C hX i3 dL_law_883 rfl ?_
  refine r_aload_n 885 0 C dL_law_884 rfl rfl rfl ?_
  refine r_iload_n 886 3 C dL_law_885 rfl rfl rfl ?_
  refine r_iconst (v := 4) 887 C dL_law_886 (by decide) rfl ?_
  refine r_iadd 888 C dL_law_887 rfl ?_
  refine r_sld 889 C hX i4 dL_law_888 rfl ?_
  obtain ⟨r, u1, u2, h1, h2, hr2⟩ := hs (xs (Int32.toNatClampNeg (i + (1 : Int32)))) (xs (Int32.toNatClampNeg (i + (2 : Int32)))) (xs (Int32.toNatClampNeg (i + (3 : Int32)))) (xs (Int32.toNatClampNeg (i + (4 : Int32)))) u hr
  refine r_cVI 892 [.int (xs (Int32.toNatClampNeg (i + (1 : Int32)))), .int (xs (Int32.toNatClampNeg (i + (2 : Int32)))), .int (xs (Int32.toNatClampNeg (i + (3 : Int32)))), .int (xs (Int32.toNatClampNeg (i + (4 : Int32))))] C hR (c_X11_turned ad (xs (Int32.toNatClampNeg (i + (1 : Int32)))) (xs (Int32.toNatClampNeg (i + (2 : Int32)))) (xs (Int32.toNatClampNeg (i + (3 : Int32)))) (xs (Int32.toNatClampNeg (i + (4 : Int32)))) u r u1 h1) q_X11_turned tw_682 (wd_0 ad u) rfl rfl tw_683 tw_684 (Nat.le_of_ble_eq_true rfl) (Nat.le_of_ble_eq_true rfl) rfl rfl (Nat.le_of_ble_eq_true rfl) dL_law_889 rfl ?_
  refine r_aload_n 893 2 C dL_law_892 rfl rfl rfl ?_
  refine r_aload_n 894 0 C dL_law_893 rfl rfl rfl ?_
  refine r_iload_n 895 3 C dL_law_894 rfl rfl rfl ?_
  refine r_iconst (v := 1) 896 C dL_law_895 (by decide) rfl ?_
  refine r_iadd 897 C dL_law_896 rfl ?_
  refine r_sld 898 C hX i1 dL_law_897 rfl ?_
  refine r_aload_n 899 0 C dL_law_898 rfl rfl rfl ?_
  refine r_iload_n 900 3 C dL_law_899 rfl rfl rfl ?_
  refine r_iconst (v := 2) 901 C dL_law_900 (by decide) rfl ?_
  refine r_iadd 902 C dL_law_901 rfl ?_
  refine r_sld 903 C hX i2 dL_law_902 rfl ?_
  refine r_aload_n 904 0 C dL_law_903 rfl rfl rfl ?_
  refine r_iload_n 905 3 C dL_law_904 rfl rfl rfl ?_
  refine r_iconst (v := 3) 906 C dL_law_905 (by decide) rfl ?_
  refine r_iadd 907 C dL_law_906 rfl ?_
  refine r_sld 908 C hX i3 dL_law_907 rfl ?_
  refine r_aload_n 909 0 C dL_law_908 rfl rfl rfl ?_
  refine r_iload_n 910 3 C dL_law_909 rfl rfl rfl ?_
  refine r_iconst (v := 4) 911 C dL_law_910 (by decide) rfl ?_
  refine r_iadd 912 C dL_law_911 rfl ?_
  refine r_sld 913 C hX i4 dL_law_912 rfl ?_
  refine r_cVI 916 [.int (xs (Int32.toNatClampNeg (i + (1 : Int32)))), .int (xs (Int32.toNatClampNeg (i + (2 : Int32)))), .int (xs (Int32.toNatClampNeg (i + (3 : Int32)))), .int (xs (Int32.toNatClampNeg (i + (4 : Int32))))] C hR (c_X12_turned ad (xs (Int32.toNatClampNeg (i + (1 : Int32)))) (xs (Int32.toNatClampNeg (i + (2 : Int32)))) (xs (Int32.toNatClampNeg (i + (3 : Int32)))) (xs (Int32.toNatClampNeg (i + (4 : Int32)))) u1 r u2 h2) q_X12_turned tw_1147 (wd_38 ad u1) rfl rfl tw_1148 tw_1149 (Nat.le_of_ble_eq_true rfl) (Nat.le_of_ble_eq_true rfl) rfl rfl (Nat.le_of_ble_eq_true rfl) dL_law_913 rfl ?_
  refine r_icmp_eq 919 1281 C dL_law_916 (by decide) rfl (fun _ => ?_) (fun c => absurd rfl c)
  exact kk u2 hr2
set_option maxRecDepth 20000 in
theorem lc_23 {K : Ctx} {ad : Nat → Nat} {b L : Nat} {xs : Nat → Int32} {i : Int32} {Rel : S2 → Prop} (C : Cx K ad cL_law 4 yL_law.cls (some .boolean)) (hR : Rm K 11 398) (hX : Xs K b L xs) (i0 : inb i L = true) (i1 : inb (i + 1) L = true) (i2 : inb (i + 2) L = true) (i3 : inb (i + 3) L = true) (i4 : inb (i + 4) L = true) (hs : St_4 f_X11_bestPull f_X12_bestPull Rel) (u : S2) (hr : Rel u) (kk : ∀ u : S2, Rel u → RW K ad 4 1281 [(0, .ref b), (1, .ref (ad 0)), (2, .ref (ad 38)), (3, .int i)] [] u) : RW K ad 4 921 [(0, .ref b), (1, .ref (ad 0)), (2, .ref (ad 38)), (3, .int i)] [] u := by
  refine r_aload_n 922 1 C dL_law_921 rfl rfl rfl ?_
  refine r_aload_n 923 0 C dL_law_922 rfl rfl rfl ?_
  refine r_iload_n 924 3 C dL_law_923 rfl rfl rfl ?_
  refine r_iconst (v := 1) 925 C dL_law_924 (by decide) rfl ?_
  refine r_iadd 926 C dL_law_925 rfl ?_
  refine r_sld 927 C hX i1 dL_law_926 rfl ?_
  refine r_aload_n 928 0 C dL_law_927 rfl rfl rfl ?_
  refine r_iload_n 929 3 C dL_law_928 rfl rfl rfl ?_
  refine r_iconst (v := 2) 930 C dL_law_929 (by decide) rfl ?_
  refine r_iadd 931 C dL_law_930 rfl ?_
  refine r_sld 932 C hX i2 dL_law_931 rfl ?_
  refine r_aload_n 933 0 C dL_law_932 rfl rfl rfl ?_
  refine r_iload_n 934 3 C dL_law_933 rfl rfl rfl ?_
  refine r_iconst (v := 3) 935 C dL_law_934 (by decide) rfl ?_
  refine r_iadd 936 C dL_law_935 rfl ?_
  refine r_sld 937 C hX i3 dL_law_936 rfl ?_
  refine r_aload_n 938 0 C dL_law_937 rfl rfl rfl ?_
  refine r_iload_n 939 3 C dL_law_938 rfl rfl rfl ?_
  refine r_iconst (v := 4) 940 C dL_law_939 (by decide) rfl ?_
  refine r_iadd 941 C dL_law_940 rfl ?_
  refine r_sld 942 C hX i4 dL_law_941 rfl ?_
  obtain ⟨r, u1, u2, h1, h2, hr2⟩ := hs (xs (Int32.toNatClampNeg (i + (1 : Int32)))) (xs (Int32.toNatClampNeg (i + (2 : Int32)))) (xs (Int32.toNatClampNeg (i + (3 : Int32)))) (xs (Int32.toNatClampNeg (i + (4 : Int32)))) u hr
  refine r_cVI 945 [.int (xs (Int32.toNatClampNeg (i + (1 : Int32)))), .int (xs (Int32.toNatClampNeg (i + (2 : Int32)))), .int (xs (Int32.toNatClampNeg (i + (3 : Int32)))), .int (xs (Int32.toNatClampNeg (i + (4 : Int32))))] C hR (c_X11_bestPull ad (xs (Int32.toNatClampNeg (i + (1 : Int32)))) (xs (Int32.toNatClampNeg (i + (2 : Int32)))) (xs (Int32.toNatClampNeg (i + (3 : Int32)))) (xs (Int32.toNatClampNeg (i + (4 : Int32)))) u r u1 h1) q_X11_bestPull tw_697 (wd_0 ad u) rfl rfl tw_698 tw_699 (Nat.le_of_ble_eq_true rfl) (Nat.le_of_ble_eq_true rfl) rfl rfl (Nat.le_of_ble_eq_true rfl) dL_law_942 rfl ?_
  refine r_aload_n 946 2 C dL_law_945 rfl rfl rfl ?_
  refine r_aload_n 947 0 C dL_law_946 rfl rfl rfl ?_
  refine r_iload_n 948 3 C dL_law_947 rfl rfl rfl ?_
  refine r_iconst (v := 1) 949 C dL_law_948 (by decide) rfl ?_
  refine r_iadd 950 C dL_law_949 rfl ?_
  refine r_sld 951 C hX i1 dL_law_950 rfl ?_
  refine r_aload_n 952 0 C dL_law_951 rfl rfl rfl ?_
  refine r_iload_n 953 3 C dL_law_952 rfl rfl rfl ?_
  refine r_iconst (v := 2) 954 C dL_law_953 (by decide) rfl ?_
  refine r_iadd 955 C dL_law_954 rfl ?_
  refine r_sld 956 C hX i2 dL_law_955 rfl ?_
  refine r_aload_n 957 0 C dL_law_956 rfl rfl rfl ?_
  refine r_iload_n 958 3 C dL_law_957 rfl rfl rfl ?_
  refine r_iconst (v := 3) 959 C dL_law_958 (by decide) rfl ?_
  refine r_iadd 960 C dL_law_959 rfl ?_
  refine r_sld 961 C hX i3 dL_law_960 rfl ?_
  refine r_aload_n 962 0 C dL_law_961 rfl rfl rfl ?_
  refine r_iload_n 963 3 C dL_law_962 rfl rfl rfl ?_
  refine r_iconst (v := 4) 964 C dL_law_963 (by decide) rfl ?_
  refine r_iadd 965 C dL_law_964 rfl ?_
  refine r_sld 966 C hX i4 dL_law_965 rfl ?_
  refine r_cVI 969 [.int (xs (Int32.toNatClampNeg (i + (1 : Int32)))), .int (xs (Int32.toNatClampNeg (i + (2 : Int32)))), .int (xs (Int32.toNatClampNeg (i + (3 : Int32)))), .int (xs (Int32.toNatClampNeg (i + (4 : Int32))))] C hR (c_X12_bestPull ad (xs (Int32.toNatClampNeg (i + (1 : Int32)))) (xs (Int32.toNatClampNeg (i + (2 : Int32)))) (xs (Int32.toNatClampNeg (i + (3 : Int32)))) (xs (Int32.toNatClampNeg (i + (4 : Int32)))) u1 r u2 h2) q_X12_bestPull tw_1159 (wd_38 ad u1) rfl rfl tw_1160 tw_1161 (Nat.le_of_ble_eq_true rfl) (Nat.le_of_ble_eq_true rfl) rfl rfl (Nat.le_of_ble_eq_true rfl) dL_law_966 rfl ?_
  refine r_icmp_eq 972 1281 C dL_law_969 (by decide) rfl (fun _ => ?_) (fun c => absurd rfl c)
  exact kk u2 hr2
set_option maxRecDepth 20000 in
theorem lc_24 {K : Ctx} {ad : Nat → Nat} {b L : Nat} {xs : Nat → Int32} {i : Int32} {Rel : S2 → Prop} (C : Cx K ad cL_law 4 yL_law.cls (some .boolean)) (hR : Rm K 11 398) (hX : Xs K b L xs) (i0 : inb i L = true) (i1 : inb (i + 1) L = true) (i2 : inb (i + 2) L = true) (i3 : inb (i + 3) L = true) (i4 : inb (i + 4) L = true) (hs : St_3 f_X11_kept f_X12_kept Rel) (u : S2) (hr : Rel u) (kk : ∀ u : S2, Rel u → RW K ad 4 1281 [(0, .ref b), (1, .ref (ad 0)), (2, .ref (ad 38)), (3, .int i)] [] u) : RW K ad 4 974 [(0, .ref b), (1, .ref (ad 0)), (2, .ref (ad 38)), (3, .int i)] [] u := by
  refine r_aload_n 975 1 C dL_law_974 rfl rfl rfl ?_
  refine r_aload_n 976 0 C dL_law_975 rfl rfl rfl ?_
  refine r_iload_n 977 3 C dL_law_976 rfl rfl rfl ?_
  refine r_iconst (v := 1) 978 C dL_law_977 (by decide) rfl ?_
  refine r_iadd 979 C dL_law_978 rfl ?_
  refine r_sld 980 C hX i1 dL_law_979 rfl ?_
  refine r_aload_n 981 0 C dL_law_980 rfl rfl rfl ?_
  refine r_iload_n 982 3 C dL_law_981 rfl rfl rfl ?_
  refine r_iconst (v := 2) 983 C dL_law_982 (by decide) rfl ?_
  refine r_iadd 984 C dL_law_983 rfl ?_
  refine r_sld 985 C hX i2 dL_law_984 rfl ?_
  refine r_aload_n 986 0 C dL_law_985 rfl rfl rfl ?_
  refine r_iload_n 987 3 C dL_law_986 rfl rfl rfl ?_
  refine r_iconst (v := 3) 988 C dL_law_987 (by decide) rfl ?_
  refine r_iadd 989 C dL_law_988 rfl ?_
  refine r_sld 990 C hX i3 dL_law_989 rfl ?_
  obtain ⟨r, u1, u2, h1, h2, hr2⟩ := hs (xs (Int32.toNatClampNeg (i + (1 : Int32)))) (xs (Int32.toNatClampNeg (i + (2 : Int32)))) (xs (Int32.toNatClampNeg (i + (3 : Int32)))) u hr
  refine r_cVI 993 [.int (xs (Int32.toNatClampNeg (i + (1 : Int32)))), .int (xs (Int32.toNatClampNeg (i + (2 : Int32)))), .int (xs (Int32.toNatClampNeg (i + (3 : Int32))))] C hR (c_X11_kept ad (xs (Int32.toNatClampNeg (i + (1 : Int32)))) (xs (Int32.toNatClampNeg (i + (2 : Int32)))) (xs (Int32.toNatClampNeg (i + (3 : Int32)))) u r u1 h1) q_X11_kept tw_706 (wd_0 ad u) rfl rfl tw_707 tw_708 (Nat.le_of_ble_eq_true rfl) (Nat.le_of_ble_eq_true rfl) rfl rfl (Nat.le_of_ble_eq_true rfl) dL_law_990 rfl ?_
  refine r_aload_n 994 2 C dL_law_993 rfl rfl rfl ?_
  refine r_aload_n 995 0 C dL_law_994 rfl rfl rfl ?_
  refine r_iload_n 996 3 C dL_law_995 rfl rfl rfl ?_
  refine r_iconst (v := 1) 997 C dL_law_996 (by decide) rfl ?_
  refine r_iadd 998 C dL_law_997 rfl ?_
  refine r_sld 999 C hX i1 dL_law_998 rfl ?_
  refine r_aload_n 1000 0 C dL_law_999 rfl rfl rfl ?_
  refine r_iload_n 1001 3 C dL_law_1000 rfl rfl rfl ?_
  refine r_iconst (v := 2) 1002 C dL_law_1001 (by decide) rfl ?_
  refine r_iadd 1003 C dL_law_1002 rfl ?_
  refine r_sld 1004 C hX i2 dL_law_1003 rfl ?_
  refine r_aload_n 1005 0 C dL_law_1004 rfl rfl rfl ?_
  refine r_iload_n 1006 3 C dL_law_1005 rfl rfl rfl ?_
  refine r_iconst (v := 3) 1007 C dL_law_1006 (by decide) rfl ?_
  refine r_iadd 1008 C dL_law_1007 rfl ?_
  refine r_sld 1009 C hX i3 dL_law_1008 rfl ?_
  refine r_cVI 1012 [.int (xs (Int32.toNatClampNeg (i + (1 : Int32)))), .int (xs (Int32.toNatClampNeg (i + (2 : Int32)))), .int (xs (Int32.toNatClampNeg (i + (3 : Int32))))] C hR (c_X12_kept ad (xs (Int32.toNatClampNeg (i + (1 : Int32)))) (xs (Int32.toNatClampNeg (i + (2 : Int32)))) (xs (Int32.toNatClampNeg (i + (3 : Int32)))) u1 r u2 h2) q_X12_kept tw_1163 (wd_38 ad u1) rfl rfl tw_1164 tw_1165 (Nat.le_of_ble_eq_true rfl) (Nat.le_of_ble_eq_true rfl) rfl rfl (Nat.le_of_ble_eq_true rfl) dL_law_1009 rfl ?_
  refine r_icmp_eq 1015 1281 C dL_law_1012 (by decide) rfl (fun _ => ?_) (fun c => absurd rfl c)
  exact kk u2 hr2
set_option maxRecDepth 20000 in
theorem lc_25 {K : Ctx} {ad : Nat → Nat} {b L : Nat} {xs : Nat → Int32} {i : Int32} {Rel : S2 → Prop} (C : Cx K ad cL_law 4 yL_law.cls (some .boolean)) (hR : Rm K 11 398) (hX : Xs K b L xs) (i0 : inb i L = true) (i1 : inb (i + 1) L = true) (i2 : inb (i + 2) L = true) (i3 : inb (i + 3) L = true) (i4 : inb (i + 4) L = true) (hs : St_2 f_X11_bestDead f_X12_bestDead Rel) (u : S2) (hr : Rel u) (kk : ∀ u : S2, Rel u → RW K ad 4 1281 [(0, .ref b), (1, .ref (ad 0)), (2, .ref (ad 38)), (3, .int i)] [] u) : RW K ad 4 1017 [(0, .ref b), (1, .ref (ad 0)), (2, .ref (ad 38)), (3, .int i)] [] u := by
  refine r_aload_n 1018 1 C dL_law_1017 rfl rfl rfl ?_
  refine r_aload_n 1019 0 C dL_law_1018 rfl rfl rfl ?_
  refine r_iload_n 1020 3 C dL_law_1019 rfl rfl rfl ?_
  refine r_iconst (v := 1) 1021 C dL_law_1020 (by decide) rfl ?_
  refine r_iadd 1022 C dL_law_1021 rfl ?_
  refine r_sld 1023 C hX i1 dL_law_1022 rfl ?_
  refine r_aload_n 1024 0 C dL_law_1023 rfl rfl rfl ?_
  refine r_iload_n 1025 3 C dL_law_1024 rfl rfl rfl ?_
  refine r_iconst (v := 2) 1026 C dL_law_1025 (by decide) rfl ?_
  refine r_iadd 1027 C dL_law_1026 rfl ?_
  refine r_sld 1028 C hX i2 dL_law_1027 rfl ?_
  obtain ⟨r, u1, u2, h1, h2, hr2⟩ := hs (xs (Int32.toNatClampNeg (i + (1 : Int32)))) (xs (Int32.toNatClampNeg (i + (2 : Int32)))) u hr
  refine r_cVI 1031 [.int (xs (Int32.toNatClampNeg (i + (1 : Int32)))), .int (xs (Int32.toNatClampNeg (i + (2 : Int32))))] C hR (c_X11_bestDead ad (xs (Int32.toNatClampNeg (i + (1 : Int32)))) (xs (Int32.toNatClampNeg (i + (2 : Int32)))) u r u1 h1) q_X11_bestDead tw_735 (wd_0 ad u) rfl rfl tw_736 tw_737 (Nat.le_of_ble_eq_true rfl) (Nat.le_of_ble_eq_true rfl) rfl rfl (Nat.le_of_ble_eq_true rfl) dL_law_1028 rfl ?_
  refine r_aload_n 1032 2 C dL_law_1031 rfl rfl rfl ?_
  refine r_aload_n 1033 0 C dL_law_1032 rfl rfl rfl ?_
  refine r_iload_n 1034 3 C dL_law_1033 rfl rfl rfl ?_
  refine r_iconst (v := 1) 1035 C dL_law_1034 (by decide) rfl ?_
  refine r_iadd 1036 C dL_law_1035 rfl ?_
  refine r_sld 1037 C hX i1 dL_law_1036 rfl ?_
  refine r_aload_n 1038 0 C dL_law_1037 rfl rfl rfl ?_
  refine r_iload_n 1039 3 C dL_law_1038 rfl rfl rfl ?_
  refine r_iconst (v := 2) 1040 C dL_law_1039 (by decide) rfl ?_
  refine r_iadd 1041 C dL_law_1040 rfl ?_
  refine r_sld 1042 C hX i2 dL_law_1041 rfl ?_
  refine r_cVI 1045 [.int (xs (Int32.toNatClampNeg (i + (1 : Int32)))), .int (xs (Int32.toNatClampNeg (i + (2 : Int32))))] C hR (c_X12_bestDead ad (xs (Int32.toNatClampNeg (i + (1 : Int32)))) (xs (Int32.toNatClampNeg (i + (2 : Int32)))) u1 r u2 h2) q_X12_bestDead tw_1171 (wd_38 ad u1) rfl rfl tw_1172 tw_1173 (Nat.le_of_ble_eq_true rfl) (Nat.le_of_ble_eq_true rfl) rfl rfl (Nat.le_of_ble_eq_true rfl) dL_law_1042 rfl ?_
  refine r_icmp_eq 1048 1281 C dL_law_1045 (by decide) rfl (fun _ => ?_) (fun c => absurd rfl c)
  exact kk u2 hr2
set_option maxRecDepth 20000 in
theorem lc_26 {K : Ctx} {ad : Nat → Nat} {b L : Nat} {xs : Nat → Int32} {i : Int32} {Rel : S2 → Prop} (C : Cx K ad cL_law 4 yL_law.cls (some .boolean)) (hR : Rm K 11 398) (hX : Xs K b L xs) (i0 : inb i L = true) (i1 : inb (i + 1) L = true) (i2 : inb (i + 2) L = true) (i3 : inb (i + 3) L = true) (i4 : inb (i + 4) L = true) (hs : St_3 f_X11_look f_X12_look Rel) (u : S2) (hr : Rel u) (kk : ∀ u : S2, Rel u → RW K ad 4 1281 [(0, .ref b), (1, .ref (ad 0)), (2, .ref (ad 38)), (3, .int i)] [] u) : RW K ad 4 1050 [(0, .ref b), (1, .ref (ad 0)), (2, .ref (ad 38)), (3, .int i)] [] u := by
  refine r_aload_n 1051 1 C dL_law_1050 rfl rfl rfl ?_
  refine r_aload_n 1052 0 C dL_law_1051 rfl rfl rfl ?_
  refine r_iload_n 1053 3 C dL_law_1052 rfl rfl rfl ?_
  refine r_iconst (v := 1) 1054 C dL_law_1053 (by decide) rfl ?_
  refine r_iadd 1055 C dL_law_1054 rfl ?_
  refine r_sld 1056 C hX i1 dL_law_1055 rfl ?_
  refine r_aload_n 1057 0 C dL_law_1056 rfl rfl rfl ?_
  refine r_iload_n 1058 3 C dL_law_1057 rfl rfl rfl ?_
  refine r_iconst (v := 2) 1059 C dL_law_1058 (by decide) rfl ?_
  refine r_iadd 1060 C dL_law_1059 rfl ?_
  refine r_sld 1061 C hX i2 dL_law_1060 rfl ?_
  refine r_aload_n 1062 0 C dL_law_1061 rfl rfl rfl ?_
  refine r_iload_n 1063 3 C dL_law_1062 rfl rfl rfl ?_
  refine r_iconst (v := 3) 1064 C dL_law_1063 (by decide) rfl ?_
  refine r_iadd 1065 C dL_law_1064 rfl ?_
  refine r_sld 1066 C hX i3 dL_law_1065 rfl ?_
  obtain ⟨r, u1, u2, h1, h2, hr2⟩ := hs (xs (Int32.toNatClampNeg (i + (1 : Int32)))) (xs (Int32.toNatClampNeg (i + (2 : Int32)))) (xs (Int32.toNatClampNeg (i + (3 : Int32)))) u hr
  refine r_cVI 1069 [.int (xs (Int32.toNatClampNeg (i + (1 : Int32)))), .int (xs (Int32.toNatClampNeg (i + (2 : Int32)))), .int (xs (Int32.toNatClampNeg (i + (3 : Int32))))] C hR (c_X11_look ad (xs (Int32.toNatClampNeg (i + (1 : Int32)))) (xs (Int32.toNatClampNeg (i + (2 : Int32)))) (xs (Int32.toNatClampNeg (i + (3 : Int32)))) u r u1 h1) q_X11_look tw_739 (wd_0 ad u) rfl rfl tw_740 tw_741 (Nat.le_of_ble_eq_true rfl) (Nat.le_of_ble_eq_true rfl) rfl rfl (Nat.le_of_ble_eq_true rfl) dL_law_1066 rfl ?_
  refine r_aload_n 1070 2 C dL_law_1069 rfl rfl rfl ?_
  refine r_aload_n 1071 0 C dL_law_1070 rfl rfl rfl ?_
  refine r_iload_n 1072 3 C dL_law_1071 rfl rfl rfl ?_
  refine r_iconst (v := 1) 1073 C dL_law_1072 (by decide) rfl ?_
  refine r_iadd 1074 C dL_law_1073 rfl ?_
  refine r_sld 1075 C hX i1 dL_law_1074 rfl ?_
  refine r_aload_n 1076 0 C dL_law_1075 rfl rfl rfl ?_
  refine r_iload_n 1077 3 C dL_law_1076 rfl rfl rfl ?_
  refine r_iconst (v := 2) 1078 C dL_law_1077 (by decide) rfl ?_
  refine r_iadd 1079 C dL_law_1078 rfl ?_
  refine r_sld 1080 C hX i2 dL_law_1079 rfl ?_
  refine r_aload_n 1081 0 C dL_law_1080 rfl rfl rfl ?_
  refine r_iload_n 1082 3 C dL_law_1081 rfl rfl rfl ?_
  refine r_iconst (v := 3) 1083 C dL_law_1082 (by decide) rfl ?_
  refine r_iadd 1084 C dL_law_1083 rfl ?_
  refine r_sld 1085 C hX i3 dL_law_1084 rfl ?_
  refine r_cVI 1088 [.int (xs (Int32.toNatClampNeg (i + (1 : Int32)))), .int (xs (Int32.toNatClampNeg (i + (2 : Int32)))), .int (xs (Int32.toNatClampNeg (i + (3 : Int32))))] C hR (c_X12_look ad (xs (Int32.toNatClampNeg (i + (1 : Int32)))) (xs (Int32.toNatClampNeg (i + (2 : Int32)))) (xs (Int32.toNatClampNeg (i + (3 : Int32)))) u1 r u2 h2) q_X12_look tw_1177 (wd_38 ad u1) rfl rfl tw_1178 tw_1179 (Nat.le_of_ble_eq_true rfl) (Nat.le_of_ble_eq_true rfl) rfl rfl (Nat.le_of_ble_eq_true rfl) dL_law_1085 rfl ?_
  refine r_icmp_eq 1091 1281 C dL_law_1088 (by decide) rfl (fun _ => ?_) (fun c => absurd rfl c)
  exact kk u2 hr2
set_option maxRecDepth 20000 in
theorem lc_27 {K : Ctx} {ad : Nat → Nat} {b L : Nat} {xs : Nat → Int32} {i : Int32} {Rel : S2 → Prop} (C : Cx K ad cL_law 4 yL_law.cls (some .boolean)) (hR : Rm K 11 398) (hX : Xs K b L xs) (i0 : inb i L = true) (i1 : inb (i + 1) L = true) (i2 : inb (i + 2) L = true) (i3 : inb (i + 3) L = true) (i4 : inb (i + 4) L = true) (hs : St_2 f_X11_wrong f_X12_wrong Rel) (u : S2) (hr : Rel u) (kk : ∀ u : S2, Rel u → RW K ad 4 1281 [(0, .ref b), (1, .ref (ad 0)), (2, .ref (ad 38)), (3, .int i)] [] u) : RW K ad 4 1093 [(0, .ref b), (1, .ref (ad 0)), (2, .ref (ad 38)), (3, .int i)] [] u := by
  refine r_aload_n 1094 1 C dL_law_1093 rfl rfl rfl ?_
  refine r_aload_n 1095 0 C dL_law_1094 rfl rfl rfl ?_
  refine r_iload_n 1096 3 C dL_law_1095 rfl rfl rfl ?_
  refine r_iconst (v := 1) 1097 C dL_law_1096 (by decide) rfl ?_
  refine r_iadd 1098 C dL_law_1097 rfl ?_
  refine r_sld 1099 C hX i1 dL_law_1098 rfl ?_
  refine r_aload_n 1100 0 C dL_law_1099 rfl rfl rfl ?_
  refine r_iload_n 1101 3 C dL_law_1100 rfl rfl rfl ?_
  refine r_iconst (v := 2) 1102 C dL_law_1101 (by decide) rfl ?_
  refine r_iadd 1103 C dL_law_1102 rfl ?_
  refine r_sld 1104 C hX i2 dL_law_1103 rfl ?_
  obtain ⟨r, u1, u2, h1, h2, hr2⟩ := hs (xs (Int32.toNatClampNeg (i + (1 : Int32)))) (xs (Int32.toNatClampNeg (i + (2 : Int32)))) u hr
  refine r_cVI 1107 [.int (xs (Int32.toNatClampNeg (i + (1 : Int32)))), .int (xs (Int32.toNatClampNeg (i + (2 : Int32))))] C hR (c_X11_wrong ad (xs (Int32.toNatClampNeg (i + (1 : Int32)))) (xs (Int32.toNatClampNeg (i + (2 : Int32)))) u r u1 h1) q_X11_wrong tw_747 (wd_0 ad u) rfl rfl tw_748 tw_749 (Nat.le_of_ble_eq_true rfl) (Nat.le_of_ble_eq_true rfl) rfl rfl (Nat.le_of_ble_eq_true rfl) dL_law_1104 rfl ?_
  refine r_aload_n 1108 2 C dL_law_1107 rfl rfl rfl ?_
  refine r_aload_n 1109 0 C dL_law_1108 rfl rfl rfl ?_
  refine r_iload_n 1110 3 C dL_law_1109 rfl rfl rfl ?_
  refine r_iconst (v := 1) 1111 C dL_law_1110 (by decide) rfl ?_
  refine r_iadd 1112 C dL_law_1111 rfl ?_
  refine r_sld 1113 C hX i1 dL_law_1112 rfl ?_
  refine r_aload_n 1114 0 C dL_law_1113 rfl rfl rfl ?_
  refine r_iload_n 1115 3 C dL_law_1114 rfl rfl rfl ?_
  refine r_iconst (v := 2) 1116 C dL_law_1115 (by decide) rfl ?_
  refine r_iadd 1117 C dL_law_1116 rfl ?_
  refine r_sld 1118 C hX i2 dL_law_1117 rfl ?_
  refine r_cVI 1121 [.int (xs (Int32.toNatClampNeg (i + (1 : Int32)))), .int (xs (Int32.toNatClampNeg (i + (2 : Int32))))] C hR (c_X12_wrong ad (xs (Int32.toNatClampNeg (i + (1 : Int32)))) (xs (Int32.toNatClampNeg (i + (2 : Int32)))) u1 r u2 h2) q_X12_wrong tw_1181 (wd_38 ad u1) rfl rfl tw_1182 tw_1183 (Nat.le_of_ble_eq_true rfl) (Nat.le_of_ble_eq_true rfl) rfl rfl (Nat.le_of_ble_eq_true rfl) dL_law_1118 rfl ?_
  refine r_icmp_eq 1124 1281 C dL_law_1121 (by decide) rfl (fun _ => ?_) (fun c => absurd rfl c)
  exact kk u2 hr2
set_option maxRecDepth 20000 in
theorem lc_28 {K : Ctx} {ad : Nat → Nat} {b L : Nat} {xs : Nat → Int32} {i : Int32} {Rel : S2 → Prop} (C : Cx K ad cL_law 4 yL_law.cls (some .boolean)) (hR : Rm K 11 398) (hX : Xs K b L xs) (i0 : inb i L = true) (i1 : inb (i + 1) L = true) (i2 : inb (i + 2) L = true) (i3 : inb (i + 3) L = true) (i4 : inb (i + 4) L = true) (hs : St_2 f_X11_about f_X12_about Rel) (u : S2) (hr : Rel u) (kk : ∀ u : S2, Rel u → RW K ad 4 1281 [(0, .ref b), (1, .ref (ad 0)), (2, .ref (ad 38)), (3, .int i)] [] u) : RW K ad 4 1126 [(0, .ref b), (1, .ref (ad 0)), (2, .ref (ad 38)), (3, .int i)] [] u := by
  refine r_aload_n 1127 1 C dL_law_1126 rfl rfl rfl ?_
  refine r_aload_n 1128 0 C dL_law_1127 rfl rfl rfl ?_
  refine r_iload_n 1129 3 C dL_law_1128 rfl rfl rfl ?_
  refine r_iconst (v := 1) 1130 C dL_law_1129 (by decide) rfl ?_
  refine r_iadd 1131 C dL_law_1130 rfl ?_
  refine r_sld 1132 C hX i1 dL_law_1131 rfl ?_
  refine r_aload_n 1133 0 C dL_law_1132 rfl rfl rfl ?_
  refine r_iload_n 1134 3 C dL_law_1133 rfl rfl rfl ?_
  refine r_iconst (v := 2) 1135 C dL_law_1134 (by decide) rfl ?_
  refine r_iadd 1136 C dL_law_1135 rfl ?_
  refine r_sld 1137 C hX i2 dL_law_1136 rfl ?_
  obtain ⟨r, u1, u2, h1, h2, hr2⟩ := hs (xs (Int32.toNatClampNeg (i + (1 : Int32)))) (xs (Int32.toNatClampNeg (i + (2 : Int32)))) u hr
  refine r_cVI 1140 [.int (xs (Int32.toNatClampNeg (i + (1 : Int32)))), .int (xs (Int32.toNatClampNeg (i + (2 : Int32))))] C hR (c_X11_about ad (xs (Int32.toNatClampNeg (i + (1 : Int32)))) (xs (Int32.toNatClampNeg (i + (2 : Int32)))) u r u1 h1) q_X11_about tw_764 (wd_0 ad u) rfl rfl tw_765 tw_766 (Nat.le_of_ble_eq_true rfl) (Nat.le_of_ble_eq_true rfl) rfl rfl (Nat.le_of_ble_eq_true rfl) dL_law_1137 rfl ?_
  refine r_aload_n 1141 2 C dL_law_1140 rfl rfl rfl ?_
  refine r_aload_n 1142 0 C dL_law_1141 rfl rfl rfl ?_
  refine r_iload_n 1143 3 C dL_law_1142 rfl rfl rfl ?_
  refine r_iconst (v := 1) 1144 C dL_law_1143 (by decide) rfl ?_
  refine r_iadd 1145 C dL_law_1144 rfl ?_
  refine r_sld 1146 C hX i1 dL_law_1145 rfl ?_
  refine r_aload_n 1147 0 C dL_law_1146 rfl rfl rfl ?_
  refine r_iload_n 1148 3 C dL_law_1147 rfl rfl rfl ?_
  refine r_iconst (v := 2) 1149 C dL_law_1148 (by decide) rfl ?_
  refine r_iadd 1150 C dL_law_1149 rfl ?_
  refine r_sld 1151 C hX i2 dL_law_1150 rfl ?_
  refine r_cVI 1154 [.int (xs (Int32.toNatClampNeg (i + (1 : Int32)))), .int (xs (Int32.toNatClampNeg (i + (2 : Int32))))] C hR (c_X12_about ad (xs (Int32.toNatClampNeg (i + (1 : Int32)))) (xs (Int32.toNatClampNeg (i + (2 : Int32)))) u1 r u2 h2) q_X12_about tw_1189 (wd_38 ad u1) rfl rfl tw_1190 tw_1191 (Nat.le_of_ble_eq_true rfl) (Nat.le_of_ble_eq_true rfl) rfl rfl (Nat.le_of_ble_eq_true rfl) dL_law_1151 rfl ?_
  refine r_icmp_eq 1157 1281 C dL_law_1154 (by decide) rfl (fun _ => ?_) (fun c => absurd rfl c)
  exact kk u2 hr2
set_option maxRecDepth 20000 in
theorem lc_29 {K : Ctx} {ad : Nat → Nat} {b L : Nat} {xs : Nat → Int32} {i : Int32} {Rel : S2 → Prop} (C : Cx K ad cL_law 4 yL_law.cls (some .boolean)) (hR : Rm K 11 398) (hX : Xs K b L xs) (i0 : inb i L = true) (i1 : inb (i + 1) L = true) (i2 : inb (i + 2) L = true) (i3 : inb (i + 3) L = true) (i4 : inb (i + 4) L = true) (hs : St_2 f_X11_needle f_X12_needle Rel) (u : S2) (hr : Rel u) (kk : ∀ u : S2, Rel u → RW K ad 4 1281 [(0, .ref b), (1, .ref (ad 0)), (2, .ref (ad 38)), (3, .int i)] [] u) : RW K ad 4 1159 [(0, .ref b), (1, .ref (ad 0)), (2, .ref (ad 38)), (3, .int i)] [] u := by
  refine r_aload_n 1160 1 C dL_law_1159 rfl rfl rfl ?_
  refine r_aload_n 1161 0 C dL_law_1160 rfl rfl rfl ?_
  refine r_iload_n 1162 3 C dL_law_1161 rfl rfl rfl ?_
  refine r_iconst (v := 1) 1163 C dL_law_1162 (by decide) rfl ?_
  refine r_iadd 1164 C dL_law_1163 rfl ?_
  refine r_sld 1165 C hX i1 dL_law_1164 rfl ?_
  refine r_aload_n 1166 0 C dL_law_1165 rfl rfl rfl ?_
  refine r_iload_n 1167 3 C dL_law_1166 rfl rfl rfl ?_
  refine r_iconst (v := 2) 1168 C dL_law_1167 (by decide) rfl ?_
  refine r_iadd 1169 C dL_law_1168 rfl ?_
  refine r_sld 1170 C hX i2 dL_law_1169 rfl ?_
  obtain ⟨r, u1, u2, h1, h2, hr2⟩ := hs (xs (Int32.toNatClampNeg (i + (1 : Int32)))) (xs (Int32.toNatClampNeg (i + (2 : Int32)))) u hr
  refine r_cVI 1173 [.int (xs (Int32.toNatClampNeg (i + (1 : Int32)))), .int (xs (Int32.toNatClampNeg (i + (2 : Int32))))] C hR (c_X11_needle ad (xs (Int32.toNatClampNeg (i + (1 : Int32)))) (xs (Int32.toNatClampNeg (i + (2 : Int32)))) u r u1 h1) q_X11_needle tw_776 (wd_0 ad u) rfl rfl tw_777 tw_778 (Nat.le_of_ble_eq_true rfl) (Nat.le_of_ble_eq_true rfl) rfl rfl (Nat.le_of_ble_eq_true rfl) dL_law_1170 rfl ?_
  refine r_aload_n 1174 2 C dL_law_1173 rfl rfl rfl ?_
  refine r_aload_n 1175 0 C dL_law_1174 rfl rfl rfl ?_
  refine r_iload_n 1176 3 C dL_law_1175 rfl rfl rfl ?_
  refine r_iconst (v := 1) 1177 C dL_law_1176 (by decide) rfl ?_
  refine r_iadd 1178 C dL_law_1177 rfl ?_
  refine r_sld 1179 C hX i1 dL_law_1178 rfl ?_
  refine r_aload_n 1180 0 C dL_law_1179 rfl rfl rfl ?_
  refine r_iload_n 1181 3 C dL_law_1180 rfl rfl rfl ?_
  refine r_iconst (v := 2) 1182 C dL_law_1181 (by decide) rfl ?_
  refine r_iadd 1183 C dL_law_1182 rfl ?_
  refine r_sld 1184 C hX i2 dL_law_1183 rfl ?_
  refine r_cVI 1187 [.int (xs (Int32.toNatClampNeg (i + (1 : Int32)))), .int (xs (Int32.toNatClampNeg (i + (2 : Int32))))] C hR (c_X12_needle ad (xs (Int32.toNatClampNeg (i + (1 : Int32)))) (xs (Int32.toNatClampNeg (i + (2 : Int32)))) u1 r u2 h2) q_X12_needle tw_1193 (wd_38 ad u1) rfl rfl tw_1194 tw_1195 (Nat.le_of_ble_eq_true rfl) (Nat.le_of_ble_eq_true rfl) rfl rfl (Nat.le_of_ble_eq_true rfl) dL_law_1184 rfl ?_
  refine r_icmp_eq 1190 1281 C dL_law_1187 (by decide) rfl (fun _ => ?_) (fun c => absurd rfl c)
  exact kk u2 hr2
set_option maxRecDepth 20000 in
theorem lc_30 {K : Ctx} {ad : Nat → Nat} {b L : Nat} {xs : Nat → Int32} {i : Int32} {Rel : S2 → Prop} (C : Cx K ad cL_law 4 yL_law.cls (some .boolean)) (hR : Rm K 11 398) (hX : Xs K b L xs) (i0 : inb i L = true) (i1 : inb (i + 1) L = true) (i2 : inb (i + 2) L = true) (i3 : inb (i + 3) L = true) (i4 : inb (i + 4) L = true) (hs : St_2 f_X11_watch f_X12_watch Rel) (u : S2) (hr : Rel u) (kk : ∀ u : S2, Rel u → RW K ad 4 1281 [(0, .ref b), (1, .ref (ad 0)), (2, .ref (ad 38)), (3, .int i)] [] u) : RW K ad 4 1192 [(0, .ref b), (1, .ref (ad 0)), (2, .ref (ad 38)), (3, .int i)] [] u := by
  refine r_aload_n 1193 1 C dL_law_1192 rfl rfl rfl ?_
  refine r_aload_n 1194 0 C dL_law_1193 rfl rfl rfl ?_
  refine r_iload_n 1195 3 C dL_law_1194 rfl rfl rfl ?_
  refine r_iconst (v := 1) 1196 C dL_law_1195 (by decide) rfl ?_
  refine r_iadd 1197 C dL_law_1196 rfl ?_
  refine r_sld 1198 C hX i1 dL_law_1197 rfl ?_
  refine r_aload_n 1199 0 C dL_law_1198 rfl rfl rfl ?_
  refine r_iload_n 1200 3 C dL_law_1199 rfl rfl rfl ?_
  refine r_iconst (v := 2) 1201 C dL_law_1200 (by decide) rfl ?_
  refine r_iadd 1202 C dL_law_1201 rfl ?_
  refine r_sld 1203 C hX i2 dL_law_1202 rfl ?_
  obtain ⟨r, u1, u2, h1, h2, hr2⟩ := hs (xs (Int32.toNatClampNeg (i + (1 : Int32)))) (xs (Int32.toNatClampNeg (i + (2 : Int32)))) u hr
  refine r_cVI 1206 [.int (xs (Int32.toNatClampNeg (i + (1 : Int32)))), .int (xs (Int32.toNatClampNeg (i + (2 : Int32))))] C hR (c_X11_watch ad (xs (Int32.toNatClampNeg (i + (1 : Int32)))) (xs (Int32.toNatClampNeg (i + (2 : Int32)))) u r u1 h1) q_X11_watch tw_780 (wd_0 ad u) rfl rfl tw_781 tw_782 (Nat.le_of_ble_eq_true rfl) (Nat.le_of_ble_eq_true rfl) rfl rfl (Nat.le_of_ble_eq_true rfl) dL_law_1203 rfl ?_
  refine r_aload_n 1207 2 C dL_law_1206 rfl rfl rfl ?_
  refine r_aload_n 1208 0 C dL_law_1207 rfl rfl rfl ?_
  refine r_iload_n 1209 3 C dL_law_1208 rfl rfl rfl ?_
  refine r_iconst (v := 1) 1210 C dL_law_1209 (by decide) rfl ?_
  refine r_iadd 1211 C dL_law_1210 rfl ?_
  refine r_sld 1212 C hX i1 dL_law_1211 rfl ?_
  refine r_aload_n 1213 0 C dL_law_1212 rfl rfl rfl ?_
  refine r_iload_n 1214 3 C dL_law_1213 rfl rfl rfl ?_
  refine r_iconst (v := 2) 1215 C dL_law_1214 (by decide) rfl ?_
  refine r_iadd 1216 C dL_law_1215 rfl ?_
  refine r_sld 1217 C hX i2 dL_law_1216 rfl ?_
  refine r_cVI 1220 [.int (xs (Int32.toNatClampNeg (i + (1 : Int32)))), .int (xs (Int32.toNatClampNeg (i + (2 : Int32))))] C hR (c_X12_watch ad (xs (Int32.toNatClampNeg (i + (1 : Int32)))) (xs (Int32.toNatClampNeg (i + (2 : Int32)))) u1 r u2 h2) q_X12_watch tw_1197 (wd_38 ad u1) rfl rfl tw_1198 tw_1199 (Nat.le_of_ble_eq_true rfl) (Nat.le_of_ble_eq_true rfl) rfl rfl (Nat.le_of_ble_eq_true rfl) dL_law_1217 rfl ?_
  refine r_icmp_eq 1223 1281 C dL_law_1220 (by decide) rfl (fun _ => ?_) (fun c => absurd rfl c)
  exact kk u2 hr2
set_option maxRecDepth 20000 in
theorem lc_31 {K : Ctx} {ad : Nat → Nat} {b L : Nat} {xs : Nat → Int32} {i : Int32} {Rel : S2 → Prop} (C : Cx K ad cL_law 4 yL_law.cls (some .boolean)) (hR : Rm K 11 398) (hX : Xs K b L xs) (i0 : inb i L = true) (i1 : inb (i + 1) L = true) (i2 : inb (i + 2) L = true) (i3 : inb (i + 3) L = true) (i4 : inb (i + 4) L = true) (hs : St_2 f_X11_may f_X12_may Rel) (u : S2) (hr : Rel u) (kk : ∀ u : S2, Rel u → RW K ad 4 1281 [(0, .ref b), (1, .ref (ad 0)), (2, .ref (ad 38)), (3, .int i)] [] u) : RW K ad 4 1225 [(0, .ref b), (1, .ref (ad 0)), (2, .ref (ad 38)), (3, .int i)] [] u := by
  refine r_aload_n 1226 1 C dL_law_1225 rfl rfl rfl ?_
  refine r_aload_n 1227 0 C dL_law_1226 rfl rfl rfl ?_
  refine r_iload_n 1228 3 C dL_law_1227 rfl rfl rfl ?_
  refine r_iconst (v := 1) 1229 C dL_law_1228 (by decide) rfl ?_
  refine r_iadd 1230 C dL_law_1229 rfl ?_
  refine r_sld 1231 C hX i1 dL_law_1230 rfl ?_
  refine r_aload_n 1232 0 C dL_law_1231 rfl rfl rfl ?_
  refine r_iload_n 1233 3 C dL_law_1232 rfl rfl rfl ?_
  refine r_iconst (v := 2) 1234 C dL_law_1233 (by decide) rfl ?_
  refine r_iadd 1235 C dL_law_1234 rfl ?_
  refine r_sld 1236 C hX i2 dL_law_1235 rfl ?_
  obtain ⟨r, u1, u2, h1, h2, hr2⟩ := hs (xs (Int32.toNatClampNeg (i + (1 : Int32)))) (xs (Int32.toNatClampNeg (i + (2 : Int32)))) u hr
  refine r_cVI 1239 [.int (xs (Int32.toNatClampNeg (i + (1 : Int32)))), .int (xs (Int32.toNatClampNeg (i + (2 : Int32))))] C hR (c_X11_may ad (xs (Int32.toNatClampNeg (i + (1 : Int32)))) (xs (Int32.toNatClampNeg (i + (2 : Int32)))) u r u1 h1) q_X11_may tw_788 (wd_0 ad u) rfl rfl tw_789 tw_790 (Nat.le_of_ble_eq_true rfl) (Nat.le_of_ble_eq_true rfl) rfl rfl (Nat.le_of_ble_eq_true rfl) dL_law_1236 rfl ?_
  refine r_aload_n 1240 2 C dL_law_1239 rfl rfl rfl ?_
  refine r_aload_n 1241 0 C dL_law_1240 rfl rfl rfl ?_
  refine r_iload_n 1242 3 C dL_law_1241 rfl rfl rfl ?_
  refine r_iconst (v := 1) 1243 C dL_law_1242 (by decide) rfl ?_
  refine r_iadd 1244 C dL_law_1243 rfl ?_
  refine r_sld 1245 C hX i1 dL_law_1244 rfl ?_
  refine r_aload_n 1246 0 C dL_law_1245 rfl rfl rfl ?_
  refine r_iload_n 1247 3 C dL_law_1246 rfl rfl rfl ?_
  refine r_iconst (v := 2) 1248 C dL_law_1247 (by decide) rfl ?_
  refine r_iadd 1249 C dL_law_1248 rfl ?_
  refine r_sld 1250 C hX i2 dL_law_1249 rfl ?_
  refine r_cVI 1253 [.int (xs (Int32.toNatClampNeg (i + (1 : Int32)))), .int (xs (Int32.toNatClampNeg (i + (2 : Int32))))] C hR (c_X12_may ad (xs (Int32.toNatClampNeg (i + (1 : Int32)))) (xs (Int32.toNatClampNeg (i + (2 : Int32)))) u1 r u2 h2) q_X12_may tw_1202 (wd_38 ad u1) rfl rfl tw_1203 tw_1204 (Nat.le_of_ble_eq_true rfl) (Nat.le_of_ble_eq_true rfl) rfl rfl (Nat.le_of_ble_eq_true rfl) dL_law_1250 rfl ?_
  refine r_icmp_eq 1256 1281 C dL_law_1253 (by decide) rfl (fun _ => ?_) (fun c => absurd rfl c)
  exact kk u2 hr2
set_option maxRecDepth 20000 in
theorem lc_32 {K : Ctx} {ad : Nat → Nat} {b L : Nat} {xs : Nat → Int32} {i : Int32} {Rel : S2 → Prop} (C : Cx K ad cL_law 4 yL_law.cls (some .boolean)) (hR : Rm K 11 398) (hX : Xs K b L xs) (i0 : inb i L = true) (i1 : inb (i + 1) L = true) (i2 : inb (i + 2) L = true) (i3 : inb (i + 3) L = true) (i4 : inb (i + 4) L = true) (hs : St_1 f_X11_count f_X12_count Rel) (u : S2) (hr : Rel u) (kk : ∀ u : S2, Rel u → RW K ad 4 1281 [(0, .ref b), (1, .ref (ad 0)), (2, .ref (ad 38)), (3, .int i)] [] u) : RW K ad 4 1258 [(0, .ref b), (1, .ref (ad 0)), (2, .ref (ad 38)), (3, .int i)] [] u := by
  refine r_aload_n 1259 1 C dL_law_1258 rfl rfl rfl ?_
  refine r_aload_n 1260 0 C dL_law_1259 rfl rfl rfl ?_
  refine r_iload_n 1261 3 C dL_law_1260 rfl rfl rfl ?_
  refine r_iconst (v := 1) 1262 C dL_law_1261 (by decide) rfl ?_
  refine r_iadd 1263 C dL_law_1262 rfl ?_
  refine r_sld 1264 C hX i1 dL_law_1263 rfl ?_
  obtain ⟨r, u1, u2, h1, h2, hr2⟩ := hs (xs (Int32.toNatClampNeg (i + (1 : Int32)))) u hr
  refine r_cVI 1267 [.int (xs (Int32.toNatClampNeg (i + (1 : Int32))))] C hR (c_X11_count ad (xs (Int32.toNatClampNeg (i + (1 : Int32)))) u r u1 h1) q_X11_count tw_818 (wd_0 ad u) rfl rfl tw_819 tw_820 (Nat.le_of_ble_eq_true rfl) (Nat.le_of_ble_eq_true rfl) rfl rfl (Nat.le_of_ble_eq_true rfl) dL_law_1264 rfl ?_
  refine r_aload_n 1268 2 C dL_law_1267 rfl rfl rfl ?_
  refine r_aload_n 1269 0 C dL_law_1268 rfl rfl rfl ?_
  refine r_iload_n 1270 3 C dL_law_1269 rfl rfl rfl ?_
  refine r_iconst (v := 1) 1271 C dL_law_1270 (by decide) rfl ?_
  refine r_iadd 1272 C dL_law_1271 rfl ?_
  refine r_sld 1273 C hX i1 dL_law_1272 rfl ?_
  refine r_cVI 1276 [.int (xs (Int32.toNatClampNeg (i + (1 : Int32))))] C hR (c_X12_count ad (xs (Int32.toNatClampNeg (i + (1 : Int32)))) u1 r u2 h2) q_X12_count tw_1210 (wd_38 ad u1) rfl rfl tw_1211 tw_1212 (Nat.le_of_ble_eq_true rfl) (Nat.le_of_ble_eq_true rfl) rfl rfl (Nat.le_of_ble_eq_true rfl) dL_law_1273 rfl ?_
  refine r_icmp_eq 1279 1281 C dL_law_1276 (by decide) rfl (fun _ => ?_) (fun c => absurd rfl c)
  exact kk u2 hr2
theorem lw_i {L j : Nat} (hL : L ≤ 2560) (h : ¬ (Int32.ofNat L - 5 < nI (5 * j))) (hj : 5 * j ≤ L + 5) : 5 * j + 5 ≤ L := by
  rw [Int32.lt_iff_toInt_lt] at h
  have e : (Int32.ofNat L - 5).toInt = (L : Int) - (5 : Nat) := pk_sub_toInt (a := L) (b := 5) (by omega) (by omega)
  have e2 : (nI (5 * j)).toInt = ((5 * j : Nat) : Int) := nI_toInt (by omega)
  rw [e, e2] at h
  omega
theorem lw_in {L j k : Nat} (hL : L ≤ 2560) (h : 5 * j + 5 ≤ L) (hk : k < 5) : inb (nI (5 * j) + nI k) L = true := by
  have e : nI (5 * j) + nI k = nI (5 * j + k) := nI_add _ _
  rw [e]
  unfold inb
  rw [Bool.and_eq_true, decide_eq_true_eq, decide_eq_true_eq]
  exact ⟨nI_pos' (by omega), by rw [nI_clamp (by omega)]; omega⟩
theorem lw_in0 {L j : Nat} (hL : L ≤ 2560) (h : 5 * j + 5 ≤ L) : inb (nI (5 * j)) L = true := by
  unfold inb
  rw [Bool.and_eq_true, decide_eq_true_eq, decide_eq_true_eq]
  exact ⟨nI_pos' (by omega), by rw [nI_clamp (by omega)]; omega⟩
set_option maxRecDepth 20000 in
theorem law_loop {K : Ctx} {ad : Nat → Nat} {b L : Nat} {xs : Nat → Int32} {Rel : S2 → Prop} (hL : L ≤ 2560) (C : Cx K ad cL_law 4 yL_law.cls (some .boolean)) (hR : Rm K 11 398) (hX : Xs K b L xs) (s0 : St_2 f_X11_set f_X12_set Rel) (s1 : St_1 f_X11_head f_X12_head Rel) (s2 : St_1 f_X11_sea f_X12_sea Rel) (s3 : St_0 f_X11_calm f_X12_calm Rel) (s4 : St_2 f_X11_kind f_X12_kind Rel) (s5 : St_3 f_X11_tune f_X12_tune Rel) (s6 : St_2 f_X11_off f_X12_off Rel) (s7 : St_3 f_X11_told f_X12_told Rel) (s8 : St_2 f_X11_iron f_X12_iron Rel) (s9 : St_1 f_X11_shows f_X12_shows Rel) (s10 : St_2 f_X11_now f_X12_now Rel) (s11 : St_3 f_X11_lean f_X12_lean Rel) (s12 : St_1 f_X11_deviation f_X12_deviation Rel) (s13 : St_2 f_X11_run f_X12_run Rel) (s14 : St_W f_X11_write f_X12_write Rel) (s15 : St_0 f_X11_erase f_X12_erase Rel) (s16 : St_0 f_X11_fault f_X12_fault Rel) (s17 : St_0 f_X11_steerer f_X12_steerer Rel) (s18 : St_1 f_X11_steers f_X12_steers Rel) (s19 : St_1 f_X11_course f_X12_course Rel) (s20 : St_4 f_X11_swing f_X12_swing Rel) (s21 : St_1 f_X11_noUse f_X12_noUse Rel) (s22 : St_4 f_X11_turned f_X12_turned Rel) (s23 : St_4 f_X11_bestPull f_X12_bestPull Rel) (s24 : St_3 f_X11_kept f_X12_kept Rel) (s25 : St_2 f_X11_bestDead f_X12_bestDead Rel) (s26 : St_3 f_X11_look f_X12_look Rel) (s27 : St_2 f_X11_wrong f_X12_wrong Rel) (s28 : St_2 f_X11_about f_X12_about Rel) (s29 : St_2 f_X11_needle f_X12_needle Rel) (s30 : St_2 f_X11_watch f_X12_watch Rel) (s31 : St_2 f_X11_may f_X12_may Rel) (s32 : St_1 f_X11_count f_X12_count Rel) (hend : ∀ (i : Int32) (u : S2), RW K ad 4 1287 [(0, .ref b), (1, .ref (ad 0)), (2, .ref (ad 38)), (3, .int i)] [] u) :
    ∀ (n j : Nat) (u : S2), 5 * j ≤ L + 5 → L + 6 ≤ 5 * j + n → Rel u → RW K ad 4 18 [(0, .ref b), (1, .ref (ad 0)), (2, .ref (ad 38)), (3, .int (nI (5 * j)))] [] u := by
  intro n
  induction n with
  | zero => intro j u h1 h2; exact absurd h2 (by omega)
  | succ n ih =>
    intro j u hj hn hr
    refine r_iload_n 19 3 C dL_law_18 rfl rfl rfl ?_
    refine r_aload_n 20 0 C dL_law_19 rfl rfl rfl ?_
    refine r_slen 21 C hX dL_law_20 rfl ?_
    refine r_iconst (v := 5) 22 C dL_law_21 (by decide) rfl ?_
    refine r_isub 23 C dL_law_22 rfl ?_
    refine r_icmp_gt 26 1287 C dL_law_23 (by decide) rfl (fun _ => hend _ u) (fun c => ?_)
    have hb5 := lw_i hL c hj
    have i0 := lw_in0 hL hb5
    have i1 : inb (nI (5 * j) + 1) L = true := lw_in (k := 1) hL hb5 (by omega)
    have i2 : inb (nI (5 * j) + 2) L = true := lw_in (k := 2) hL hb5 (by omega)
    have i3 : inb (nI (5 * j) + 3) L = true := lw_in (k := 3) hL hb5 (by omega)
    have i4 : inb (nI (5 * j) + 4) L = true := lw_in (k := 4) hL hb5 (by omega)
    have kk : ∀ u : S2, Rel u → RW K ad 4 1281 [(0, .ref b), (1, .ref (ad 0)), (2, .ref (ad 38)), (3, .int (nI (5 * j)))] [] u := by
      intro u2 hr2
      refine r_iinc (v := nI (5 * (j + 1))) 1284 3 [(0, .ref b), (1, .ref (ad 0)), (2, .ref (ad 38)), (3, .int (nI (5 * (j + 1))))] [1, 2, 3, 0] C dL_law_1281 rfl (nI_add (5 * j) 5) (by decide) rfl rfl ?_
      refine r_goto 18 C dL_law_1284 (by decide) ?_
      exact ih (j + 1) u2 (by omega) (by omega) hr2
    refine r_aload_n 27 0 C dL_law_26 rfl rfl rfl ?_
    refine r_iload_n 28 3 C dL_law_27 rfl rfl rfl ?_
    refine r_sld 29 C hX i0 dL_law_28 rfl ?_
    refine r_bipush (v := 63) 31 C dL_law_29 (by decide) rfl ?_
    refine r_iand 32 C dL_law_31 rfl ?_
    obtain ⟨k, hk, ek⟩ := pk_andE (xs (nI (5 * j)).toNatClampNeg) (m := 63) 6 (by decide)
    refine r_nm ek.symm ?_
    rcases Nat.lt_or_ge k 33 with h33 | h33
    · rcases (show k = 0 ∨ k = 1 ∨ k = 2 ∨ k = 3 ∨ k = 4 ∨ k = 5 ∨ k = 6 ∨ k = 7 ∨ k = 8 ∨ k = 9 ∨ k = 10 ∨ k = 11 ∨ k = 12 ∨ k = 13 ∨ k = 14 ∨ k = 15 ∨ k = 16 ∨ k = 17 ∨ k = 18 ∨ k = 19 ∨ k = 20 ∨ k = 21 ∨ k = 22 ∨ k = 23 ∨ k = 24 ∨ k = 25 ∨ k = 26 ∨ k = 27 ∨ k = 28 ∨ k = 29 ∨ k = 30 ∨ k = 31 ∨ k = 32 by omega) with rfl | rfl | rfl | rfl | rfl | rfl | rfl | rfl | rfl | rfl | rfl | rfl | rfl | rfl | rfl | rfl | rfl | rfl | rfl | rfl | rfl | rfl | rfl | rfl | rfl | rfl | rfl | rfl | rfl | rfl | rfl | rfl | rfl
      · exact r_tableIn (x := nI 0) 180 C dL_law_32 (by decide) (by decide) rfl (by decide) (lc_0 C hR hX i0 i1 i2 i3 i4 s0 u hr kk)
      · exact r_tableIn (x := nI 1) 213 C dL_law_32 (by decide) (by decide) rfl (by decide) (lc_1 C hR hX i0 i1 i2 i3 i4 s1 u hr kk)
      · exact r_tableIn (x := nI 2) 236 C dL_law_32 (by decide) (by decide) rfl (by decide) (lc_2 C hR hX i0 i1 i2 i3 i4 s2 u hr kk)
      · exact r_tableIn (x := nI 3) 259 C dL_law_32 (by decide) (by decide) rfl (by decide) (lc_3 C hR hX i0 i1 i2 i3 i4 s3 u hr kk)
      · exact r_tableIn (x := nI 4) 272 C dL_law_32 (by decide) (by decide) rfl (by decide) (lc_4 C hR hX i0 i1 i2 i3 i4 s4 u hr kk)
      · exact r_tableIn (x := nI 5) 305 C dL_law_32 (by decide) (by decide) rfl (by decide) (lc_5 C hR hX i0 i1 i2 i3 i4 s5 u hr kk)
      · exact r_tableIn (x := nI 6) 348 C dL_law_32 (by decide) (by decide) rfl (by decide) (lc_6 C hR hX i0 i1 i2 i3 i4 s6 u hr kk)
      · exact r_tableIn (x := nI 7) 381 C dL_law_32 (by decide) (by decide) rfl (by decide) (lc_7 C hR hX i0 i1 i2 i3 i4 s7 u hr kk)
      · exact r_tableIn (x := nI 8) 424 C dL_law_32 (by decide) (by decide) rfl (by decide) (lc_8 C hR hX i0 i1 i2 i3 i4 s8 u hr kk)
      · exact r_tableIn (x := nI 9) 457 C dL_law_32 (by decide) (by decide) rfl (by decide) (lc_9 C hR hX i0 i1 i2 i3 i4 s9 u hr kk)
      · exact r_tableIn (x := nI 10) 480 C dL_law_32 (by decide) (by decide) rfl (by decide) (lc_10 C hR hX i0 i1 i2 i3 i4 s10 u hr kk)
      · exact r_tableIn (x := nI 11) 513 C dL_law_32 (by decide) (by decide) rfl (by decide) (lc_11 C hR hX i0 i1 i2 i3 i4 s11 u hr kk)
      · exact r_tableIn (x := nI 12) 556 C dL_law_32 (by decide) (by decide) rfl (by decide) (lc_12 C hR hX i0 i1 i2 i3 i4 s12 u hr kk)
      · exact r_tableIn (x := nI 13) 579 C dL_law_32 (by decide) (by decide) rfl (by decide) (lc_13 C hR hX i0 i1 i2 i3 i4 s13 u hr kk)
      · exact r_tableIn (x := nI 14) 628 C dL_law_32 (by decide) (by decide) rfl (by decide) (lc_14 C hR hX i0 i1 i2 i3 i4 s14 u hr kk)
      · exact r_tableIn (x := nI 15) 691 C dL_law_32 (by decide) (by decide) rfl (by decide) (lc_15 C hR hX i0 i1 i2 i3 i4 s15 u hr kk)
      · exact r_tableIn (x := nI 16) 704 C dL_law_32 (by decide) (by decide) rfl (by decide) (lc_16 C hR hX i0 i1 i2 i3 i4 s16 u hr kk)
      · exact r_tableIn (x := nI 17) 717 C dL_law_32 (by decide) (by decide) rfl (by decide) (lc_17 C hR hX i0 i1 i2 i3 i4 s17 u hr kk)
      · exact r_tableIn (x := nI 18) 730 C dL_law_32 (by decide) (by decide) rfl (by decide) (lc_18 C hR hX i0 i1 i2 i3 i4 s18 u hr kk)
      · exact r_tableIn (x := nI 19) 753 C dL_law_32 (by decide) (by decide) rfl (by decide) (lc_19 C hR hX i0 i1 i2 i3 i4 s19 u hr kk)
      · exact r_tableIn (x := nI 20) 776 C dL_law_32 (by decide) (by decide) rfl (by decide) (lc_20 C hR hX i0 i1 i2 i3 i4 s20 u hr kk)
      · exact r_tableIn (x := nI 21) 845 C dL_law_32 (by decide) (by decide) rfl (by decide) (lc_21 C hR hX i0 i1 i2 i3 i4 s21 u hr kk)
      · exact r_tableIn (x := nI 22) 868 C dL_law_32 (by decide) (by decide) rfl (by decide) (lc_22 C hR hX i0 i1 i2 i3 i4 s22 u hr kk)
      · exact r_tableIn (x := nI 23) 921 C dL_law_32 (by decide) (by decide) rfl (by decide) (lc_23 C hR hX i0 i1 i2 i3 i4 s23 u hr kk)
      · exact r_tableIn (x := nI 24) 974 C dL_law_32 (by decide) (by decide) rfl (by decide) (lc_24 C hR hX i0 i1 i2 i3 i4 s24 u hr kk)
      · exact r_tableIn (x := nI 25) 1017 C dL_law_32 (by decide) (by decide) rfl (by decide) (lc_25 C hR hX i0 i1 i2 i3 i4 s25 u hr kk)
      · exact r_tableIn (x := nI 26) 1050 C dL_law_32 (by decide) (by decide) rfl (by decide) (lc_26 C hR hX i0 i1 i2 i3 i4 s26 u hr kk)
      · exact r_tableIn (x := nI 27) 1093 C dL_law_32 (by decide) (by decide) rfl (by decide) (lc_27 C hR hX i0 i1 i2 i3 i4 s27 u hr kk)
      · exact r_tableIn (x := nI 28) 1126 C dL_law_32 (by decide) (by decide) rfl (by decide) (lc_28 C hR hX i0 i1 i2 i3 i4 s28 u hr kk)
      · exact r_tableIn (x := nI 29) 1159 C dL_law_32 (by decide) (by decide) rfl (by decide) (lc_29 C hR hX i0 i1 i2 i3 i4 s29 u hr kk)
      · exact r_tableIn (x := nI 30) 1192 C dL_law_32 (by decide) (by decide) rfl (by decide) (lc_30 C hR hX i0 i1 i2 i3 i4 s30 u hr kk)
      · exact r_tableIn (x := nI 31) 1225 C dL_law_32 (by decide) (by decide) rfl (by decide) (lc_31 C hR hX i0 i1 i2 i3 i4 s31 u hr kk)
      · exact r_tableIn (x := nI 32) 1258 C dL_law_32 (by decide) (by decide) rfl (by decide) (lc_32 C hR hX i0 i1 i2 i3 i4 s32 u hr kk)
    · refine r_tableOut (x := nI k) 1281 C dL_law_32 (Or.inr ?_) (by decide) (kk u hr)
      rw [nI_toInt (by omega)]
      omega
