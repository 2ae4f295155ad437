set_option maxRecDepth 40000 in
set_option maxHeartbeats 4000000 in
theorem whole_start {p : Program} {e : Env} {s : State} {m : MethodId} {below : List Frame} {meth : Method} {c : Code} (l : Launch) {b L : Nat} {xs : Nat → Int32} (hL : L ≤ 2560) (C0 : lw_At p s m meth c b L xs) : W p l e room_1 s m #[Value.ref b] below meth c s.heap [] 0 0 (lw_Z below #[Value.ref b] s) (entryFrame m ([Value.ref b] : List Value).toArray 4) := by
  obtain ⟨hx, hb, hr, hml, hown, hts, hX, hbl, hlk, hgv⟩ := C0
  obtain ⟨ad0, hSt⟩ := start_St hts hgv
  have htG : ∀ w ∈ tblG, w.before #[Value.ref b] s = true := fun w hw => hts w (List.mem_filter.mp hw).1
  have htN : ∀ w ∈ tblN, va_Nw w s := fun w hw => va_Nw.of (nest_on (List.mem_filter.mp hw).2) (hts w (List.mem_append_right _ (List.mem_filter.mp hw).1))
  obtain ⟨cI, kI, compI, i1, i2, i3⟩ := Cond.arrayClass_spec (htG _ tw_42)
  have hAO : va_AO "NorthWheel$Pointer" s := va_AO.of (hts _ (List.mem_append_right _ (tb_1 (List.mem_of_getElem? (i := 61) rfl))))
  obtain ⟨compP, cP, kP, p1, -, p3, p4, p5⟩ := Cond.arrayOver_spec hAO
  obtain ⟨D, hKc⟩ := start_K htG
  have hK := start_T hKc i1 i2 i3 p1 p3 p4 p5
  have C : CxL (p, l, e, room_1, s, m, #[Value.ref b], below, meth, c, lw_Z below #[Value.ref b] s, D, cI, cP, (fun q : Nat => s.heap.size ≤ q), 64, 1745) ad0 cI cP cL_law 4 yL_law.cls := ⟨hx, hb, hml, hown, htG, hlk, ⟨hK, htN, hAO, hSt⟩, fun _ h => h⟩
  have hR : RmC (p, l, e, room_1, s, m, #[Value.ref b], below, meth, c, lw_Z below #[Value.ref b] s, D, cI, cP, (fun q : Nat => s.heap.size ≤ q), 64, 1745) 11 398 64 1745 := ⟨by decide, by decide, by decide, by decide⟩
  have hRm : Rm (p, l, e, room_1, s, m, #[Value.ref b], below, meth, c, lw_Z below #[Value.ref b] s, D, cI, cP, (fun q : Nat => s.heap.size ≤ q), 64, 1745) 11 398 := ⟨by decide, by decide⟩
  have hXs : Xs (p, l, e, room_1, s, m, #[Value.ref b], below, meth, c, lw_Z below #[Value.ref b] s, D, cI, cP, (fun q : Nat => s.heap.size ≤ q), 64, 1745) b L xs := ⟨hX, hbl, Nat.not_le.mpr hbl⟩
  have hend : ∀ (ad : Nat → Nat) (i : Int32) (u : S2), RW (p, l, e, room_1, s, m, #[Value.ref b], below, meth, c, lw_Z below #[Value.ref b] s, D, cI, cP, (fun q : Nat => s.heap.size ≤ q), 64, 1745) ad 4 1287 [(0, .ref b), (1, .ref (ad 0)), (2, .ref (ad 38)), (3, .int i)] [] u := by
    intro ad i u H locs ls hP hS hl
    refine lv_iconst (v := 1) hx hb dL_law_1287 (by decide) ?_
    refine va_forget (fun q hq => hS.2.2 q hq) ?_
    refine W.widen (k := 600000) (n := 7302250) (by decide) (by decide) ?_
    exact lw_ret hx hb hr hlk dL_law_1288
  have hCx : ∀ ad : Nat → Nat, (∀ σ : S2, va_D (fun q : Nat => s.heap.size ≤ q) (wd ad cI cP σ)) → (∀ k, 64 ≤ k → ad k = ad0 k) → Cx (p, l, e, room_1, s, m, #[Value.ref b], below, meth, c, lw_Z below #[Value.ref b] s, D, cI, cP, (fun q : Nat => s.heap.size ≤ q), 64, 1745) ad cL_law 4 yL_law.cls (some .boolean) := fun ad h1 h2 => ⟨hx, hb, hml, hown, htG, hr, hlk, ⟨hK, htN, h1, St_c h2 hSt⟩, by decide, by decide⟩
  have key : ∀ ad : Nat → Nat, (∀ σ : S2, va_D (fun q : Nat => s.heap.size ≤ q) (wd ad cI cP σ)) → (∀ k, 64 ≤ k → ad k = ad0 k) → RW (p, l, e, room_1, s, m, #[Value.ref b], below, meth, c, lw_Z below #[Value.ref b] s, D, cI, cP, (fun q : Nat => s.heap.size ≤ q), 64, 1745) ad 4 18 [(0, .ref b), (1, .ref (ad 0)), (2, .ref (ad 38)), (3, .int (nI (5 * 0)))] [] s0 := fun ad h1 h2 => law_loop hL (hCx ad h1 h2) hRm hXs s_set s_head s_sea s_calm s_kind s_tune s_off s_told s_iron s_shows s_now s_lean s_deviation s_run s_write s_erase s_fault s_steerer s_steers s_course s_swing s_noUse s_turned s_bestPull s_kept s_bestDead s_look s_wrong s_about s_needle s_watch s_may s_count (hend ad) (L + 6) 0 s0 (by omega) (by omega) Rel_0
  have hl := lv_entry ([.ref b]) (n := 4) (Nat.le_of_ble_eq_true rfl)
  rw [lg_entry_eq]
  have walk := start_walk (b := b) C hR (fun a0 a1 a2 a3 a4 a5 a6 a7 a8 a9 a10 a11 a12 a13 a14 a15 a16 a17 a18 a19 a20 a21 a22 a23 a24 a25 a26 a27 a28 a29 a30 a31 a32 a33 a34 a35 a36 a37 b0 b1 b2 b3 b4 b5 b6 b7 b8 b9 b10 b11 b12 b13 b14 b15 b16 b17 b18 b19 b20 b21 b22 b23 b24 b25 H locs ls hP hD hS hl => key (adX [a0, a1, a2, a3, a4, a5, a6, a18, a19, a10, a7, a8, a9, a20, a21, a22, a16, a34, a11, a23, a24, a12, a13, a14, a15, a17, a25, a26, a27, a28, a29, a30, a31, a32, a33, a35, a36, a37, b0, b1, b2, b3, b4, b5, b6, b7, b8, b9, b10, b11, b12, b13, b14, b15, b16, b17, b18, b19, b20, b21, b22, b23, b24, b25] ad0) (start_D ad0 cI cP _ a0 a1 a2 a3 a4 a5 a6 a7 a8 a9 a10 a11 a12 a13 a14 a15 a16 a17 a18 a19 a20 a21 a22 a23 a24 a25 a26 a27 a28 a29 a30 a31 a32 a33 a34 a35 a36 a37 b0 b1 b2 b3 b4 b5 b6 b7 b8 b9 b10 b11 b12 b13 b14 b15 b16 b17 b18 b19 b20 b21 b22 b23 b24 b25 hD) (adX_c _ ad0) H locs ls (start_P D H ad0 cI cP a0 a1 a2 a3 a4 a5 a6 a7 a8 a9 a10 a11 a12 a13 a14 a15 a16 a17 a18 a19 a20 a21 a22 a23 a24 a25 a26 a27 a28 a29 a30 a31 a32 a33 a34 a35 a36 a37 b0 b1 b2 b3 b4 b5 b6 b7 b8 b9 b10 b11 b12 b13 b14 b15 b16 b17 b18 b19 b20 b21 b22 b23 b24 b25 hP) hS hl)
  exact walk s.heap [] _ (fun k q h => by cases h) ⟨fun i j p q h => (by cases h), fun k q h => (by cases h)⟩ va_S.rf hl
