/-! the first contents of the world -/
def s0L : List (Nat → Int32) := [(fun _ => 0), (fun _ => 0), (fun _ => 0), (fun _ => 0), (fun _ => 0), (fun j => if j = 7 then 20 else 0), (fun _ => 0), (fun j => if j = 7 then 20 else 0), (fun _ => 0), (fun _ => 0), (fun j => if j = 1 then 10 else if j = 2 then 20 else 0), (fun j => if j = 1 then 10 else if j = 2 then 20 else 0), (fun j => if j = 1 then 10 else if j = 2 then 20 else 0), (fun j => if j = 1 then 10 else if j = 2 then 20 else 0), (fun j => if j = 1 then 10 else if j = 2 then 20 else 0), (fun j => if j = 1 then 10 else if j = 2 then 20 else 0), (fun j => if j = 1 then 10 else if j = 2 then 20 else 0), (fun j => if j = 1 then 10 else if j = 2 then 20 else 0), (va_cpy aF (fun _ => 0) 0 0 6), (fun _ => 0), (va_cpy aF (fun _ => 0) 0 0 6), (fun _ => 0), (fun _ => 0), (fun _ => 0), (fun _ => 0), (fun _ => 0), (fun _ => 0), (fun _ => 0), (fun _ => 0), (fun _ => 0), (fun _ => 0), (fun _ => 0), (fun _ => 0), (fun _ => 0), (fun _ => 0), (fun _ => 0), (fun _ => 0), (fun _ => 0), (fun _ => 0), (upd (upd (upd (upd (upd (upd (upd (upd (fun _ => 0) 0 0) 1 0) 2 20) 3 0) 4 0) 5 0) 6 20) 7 0), (fun _ => 0), (fun _ => 0), (upd (upd (fun _ => 0) 0 (-1)) 1 (-1)), (fun _ => 0), (fun _ => 0), (upd (upd (upd (fun _ => 0) 0 10) 1 10) 2 10), (upd (upd (upd (fun _ => 0) 0 20) 1 20) 2 20), (fun _ => 0), (fun _ => 0), (fun _ => 0), (fun _ => 0), (fun _ => 0), (fun _ => 0), (fun _ => 0), (upd (upd (upd (upd (upd (upd (fun _ => 0) 0 0) 1 100) 2 0) 3 35) 4 1) 5 0), (fun _ => 0), (fun _ => 0), (fun _ => 0), (fun _ => 0), (fun _ => 0), (fun _ => 0), (fun _ => 0), (fun _ => 0), (fun _ => 0)]
def s0 : S2 := fun k => s0L.getD k (fun _ => 0)
theorem rg00 {a b : Int} (h1 : a ≤ 0) (h2 : 0 ≤ b) : rg 0 a b := ⟨h1, h2⟩
theorem Rel_0 : Rel s0 := by
  refine ⟨⟨?_, ?_, ?_, ?_, ?_, ?_, ?_, ?_, ?_, ?_, ?_, ?_⟩, ⟨?_, ?_, ?_⟩, ⟨?_, ?_, ?_, ?_⟩, ⟨?_, ?_⟩, ⟨?_, ?_, ?_, ?_, ?_⟩, ⟨?_, ?_, ?_⟩, ⟨?_, ?_, ?_, ?_⟩, ⟨?_, ?_, ?_, ?_, ?_⟩, ⟨?_, ?_, ?_, ?_, ?_, ?_⟩⟩
  · decide
  · decide
  · decide
  · decide
  · decide
  · decide
  · exact ⟨by decide, by decide⟩
  · exact ⟨by decide, by decide⟩
  · exact ⟨by decide, by decide⟩
  · exact ⟨by decide, by decide⟩
  · exact ⟨by decide, by decide⟩
  · exact ⟨by decide, by decide⟩
  · exact ⟨by decide, by decide, by decide, by decide, by decide, by decide, by decide, by decide, ⟨by decide, by decide⟩, ⟨by decide, by decide⟩, ⟨by decide, by decide⟩, ⟨by decide, by decide⟩, ⟨by decide, by decide⟩, ⟨by decide, by decide⟩, ⟨by decide, by decide⟩, ⟨by decide, by decide⟩⟩
  · exact ⟨by decide, by decide, by decide, by decide, by decide, by decide, by decide, by decide, ⟨by decide, by decide⟩, ⟨by decide, by decide⟩, ⟨by decide, by decide⟩, ⟨by decide, by decide⟩, ⟨by decide, by decide⟩, ⟨by decide, by decide⟩, ⟨by decide, by decide⟩, ⟨by decide, by decide⟩⟩
  · exact ⟨by decide, by decide, by decide, by decide, by decide, by decide, by decide, by decide, ⟨by decide, by decide⟩, ⟨by decide, by decide⟩, ⟨by decide, by decide⟩, ⟨by decide, by decide⟩, ⟨by decide, by decide⟩, ⟨by decide, by decide⟩, ⟨by decide, by decide⟩, ⟨by decide, by decide⟩⟩
  · rfl
  · decide
  · exact ⟨by decide, by decide⟩
  · intro j
    exact rg00 (by decide) (by decide)
  · rfl
  · intro j
    exact rg00 (by decide) (by decide)
  · intro j hj
    rcases (show j = 0 ∨ j = 1 ∨ j = 2 ∨ j = 3 ∨ j = 4 ∨ j = 5 by omega) with rfl | rfl | rfl | rfl | rfl | rfl <;> decide
  · exact ⟨⟨by decide, by decide⟩, ⟨by decide, by decide⟩, ⟨by decide, by decide⟩, ⟨by decide, by decide⟩, ⟨by decide, by decide⟩, ⟨by decide, by decide⟩⟩
  · decide
  · exact ⟨by decide, by decide⟩
  · exact Or.inl ⟨by decide, by decide⟩
  · rfl
  · decide
  · exact ⟨by decide, by decide⟩
  · rfl
  · decide
  · exact ⟨by decide, by decide⟩
  · intro j
    exact rg00 (by decide) (by decide)
  · decide
  · exact ⟨by decide, by decide⟩
  · intro j
    exact rg00 (by decide) (by decide)
  · intro j
    exact rg00 (by decide) (by decide)
  · intro k hk
    refine Or.inl ⟨?_, fun j hj => ?_⟩
    · rfl
    · have e : (s0 28 3).toInt = 0 := by decide
      rw [e] at hj
      omega
  · rfl
  · rfl
  · decide
  · exact ⟨by decide, by decide⟩
  · intro j
    exact rg00 (by decide) (by decide)
  · intro j
    exact rg00 (by decide) (by decide)
theorem D_adr {A : Nat → Prop} {ws ws' : va_W} (e : ws'.map Prod.fst = ws.map Prod.fst) (h : va_D A ws) : va_D A ws' := by
  have g : ∀ (i : Nat) (q : Nat × va_E), ws'[i]? = some q → ∃ q0, ws[i]? = some q0 ∧ q0.1 = q.1 := by
    intro i q hq
    have h1 : (ws'.map Prod.fst)[i]? = some q.1 := by rw [List.getElem?_map, hq]; rfl
    rw [e, List.getElem?_map] at h1
    cases hw : ws[i]? with
    | none => rw [hw] at h1; cases h1
    | some q0 => rw [hw] at h1; exact ⟨q0, rfl, Option.some.inj h1⟩
  refine ⟨fun i j a b ha hb hab => ?_, fun k q hq => ?_⟩
  · obtain ⟨a0, a1, a2⟩ := g i a ha
    obtain ⟨b0, b1, b2⟩ := g j b hb
    exact h.1 i j a0 b0 a1 b1 (by rw [a2, b2, hab])
  · obtain ⟨q0, q1, q2⟩ := g k q hq
    rw [← q2]
    exact h.2 k q0 q1
theorem arrV_eq (cA : ClassId) (n : Nat) {f g : Nat → Value} (h : ∀ j, j < n → f j = g j) : arrV cA n f = arrV cA n g := by
  unfold arrV
  congr 1
  congr 1
  funext j
  exact h j.val j.isLt
theorem P_swap {D : va_G} {cl : List vw_C} {ws ws' : va_W} {H : Heap} (i : Nat) {a n : Nat} {cA : ClassId} {f g : Nat → Option Nat} (h : va_P D cl ws H) (hi : ws[i]? = some (a, .inl (cA, n, .inr (.inr (.inr (.inr f)))))) (hw : ws.set i (a, .inl (cA, n, .inr (.inr (.inr (.inr g))))) = ws') (hfg : ∀ j, j < n → f j = g j) : va_P D cl ws' H := by
  subst hw
  intro k q hq
  by_cases c : i = k
  · subst c
    have hlt : i < ws.length := (List.getElem?_eq_some_iff.mp hi).1
    rw [List.getElem?_set_self hlt] at hq
    cases hq
    have h0 := h i _ hi
    show H[a]? = some (vp_cell cA (n, .inr (.inr (.inr (.inr g)))))
    have h1 : H[a]? = some (vp_cell cA (n, .inr (.inr (.inr (.inr f))))) := h0
    rw [h1, vp_cell_q, vp_cell_q]
    exact congrArg some (arrV_eq cA n (fun j hj => by rw [hfg j hj]))
  · rw [List.getElem?_set_ne c] at hq
    exact h k q hq
theorem St_c {ad ad' : Nat → Nat} {A : Nat → Prop} {U : State} (h : ∀ k, 64 ≤ k → ad' k = ad k) (hs : St ad A U) : St ad' A U := by
  have e1 : (fun i => ad' (70 + i)) = (fun i => ad (70 + i)) := funext (fun i => h _ (by omega))
  have e2 : (fun i => ad' (80 + i)) = (fun i => ad (80 + i)) := funext (fun i => h _ (by omega))
  unfold St
  rw [e1, e2, h 64 (by omega), h 65 (by omega), h 66 (by omega), h 70 (by omega), h 71 (by omega), h 72 (by omega), h 73 (by omega), h 74 (by omega), h 75 (by omega)]
  exact hs
theorem vk_Sc {N : Nat} {len : List Nat} {byt : List (List Int32)} {aK aV bK bV : Nat → Nat} {A : Nat → Prop} {U : State} {H : Heap} (h : vk_S N len byt aK aV A U H) (h1 : ∀ i, i < N → bK i = aK i) (h2 : ∀ i, i < N → bV i = aV i) : vk_S N len byt bK bV A U H := by
  refine ⟨fun i hi => ?_, fun i j hi hj e => ?_⟩
  · rw [h1 i hi, h2 i hi]
    exact h.1 i hi
  · rw [h1 i hi, h1 j hj] at e
    exact h.2 i j hi hj e
