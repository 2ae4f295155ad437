/-! the deviation, what a pointer shows -/
def dvn (f : Nat → Int32) (h : Int32) : Int32 := f (Int32.toNatClampNeg (h / 4500)) + (f (Int32.toNatClampNeg ((h / 4500 + 1) - (h / 4500 + 1) / 8 * 8)) - f (Int32.toNatClampNeg (h / 4500))) * (h - h / 4500 * 4500) / 4500
theorem k8 {h : Int32} (hh : rg h 0 35999) : h / 4500 = 0 ∨ h / 4500 = 1 ∨ h / 4500 = 2 ∨ h / 4500 = 3 ∨ h / 4500 = 4 ∨ h / 4500 = 5 ∨ h / 4500 = 6 ∨ h / 4500 = 7 := by
  have h1 := hh.1
  have h2 := hh.2
  have e : (h / 4500).toInt = h.toInt / 4500 := by
    rw [ti_div (by decide)]
    exact Int.tdiv_eq_ediv_of_nonneg h1
  rcases (show h.toInt / 4500 = 0 ∨ h.toInt / 4500 = 1 ∨ h.toInt / 4500 = 2 ∨ h.toInt / 4500 = 3 ∨ h.toInt / 4500 = 4 ∨ h.toInt / 4500 = 5 ∨ h.toInt / 4500 = 6 ∨ h.toInt / 4500 = 7 by omega) with q | q | q | q | q | q | q | q
  · exact Or.inl (ti_ext (e.trans q))
  · exact Or.inr (Or.inl (ti_ext (e.trans q)))
  · exact Or.inr (Or.inr (Or.inl (ti_ext (e.trans q))))
  · exact Or.inr (Or.inr (Or.inr (Or.inl (ti_ext (e.trans q)))))
  · exact Or.inr (Or.inr (Or.inr (Or.inr (Or.inl (ti_ext (e.trans q))))))
  · exact Or.inr (Or.inr (Or.inr (Or.inr (Or.inr (Or.inl (ti_ext (e.trans q)))))))
  · exact Or.inr (Or.inr (Or.inr (Or.inr (Or.inr (Or.inr (Or.inl (ti_ext (e.trans q))))))))
  · exact Or.inr (Or.inr (Or.inr (Or.inr (Or.inr (Or.inr (Or.inr (ti_ext (e.trans q))))))))
theorem k8f (k : Int32) (u : S2) (hk : k = 0 ∨ k = 1 ∨ k = 2 ∨ k = 3 ∨ k = 4 ∨ k = 5 ∨ k = 6 ∨ k = 7) : f_J_floorMod k 8 u = some (k, u) ∧ inb k 8 = true ∧ inb ((k + 1) - (k + 1) / 8 * 8) 8 = true := by
  rcases hk with rfl | rfl | rfl | rfl | rfl | rfl | rfl | rfl <;> exact ⟨rfl, by decide, by decide⟩
theorem X_dev (h : Int32) (u : S2) (hh : rg h 0 35999) : f_X3_deviationAt h u = some (dvn (u 4) h, u) := by
  obtain ⟨a, b, c⟩ := k8f (h / 4500) u (k8 hh)
  unfold f_X3_deviationAt dvn
  rw [a, bd_some, ck_y b]
  simp only [nm_is]
  rw [ck_y c]
theorem M_dev (h : Int32) (u : S2) (hh : rg h 0 35999) : f_X12_ironAt h u = some (dvn (u 52) h, u) := by
  obtain ⟨a, b, c⟩ := k8f (h / 4500) u (k8 hh)
  unfold f_X12_ironAt dvn
  simp only [nm_is]
  rw [ck_y b, ck_y c, ck_y b]
def shw (k o ts tp h : Int32) (f : Nat → Int32) : Int32 := if k = 0 then 0 else if k = 5 then rnd (h - dvn f h) else if k = 4 then rnd (rnd (h - o) + lea ts tp (rnd (h - o))) else rnd (h - o)
theorem shw_rg (k o ts tp h : Int32) (f : Nat → Int32) : rg (shw k o ts tp h f) 0 35999 := by
  unfold shw
  split
  · exact ⟨by decide, by decide⟩
  · split
    · exact rnd_rg _
    · split
      · exact rnd_rg _
      · exact rnd_rg _
theorem X_shown (k : Nat) (h : Int32) (u : S2) (hh : rg h 0 35999) (hp : rg (u k 7) (-89) 89) : f_X4_shownAt k h u = some (shw (u k 0) (u k 4) (u k 6) (u k 7) h (u 4), u) := by
  unfold f_X4_shownAt shw
  by_cases a : u k 0 = 0
  · rw [if_pos a, if_pos a]
  · rw [if_neg a, if_neg a]
    by_cases b : u k 0 = 5
    · rw [if_pos b, if_pos b, X_dev h u hh, bd_some, X_asHeading, bd_some]
    · rw [if_neg b, if_neg b, X_asHeading, bd_some]
      by_cases c : u k 0 = 4
      · rw [if_pos c, if_pos c, X_leanOf _ _ _ _ hp (rnd_rg _), bd_some, X_asHeading, bd_some]
      · rw [if_neg c, if_neg c]
theorem M_shown (b p : Int32) (bi pi ai : Nat) (u : S2) (h1 : inb b 2 = true) (e1 : Int32.toNatClampNeg b = bi) (h2 : inb (3 * b + p) 6 = true) (e2 : Int32.toNatClampNeg (3 * b + p) = ai) (h3 : inb p 3 = true) (e3 : Int32.toNatClampNeg p = pi) (hh : rg (u 40 bi) 0 35999) (hp : rg (u 51 pi) (-89) 89) : f_X12_showsOf b p u = some (shw (u 44 pi) (u 48 ai) (u 50 pi) (u 51 pi) (u 40 bi) (u 52), u) := by
  unfold f_X12_showsOf shw
  simp only [ck_y h1, ck_y h2, ck_y h3, nm_is, e1, e2, e3, M_round, bd_some]
  by_cases a : u 44 pi = 0
  · rw [if_pos a, if_pos a]
  · rw [if_neg a, if_neg a]
    by_cases b : u 44 pi = 5
    · rw [if_pos b, if_pos b, M_dev _ u hh, bd_some]
    · rw [if_neg b, if_neg b]
      by_cases c : u 44 pi = 4
      · rw [if_pos c, if_pos c, M_leanOf _ _ _ _ hp, bd_some]
      · rw [if_neg c, if_neg c]
