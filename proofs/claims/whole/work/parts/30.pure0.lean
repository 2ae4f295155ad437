/-! pure facts: the mirrored functions' words, numbers, the leaves of both sides -/
theorem bd_some {α : Type} (a : Int32) (b : S2) (k : Int32 → S2 → Option α) : bd (some (a, b)) k = k a b := rfl
theorem bv_some {α : Type} (b : S2) (k : S2 → Option α) : bv (some b) k = k b := rfl
theorem bq_some {α : Type} (a : Option Nat) (b : S2) (k : Option Nat → S2 → Option α) : bq (some (a, b)) k = k a b := rfl
theorem nm_is {α β : Type} (e : α) (k : α → Option β) : nm e k = k e := rfl
theorem ck_t {α : Type} (E : Option α) : ck true E = E := rfl
theorem ck_y {α : Type} {b : Bool} {E : Option α} (h : b = true) : ck b E = E := by rw [h]; rfl
theorem wr_c {σ : S2} {k i k' : Nat} {v : Int32} (h : k' ≠ k) : wr σ k i v k' = σ k' := by
  unfold wr va_up
  rw [if_neg h]
theorem wr_s (σ : S2) (k i : Nat) (v : Int32) : wr σ k i v k = upd (σ k) i v := by
  unfold wr va_up
  rw [if_pos rfl]
theorem upd_s (f : Nat → Int32) (i : Nat) (v : Int32) : upd f i v i = v := if_pos rfl
theorem upd_n {f : Nat → Int32} {i j : Nat} {v : Int32} (h : j ≠ i) : upd f i v j = f j := if_neg h
theorem up_c {σ : S2} {k k' : Nat} {f : Nat → Int32} (h : k' ≠ k) : va_up σ k f k' = σ k' := if_neg h
theorem up_s (σ : S2) (k : Nat) (f : Nat → Int32) : va_up σ k f k = f := if_pos rfl
theorem ti_add {a b : Int32} (h1 : -2147483648 ≤ a.toInt + b.toInt) (h2 : a.toInt + b.toInt ≤ 2147483647) : (a + b).toInt = a.toInt + b.toInt := by
  rw [Int32.toInt_add]
  exact Int.bmod_eq_of_le (by omega) (by omega)
theorem ti_sub {a b : Int32} (h1 : -2147483648 ≤ a.toInt - b.toInt) (h2 : a.toInt - b.toInt ≤ 2147483647) : (a - b).toInt = a.toInt - b.toInt := by
  rw [Int32.toInt_sub]
  exact Int.bmod_eq_of_le (by omega) (by omega)
theorem ti_mul {a b : Int32} (h1 : -2147483648 ≤ a.toInt * b.toInt) (h2 : a.toInt * b.toInt ≤ 2147483647) : (a * b).toInt = a.toInt * b.toInt := by
  rw [Int32.toInt_mul]
  exact Int.bmod_eq_of_le (by omega) (by omega)
theorem ti_neg {a : Int32} (h : -2147483648 < a.toInt) : (-a).toInt = -a.toInt := by
  have h2 := a.toInt_lt
  rw [Int32.toInt_neg]
  exact Int.bmod_eq_of_le (by omega) (by omega)
theorem ti_div {a b : Int32} (h : ¬ b = -1) : (a / b).toInt = a.toInt.tdiv b.toInt := Int32.toInt_div_of_ne_right a b h
theorem td (a d : Int) : (0 ≤ a ∧ a.tdiv d = a / d) ∨ (a < 0 ∧ a.tdiv d = -((-a) / d)) := by
  rcases Int.lt_or_le a 0 with h | h
  · refine Or.inr ⟨h, ?_⟩
    have e : a = -(-a) := by omega
    rw [e, Int.neg_tdiv, Int.tdiv_eq_ediv_of_nonneg (by omega)]
    simp
  · exact Or.inl ⟨h, Int.tdiv_eq_ediv_of_nonneg h⟩
theorem ti_ext {a b : Int32} (h : a.toInt = b.toInt) : a = b := Int32.toInt_inj.mp h
theorem ti_lt {a b : Int32} : a < b ↔ a.toInt < b.toInt := Int32.lt_iff_toInt_lt
theorem ti_le {a b : Int32} : a ≤ b ↔ a.toInt ≤ b.toInt := Int32.le_iff_toInt_le
theorem ti_eq {a b : Int32} : a = b ↔ a.toInt = b.toInt := Int32.toInt_inj.symm
theorem ti_rg (a : Int32) : -2147483648 ≤ a.toInt ∧ a.toInt ≤ 2147483647 := by
  have h1 := a.toInt_lt
  have h2 := a.le_toInt
  omega
/-- within, as both sides say it -/
def inR (v a b : Int32) : Int32 := if v < a then 0 else if b < v then 0 else 1
theorem inR_0 {v a b : Int32} : inR v a b = 0 ↔ ¬ (a ≤ v ∧ v ≤ b) := by
  unfold inR
  simp only [ti_lt, ti_le]
  split
  · simp; omega
  · split
    · simp; omega
    · simp; omega
theorem inR_B (v a b : Int32) : isB (inR v a b) = true := by
  unfold inR
  split
  · rfl
  · split <;> rfl
theorem L_isWithin (v a b : Int32) (u : S2) : f_X11_isWithin v a b u = some (inR v a b, u) := by
  unfold f_X11_isWithin inR
  split
  · rfl
  · split <;> rfl
theorem cmp_lt (x y : Int64) : lg_cmp x y < 0 ↔ x < y := by
  rw [← Int32.not_le, lg_cmp_ge, Int64.not_le]
theorem cmp_gt (x y : Int64) : 0 < lg_cmp x y ↔ y < x := by
  rw [← Int32.not_le, lg_cmp_le, Int64.not_le]
theorem wide_lt (a b : Int32) : a.toInt64 < b.toInt64 ↔ a < b := by
  rw [Int64.lt_iff_toInt_lt, Int32.toInt_toInt64, Int32.toInt_toInt64, Int32.lt_iff_toInt_lt]
theorem L_in (v a b : Int32) (u : S2) : f_X12_in v.toInt64 a.toInt64 b.toInt64 u = some (inR v a b, u) := by
  unfold f_X12_in inR
  simp only [cmp_lt, cmp_gt, wide_lt]
  split
  · rfl
  · split <;> rfl
