/-! the relation between the class's cells and the reference's -/
def rg (x : Int32) (a b : Int) : Prop := a ≤ x.toInt ∧ x.toInt ≤ b
theorem inR_rg {v a b : Int32} (h : ¬ inR v a b = 0) : rg v a.toInt b.toInt := by
  rw [inR_0, Decidable.not_not, ti_le, ti_le] at h
  exact h
theorem inR_no {v a b : Int32} (h : inR v a b = 0) : v.toInt < a.toInt ∨ b.toInt < v.toInt := by
  rw [inR_0, ti_le, ti_le] at h
  omega
theorem inb_of {v : Int32} {n : Nat} (h1 : 0 ≤ v.toInt) (h2 : v.toInt < n) : inb v n = true := by
  unfold inb
  rw [Bool.and_eq_true, decide_eq_true_eq, decide_eq_true_eq]
  refine ⟨ti_le.mpr h1, ?_⟩
  show v.toInt.toNat < n
  omega
theorem inb_rg {v : Int32} {b : Int} {n : Nat} (h : rg v 0 b) (hb : b < n) : inb v n = true := inb_of h.1 (by have := h.2; omega)
theorem p3 {v : Int32} (h : ¬ inR v 0 2 = 0) : v = 0 ∨ v = 1 ∨ v = 2 := by
  have h1 : rg v 0 2 := inR_rg h
  obtain ⟨a, b⟩ := h1
  rcases (show v.toInt = 0 ∨ v.toInt = 1 ∨ v.toInt = 2 by omega) with e | e | e
  · exact Or.inl (ti_ext e)
  · exact Or.inr (Or.inl (ti_ext e))
  · exact Or.inr (Or.inr (ti_ext e))
def R1 (u : S2) : Prop := u 39 0 = u 5 3 ∧ u 39 1 = u 5 5 ∧ u 39 2 = u 5 7 ∧ u 39 3 = u 5 6 ∧ u 40 0 = u 5 4 ∧ u 41 0 = u 5 8 ∧ rg (u 5 3) (-89) 89 ∧ rg (u 5 5) 0 40 ∧ rg (u 5 7) 0 99 ∧ rg (u 5 6) (-35) 35 ∧ rg (u 5 4) 0 35999 ∧ rg (u 5 8) 0 5000
def RP (u : S2) (k i : Nat) : Prop := u 44 i = u k 0 ∧ u 45 i = u k 1 ∧ u 46 i = u k 2 ∧ u 47 i = u k 3 ∧ u 48 i = u k 4 ∧ u 49 i = u k 5 ∧ u 50 i = u k 6 ∧ u 51 i = u k 7 ∧ rg (u k 0) 0 5 ∧ rg (u k 1) 0 99 ∧ rg (u k 2) 0 99 ∧ rg (u k 3) 0 99 ∧ rg (u k 4) (-18000) 17999 ∧ rg (u k 5) (-9999) 9999 ∧ rg (u k 6) 0 40 ∧ rg (u k 7) (-89) 89
def R2 (u : S2) : Prop := RP u 10 0 ∧ RP u 11 1 ∧ RP u 12 2
def R3 (u : S2) : Prop := u 43 = u 2 ∧ u 38 5 = u 1 1 ∧ rg (u 1 1) 0 24 ∧ ∀ j, rg (u 2 j) (-999) 999
def R4 (u : S2) : Prop := u 52 = u 4 ∧ ∀ j, rg (u 4 j) (-2000) 2000
def RN (f : Nat → Int32) : Prop := rg (f 0) 0 999 ∧ rg (f 1) 0 999 ∧ rg (f 2) 0 999 ∧ rg (f 3) 0 35 ∧ rg (f 4) 1 99 ∧ rg (f 5) 0 2
def R5 (u : S2) : Prop := (∀ j, j < 6 → u 54 j = u 18 j) ∧ RN (u 18) ∧ u 38 20 = u 9 1 ∧ rg (u 9 1) 0 35999 ∧ ((u 9 2 = 0 ∧ u 42 0 = -1) ∨ (u 9 2 = 1 ∧ u 42 0 = u 9 3 ∧ rg (u 9 3) 0 35999))
def R6 (u : S2) : Prop := u 53 = u 22 ∧ u 38 16 = u 21 1 ∧ rg (u 21 1) 0 160
def R7 (u : S2) : Prop := u 56 = u 27 ∧ u 38 22 = u 26 1 ∧ rg (u 26 1) 0 16 ∧ ∀ j, rg (u 27 j) 0 35999
/-- the eighth of a heading -/
def e8 (h : Int32) : Nat := (((h.toInt + 2250) / 4500) % 8).toNat
def R8 (u : S2) : Prop := u 38 25 = u 28 3 ∧ rg (u 28 3) 0 24 ∧ (∀ j, rg (u 57 j) 0 35999) ∧ (∀ j, rg (u 58 j) (-18000) 17999) ∧
  ∀ k, k < 8 → ((u 29 k = 0 ∧ ∀ j : Nat, (j : Int) < (u 28 3).toInt → e8 (u 57 j) ≠ k) ∨
    (0 < (u 29 k).toInt ∧ (u 29 k).toInt ≤ (u 28 3).toInt ∧
      (∃ j : Nat, (j : Int) < (u 28 3).toInt ∧ e8 (u 57 j) = k ∧ u 58 j = u 30 k) ∧ (∃ j : Nat, (j : Int) < (u 28 3).toInt ∧ e8 (u 57 j) = k ∧ u 58 j = u 31 k) ∧
      ∀ j : Nat, (j : Int) < (u 28 3).toInt → e8 (u 57 j) = k → (u 30 k).toInt ≤ (u 58 j).toInt ∧ (u 58 j).toInt ≤ (u 31 k).toInt))
def R9 (u : S2) : Prop := u 59 = u 33 ∧ u 60 = u 34 ∧ u 38 28 = u 32 2 ∧ rg (u 32 2) 0 10 ∧ (∀ j, rg (u 33 j) 0 60) ∧ ∀ j, rg (u 34 j) (-18000) 17999
def Rel (u : S2) : Prop := R1 u ∧ R2 u ∧ R3 u ∧ R4 u ∧ R5 u ∧ R6 u ∧ R7 u ∧ R8 u ∧ R9 u
theorem R1_of {u v : S2} (h : R1 u) (e5 : v 5 = u 5) (a : v 39 0 = u 39 0) (b : v 39 1 = u 39 1) (c : v 39 2 = u 39 2) (d : v 39 3 = u 39 3) (e : v 40 0 = u 40 0) (f : v 41 0 = u 41 0) : R1 v := by
  unfold R1
  rw [e5, a, b, c, d, e, f]
  exact h
theorem RP_of {u v : S2} {k i : Nat} (h : RP u k i) (e : v k = u k) (a : v 44 i = u 44 i) (b : v 45 i = u 45 i) (c : v 46 i = u 46 i) (d : v 47 i = u 47 i) (f : v 48 i = u 48 i) (g : v 49 i = u 49 i) (p : v 50 i = u 50 i) (q : v 51 i = u 51 i) : RP v k i := by
  unfold RP
  rw [e, a, b, c, d, f, g, p, q]
  exact h
theorem R2_of {u v : S2} (h : R2 u) (e0 : v 10 = u 10) (e1 : v 11 = u 11) (e2 : v 12 = u 12) (a : v 44 = u 44) (b : v 45 = u 45) (c : v 46 = u 46) (d : v 47 = u 47) (p : v 50 = u 50) (q : v 51 = u 51) (f : ∀ i, i < 3 → v 48 i = u 48 i) (g : ∀ i, i < 3 → v 49 i = u 49 i) : R2 v :=
  ⟨RP_of h.1 e0 (by rw [a]) (by rw [b]) (by rw [c]) (by rw [d]) (f 0 (by decide)) (g 0 (by decide)) (by rw [p]) (by rw [q]), RP_of h.2.1 e1 (by rw [a]) (by rw [b]) (by rw [c]) (by rw [d]) (f 1 (by decide)) (g 1 (by decide)) (by rw [p]) (by rw [q]), RP_of h.2.2 e2 (by rw [a]) (by rw [b]) (by rw [c]) (by rw [d]) (f 2 (by decide)) (g 2 (by decide)) (by rw [p]) (by rw [q])⟩
theorem R3_of {u v : S2} (h : R3 u) (a : v 43 = u 43) (b : v 2 = u 2) (c : v 38 5 = u 38 5) (d : v 1 1 = u 1 1) : R3 v := by
  unfold R3
  rw [a, b, c, d]
  exact h
theorem R4_of {u v : S2} (h : R4 u) (a : v 52 = u 52) (b : v 4 = u 4) : R4 v := by
  unfold R4
  rw [a, b]
  exact h
theorem R5_of {u v : S2} (h : R5 u) (a : v 54 = u 54) (b : v 18 = u 18) (c : v 38 20 = u 38 20) (d : v 9 = u 9) (e : v 42 0 = u 42 0) : R5 v := by
  unfold R5
  rw [a, b, c, d, e]
  exact h
theorem R6_of {u v : S2} (h : R6 u) (a : v 53 = u 53) (b : v 22 = u 22) (c : v 38 16 = u 38 16) (d : v 21 1 = u 21 1) : R6 v := by
  unfold R6
  rw [a, b, c, d]
  exact h
theorem R7_of {u v : S2} (h : R7 u) (a : v 56 = u 56) (b : v 27 = u 27) (c : v 38 22 = u 38 22) (d : v 26 1 = u 26 1) : R7 v := by
  unfold R7
  rw [a, b, c, d]
  exact h
theorem R8_of {u v : S2} (h : R8 u) (a : v 57 = u 57) (b : v 58 = u 58) (c : v 38 25 = u 38 25) (d : v 28 3 = u 28 3) (e : v 29 = u 29) (f : v 30 = u 30) (g : v 31 = u 31) : R8 v := by
  unfold R8
  rw [a, b, c, d, e, f, g]
  exact h
theorem R9_of {u v : S2} (h : R9 u) (a : v 59 = u 59) (b : v 60 = u 60) (c : v 38 28 = u 38 28) (d : v 32 2 = u 32 2) (e : v 33 = u 33) (f : v 34 = u 34) : R9 v := by
  unfold R9
  rw [a, b, c, d, e, f]
  exact h
