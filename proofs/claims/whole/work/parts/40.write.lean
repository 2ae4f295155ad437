/-! write; turned and bestPull -/
theorem write_rel (v1 : Int64) (v3 : Int32) : ∀ (d N : Nat) (v4 : Int32) (x m : S2), m 53 = x 22 → m 38 16 = x 21 1 + v4 → 0 ≤ v4.toInt → v4.toInt + d = v3.toInt → 0 ≤ (x 21 1).toInt → (x 21 1).toInt + v3.toInt ≤ 160 → d < N → ∃ x' m', f_X5_append_18 N v1 v3 v4 x = some (x' 21 1, x') ∧ f_X12_write_33 N v1 v3 v4 m = some (m' 38 16, m') ∧ m' 53 = x' 22 ∧ m' 38 16 = x' 21 1 ∧ x' 21 1 = x 21 1 + v3 ∧ (∀ c, c ≠ 21 → c ≠ 22 → x' c = x c) ∧ (∀ c, c ≠ 53 → c ≠ 38 → m' c = m c) ∧ (∀ j, j ≠ 16 → m' 38 j = m 38 j) := by
  intro d
  induction d with
  | zero =>
    intro N v4 x m h53 h38 h0 hv hl hc hN
    obtain ⟨n, rfl⟩ : ∃ n, N = n + 1 := ⟨N - 1, by omega⟩
    have c : v3 ≤ v4 := ti_le.mpr (by omega)
    have e : v4 = v3 := ti_ext (by omega)
    refine ⟨wr x 21 1 (x 21 1 + v3), m, ?_, ?_, h53, ?_, ?_, ?_, fun _ _ _ => rfl, fun _ _ => rfl⟩
    · rw [f_X5_append_18_e, if_pos c]
      rfl
    · rw [f_X12_write_33_e, if_pos c]
      rfl
    · rw [h38, e, wr_s, upd_s]
    · rw [wr_s, upd_s]
    · intro cc p q
      rw [wr_c p]
  | succ d ih =>
    intro N v4 x m h53 h38 h0 hv hl hc hN
    obtain ⟨n, rfl⟩ : ∃ n, N = n + 1 := ⟨N - 1, by omega⟩
    have c : ¬ v3 ≤ v4 := fun z => by have := ti_le.mp z; omega
    have e4 : (v4 + 1).toInt = v4.toInt + 1 := ti_add (by show _ ≤ v4.toInt + (1 : Int); omega) (by show v4.toInt + (1 : Int) ≤ _; omega)
    have ea : (x 21 1 + v4).toInt = (x 21 1).toInt + v4.toInt := ti_add (by omega) (by omega)
    have hin : inb (x 21 1 + v4) 160 = true := inb_of (by omega) (by omega)
    obtain ⟨y, ey⟩ : ∃ y, y = Int64.toInt32 (((v1 >>> (Int32.toInt64 (8 * v4) &&& 63)) &&& (255 : Int64))) := ⟨_, rfl⟩
    obtain ⟨k, ek⟩ : ∃ k, k = Int32.toNatClampNeg (x 21 1 + v4) := ⟨_, rfl⟩
    have e1 : (wr x 22 k y) 21 1 = x 21 1 := rfl
    have e2 : m 38 16 + 1 = x 21 1 + (v4 + 1) := by rw [h38, Int32.add_assoc]
    obtain ⟨x', m', k1, k2, k3, k4, k5, k6, k7, k8⟩ := ih n (v4 + 1) (wr x 22 k y) (wr (wr m 53 k y) 38 16 (m 38 16 + 1)) (by show upd (m 53) k y = upd (x 22) k y; rw [h53]) (by rw [wr_s, upd_s, e1, e2]) (by omega) (by omega) (by rw [e1]; exact hl) (by rw [e1]; exact hc) (by omega)
    refine ⟨x', m', ?_, ?_, k3, k4, ?_, ?_, ?_, ?_⟩
    · rw [f_X5_append_18_e, if_neg c, nm_is, ck_y hin, nm_is, nm_is, ← ey, ← ek]
      exact k1
    · have e3 : (wr m 53 k y) 38 16 = m 38 16 := rfl
      rw [f_X12_write_33_e, if_neg c, nm_is, h38, ck_y hin, nm_is, nm_is, nm_is, nm_is, ← ey, ← ek, e3]
      exact k2
    · rw [k5, e1]
    · intro cc p q
      rw [k6 cc p q, wr_c q]
    · intro cc p q
      rw [k7 cc p q, wr_c q, wr_c p]
    · intro j p
      rw [k8 j p, wr_s, upd_n p]
      rfl
theorem s_write : St_W f_X11_write f_X12_write Rel := by
  intro a b u h
  have hh := h
  obtain ⟨h1, h2, h3, h4, h5, h6, h7, h8, h9⟩ := h
  by_cases c : inR b 1 8 = 0
  · exact ⟨-3, u, u, by unfold f_X11_write; rw [L_isWithin, bd_some, if_pos c], by unfold f_X12_write; rw [L_in_1_8, bd_some, if_pos c], hh⟩
  have rb : rg b 1 8 := inR_rg c
  obtain ⟨q1, q2, q3⟩ := h6
  have b1 := rb.1
  have b2 := rb.2
  have l1 := q3.1
  have l2 := q3.2
  have es : (u 21 1 + b).toInt = (u 21 1).toInt + b.toInt := ti_add (by omega) (by omega)
  by_cases f : u 21 1 + b ≤ 160
  · have f2 : (u 21 1 + b).toInt ≤ 160 := ti_le.mp f
    obtain ⟨d, hd⟩ : ∃ d : Nat, (d : Int) = b.toInt := ⟨b.toInt.toNat, by omega⟩
    have z0 : (0 : Int32).toInt = 0 := by decide
    have ez : u 21 1 + 0 = u 21 1 := Int32.add_zero _
    obtain ⟨x', m0, k1, -, -, -, k5, k6, -, -⟩ := write_rel a b d FUEL 0 u u q1 (by rw [ez]; exact q2) (by rw [z0]; decide) (by rw [z0]; omega) (by omega) (by omega) (by show d < 1000; omega)
    obtain ⟨x2, m', j1, j2, j3, j4, j5, j6, j7, j8⟩ := write_rel a b d FUEL 0 u x' (by rw [k6 53 (by decide) (by decide)]; exact q1) (by rw [ez, k6 38 (by decide) (by decide)]; exact q2) (by rw [z0]; decide) (by rw [z0]; omega) (by omega) (by omega) (by show d < 1000; omega)
    have ex : x2 = x' := pr2 (j1.symm.trans k1)
    subst ex
    have ft : ∀ cc, cc ≠ 21 → cc ≠ 22 → cc ≠ 53 → cc ≠ 38 → m' cc = u cc := fun cc p q r s => (j7 cc r s).trans (k6 cc p q)
    have f38 : ∀ j, j ≠ 16 → m' 38 j = u 38 j := fun j p => (j8 j p).trans (by rw [k6 38 (by decide) (by decide)])
    have m21 : m' 21 = x2 21 := j7 21 (by decide) (by decide)
    have m22 : m' 22 = x2 22 := j7 22 (by decide) (by decide)
    refine ⟨x2 21 1, x2, m', ?_, ?_, R1_of h1 (ft 5 (by decide) (by decide) (by decide) (by decide)) ?_ ?_ ?_ ?_ ?_ ?_, R2_of h2 (ft 10 (by decide) (by decide) (by decide) (by decide)) (ft 11 (by decide) (by decide) (by decide) (by decide)) (ft 12 (by decide) (by decide) (by decide) (by decide)) (ft 44 (by decide) (by decide) (by decide) (by decide)) (ft 45 (by decide) (by decide) (by decide) (by decide)) (ft 46 (by decide) (by decide) (by decide) (by decide)) (ft 47 (by decide) (by decide) (by decide) (by decide)) (ft 50 (by decide) (by decide) (by decide) (by decide)) (ft 51 (by decide) (by decide) (by decide) (by decide)) (fun i _ => by rw [ft 48 (by decide) (by decide) (by decide) (by decide)]) (fun i _ => by rw [ft 49 (by decide) (by decide) (by decide) (by decide)]), R3_of h3 (ft 43 (by decide) (by decide) (by decide) (by decide)) (ft 2 (by decide) (by decide) (by decide) (by decide)) (f38 5 (by decide)) (by rw [ft 1 (by decide) (by decide) (by decide) (by decide)]), R4_of h4 (ft 52 (by decide) (by decide) (by decide) (by decide)) (ft 4 (by decide) (by decide) (by decide) (by decide)), R5_of h5 (ft 54 (by decide) (by decide) (by decide) (by decide)) (ft 18 (by decide) (by decide) (by decide) (by decide)) (f38 20 (by decide)) (ft 9 (by decide) (by decide) (by decide) (by decide)) (by rw [ft 42 (by decide) (by decide) (by decide) (by decide)]), ⟨?_, ?_, ?_⟩, R7_of h7 (ft 56 (by decide) (by decide) (by decide) (by decide)) (ft 27 (by decide) (by decide) (by decide) (by decide)) (f38 22 (by decide)) (by rw [ft 26 (by decide) (by decide) (by decide) (by decide)]), R8_of h8 (ft 57 (by decide) (by decide) (by decide) (by decide)) (ft 58 (by decide) (by decide) (by decide) (by decide)) (f38 25 (by decide)) (by rw [ft 28 (by decide) (by decide) (by decide) (by decide)]) (ft 29 (by decide) (by decide) (by decide) (by decide)) (ft 30 (by decide) (by decide) (by decide) (by decide)) (ft 31 (by decide) (by decide) (by decide) (by decide)), R9_of h9 (ft 59 (by decide) (by decide) (by decide) (by decide)) (ft 60 (by decide) (by decide) (by decide) (by decide)) (f38 28 (by decide)) (by rw [ft 32 (by decide) (by decide) (by decide) (by decide)]) (ft 33 (by decide) (by decide) (by decide) (by decide)) (ft 34 (by decide) (by decide) (by decide) (by decide))⟩
    · unfold f_X11_write f_X5_append
      rw [L_isWithin, bd_some, if_neg c, if_pos f, k1, bd_some]
    · unfold f_X12_write
      rw [L_in_1_8, bd_some, if_neg c, k6 38 (by decide) (by decide), q2, if_pos f, j2, j4]
    · rw [ft 39 (by decide) (by decide) (by decide) (by decide)]
    · rw [ft 39 (by decide) (by decide) (by decide) (by decide)]
    · rw [ft 39 (by decide) (by decide) (by decide) (by decide)]
    · rw [ft 39 (by decide) (by decide) (by decide) (by decide)]
    · rw [ft 40 (by decide) (by decide) (by decide) (by decide)]
    · rw [ft 41 (by decide) (by decide) (by decide) (by decide)]
    · rw [m22]
      exact j3
    · rw [m21]
      exact j4
    · rw [m21, j5]
      unfold rg
      omega
  · refine ⟨-5, u, u, ?_, ?_, hh⟩
    · unfold f_X11_write f_X5_append
      rw [L_isWithin, bd_some, if_neg c, if_neg f, bd_some]
    · unfold f_X12_write
      rw [L_in_1_8, bd_some, if_neg c, q2, if_neg f]
