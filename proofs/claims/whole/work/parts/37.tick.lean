theorem upd_ww (f : Nat → Int32) (i : Nat) (a b : Int32) : upd (upd f i a) i b = upd f i b := by
  funext j
  unfold upd
  split <;> rfl
theorem upd_self (f : Nat → Int32) (i : Nat) : upd f i (f i) = f := by
  funext j
  unfold upd
  split
  · rename_i h
    rw [h]
  · rfl
theorem up_uu (u : S2) (k : Nat) (f g : Nat → Int32) : va_up (va_up u k f) k g = va_up u k g := by
  funext c
  unfold va_up
  split <;> rfl
theorem up_self (u : S2) (k : Nat) : va_up u k (u k) = u := by
  funext c
  unfold va_up
  split
  · rename_i h
    rw [h]
  · rfl
theorem wr_ww (u : S2) (k i : Nat) (a b : Int32) : wr (wr u k i a) k i b = wr u k i b := by
  show va_up (wr u k i a) k (upd ((wr u k i a) k) i b) = va_up u k (upd (u k) i b)
  rw [wr_s, upd_ww]
  exact up_uu _ _ _ _
theorem wr_self (u : S2) (k i : Nat) : wr u k i (u k i) = u := by
  show va_up u k (upd (u k) i (u k i)) = u
  rw [upd_self, up_self]
/-- a pointer's OFF and RATE written -/
def pst (u : S2) (k : Nat) (o r : Int32) : S2 := va_up u k (upd (upd (u k) 5 r) 4 o)
theorem pst_wr (u : S2) (k : Nat) (o r : Int32) : wr (wr u k 5 r) k 4 o = pst u k o r := by
  show va_up (wr u k 5 r) k (upd ((wr u k 5 r) k) 4 o) = _
  rw [wr_s]
  exact up_uu _ _ _ _
theorem pst_o (u : S2) (k : Nat) (o : Int32) : wr u k 4 o = pst u k o (u k 5) := by
  show va_up u k (upd (u k) 4 o) = va_up u k (upd (upd (u k) 5 (u k 5)) 4 o)
  rw [upd_self]
theorem pst_id (u : S2) (k : Nat) : pst u k (u k 4) (u k 5) = u := by
  rw [← pst_o, wr_self]
def swR (rate pull damp kick hold out turn dm : Int32) : Int32 := hld (if dm = 0 then rate - pull * hold * out / 9000 else ((rate - pull * hold * out / 9000) - (rate - pull * hold * out / 9000) * damp / 100) + turn * kick / 100) 9999
theorem swR_rg (rate pull damp kick hold out turn dm : Int32) : rg (swR rate pull damp kick hold out turn dm) (-9999) 9999 := hld_rg _ _ 9999 ⟨by decide, by decide⟩ (by decide)
theorem off_b {o r : Int32} (ho : rg o (-18000) 17999) (hr : rg r (-9999) 9999) : (o + r).toInt < 2147400000 := by
  have h1 := ho.1
  have h2 := ho.2
  have h3 := hr.1
  have h4 := hr.2
  rw [ti_add (by omega) (by omega)]
  omega

theorem X_sway (k : Nat) (hold out turn dm : Int32) (u : S2) (ho : rg (u k 4) (-18000) 17999) : f_X4_sway k hold out turn dm u = some (pst u k (wrp (u k 4 + swR (u k 5) (u k 1) (u k 2) (u k 3) hold out turn dm)) (swR (u k 5) (u k 1) (u k 2) (u k 3) hold out turn dm)) := by
  have fin : ∀ (r : Int32) (v : S2), v = wr u k 5 r → f_X4_sway_65 k v = some (pst u k (wrp (u k 4 + hld r 9999)) (hld r 9999)) := by
    intro r v hv
    subst hv
    have e5 : (wr u k 5 r) k 5 = r := by rw [wr_s, upd_s]
    unfold f_X4_sway_65
    have hb : (u k 4 + hld r 9999).toInt < 2147400000 := off_b ho (hld_rg r 9999 9999 ⟨by decide, by decide⟩ (by decide))
    have h9 : (0 : Int) ≤ (9999 : Int32).toInt := by decide
    rw [e5, X_bounded _ _ _ h9, bd_some, nm_is, wr_ww]
    have e4 : (wr u k 5 (hld r 9999)) k 4 = u k 4 := by rw [wr_s, upd_n (by decide)]
    have e6 : (wr u k 5 (hld r 9999)) k 5 = hld r 9999 := by rw [wr_s, upd_s]
    rw [e4, e6, X_asOff _ _ hb, bd_some, nm_is, pst_wr]
  unfold f_X4_sway swR
  rw [nm_is, nm_is]
  by_cases d : dm = 0
  · rw [if_pos d, if_pos d]
    exact fin _ _ rfl
  · rw [if_neg d, if_neg d, nm_is, nm_is, nm_is, nm_is]
    have a5 : ∀ z, (wr u k 5 z) k 5 = z := fun z => by rw [wr_s, upd_s]
    have a2 : ∀ z, (wr u k 5 z) k 2 = u k 2 := fun z => by rw [wr_s, upd_n (by decide)]
    have a3 : ∀ z, (wr u k 5 z) k 3 = u k 3 := fun z => by rw [wr_s, upd_n (by decide)]
    simp only [a5, a2, wr_ww, a3]
    exact fin _ _ rfl
def nR (kd pull damp kick off rate pl sp hd turn : Int32) : Int32 := if kd = 2 then swR rate pull damp kick (hol pl) off turn 0 else if kd = 3 ∨ kd = 4 then swR rate pull damp kick (hol pl) (wrp (off - lea sp pl hd)) turn 1 else rate
def nO (kd pull damp kick off rate pl sp hd turn : Int32) : Int32 := if kd = 1 then wrp (off - 25 * pl / 90) else if kd = 2 ∨ kd = 3 ∨ kd = 4 then wrp (off + nR kd pull damp kick off rate pl sp hd turn) else off
theorem nR_rg {kd pull damp kick off rate pl sp hd turn : Int32} (h : rg rate (-9999) 9999) : rg (nR kd pull damp kick off rate pl sp hd turn) (-9999) 9999 := by
  unfold nR
  split
  · exact swR_rg _ _ _ _ _ _ _ _
  · split
    · exact swR_rg _ _ _ _ _ _ _ _
    · exact h
theorem nO_rg {kd pull damp kick off rate pl sp hd turn : Int32} (h : rg off (-18000) 17999) : rg (nO kd pull damp kick off rate pl sp hd turn) (-18000) 17999 := by
  unfold nO
  split
  · exact wrp_rg _
  · split
    · exact wrp_rg _
    · exact h
theorem pl_b {pl : Int32} (hp : rg pl (-89) 89) : rg (25 * pl / 90) (-2225) 2225 := by
  have h1 := hp.1
  have h2 := hp.2
  have e : (25 * pl).toInt = 25 * pl.toInt := ti_mul (by show _ ≤ (25 : Int) * _; omega) (by show (25 : Int) * _ ≤ _; omega)
  unfold rg
  rw [ti_div (by decide), e]
  exact div_b (by omega) (by omega) (by decide)
theorem sub_b {o r : Int32} {A : Int} (ho : rg o (-18000) 17999) (hr : rg r (-A) A) (hA : A ≤ 1000000) : (o - r).toInt < 2147400000 := by
  have h1 := ho.1
  have h2 := ho.2
  have h3 := hr.1
  have h4 := hr.2
  rw [ti_sub (by omega) (by omega)]
  omega
/-- both not below 0: nothing above bit 30 is set -/
theorem xor_nn {a b : Int32} (ha : 0 ≤ a.toInt) (hb : 0 ≤ b.toInt) : 0 ≤ a ^^^ b := by
  rw [ti_le]
  show 0 ≤ (a.toBitVec ^^^ b.toBitVec).toInt
  rw [msb_nn, BitVec.msb_xor, (msb_nn a.toBitVec).mp ha, (msb_nn b.toBitVec).mp hb]
  rfl
theorem rem_rg {a b : Int32} (ha : 0 ≤ a.toInt) (hb : 0 < b.toInt) : 0 ≤ (a - a / b * b).toInt ∧ (a - a / b * b).toInt < b.toInt := by
  rw [rem_c a b hb, Int.tdiv_eq_ediv_of_nonneg ha]
  have e := Int.emod_def a.toInt b.toInt
  have e2 : a.toInt / b.toInt * b.toInt = b.toInt * (a.toInt / b.toInt) := Int.mul_comm _ _
  rw [e2, ← e]
  exact ⟨Int.emod_nonneg _ (by omega), Int.emod_lt_of_pos _ hb⟩
def yw (f : Nat → Int32) (t n : Int32) : Int32 := if n = 0 then 0 else f (Int32.toNatClampNeg (t - t / n * n))
theorem X_yaw (t : Int32) (u : S2) (ht : 0 ≤ t.toInt) (hn : rg (u 1 1) 0 24) : f_X6_yawOf t u = some (yw (u 2) t (u 1 1), u) := by
  unfold f_X6_yawOf yw
  by_cases c : u 1 1 = 0
  · rw [if_pos c, if_neg (by rw [c]; decide)]
  · have h1 := hn.1
    have h2 := hn.2
    have hne : (u 1 1).toInt ≠ 0 := fun e => c (ti_ext e)
    have hpos : 0 < (u 1 1).toInt := by omega
    obtain ⟨r1, r2⟩ := rem_rg ht hpos
    have hin : inb (t - t / u 1 1 * u 1 1) 24 = true := inb_of r1 (by omega)
    have hz : nz (u 1 1) = true := nz_of (by omega)
    rw [if_neg c, if_pos (ti_le.mpr (show (1 : Int) ≤ _ by omega))]
    unfold f_J_floorMod
    rw [ck_y hz, nm_is, if_pos (xor_nn ht h1), bd_some, ck_y hin]
    rfl
theorem X_tickIn_5 (k : Nat) (turn : Int32) (u : S2) (ho : rg (u k 4) (-18000) 17999) (hp : rg (u 5 3) (-89) 89) (hs : rg (u 5 5) 0 40) (hh : rg (u 5 4) 0 35999) : f_X4_tickIn_5 k turn u = some (pst u k (nO (u k 0) (u k 1) (u k 2) (u k 3) (u k 4) (u k 5) (u 5 3) (u 5 5) (u 5 4) turn) (nR (u k 0) (u k 1) (u k 2) (u k 3) (u k 4) (u k 5) (u 5 3) (u 5 5) (u 5 4) turn)) := by
  have dmp : (u k 0 = 3 ∨ u k 0 = 4) → ¬ u k 0 = 1 → ¬ u k 0 = 2 → f_X4_tickIn_5_77 k turn u = some (pst u k (nO (u k 0) (u k 1) (u k 2) (u k 3) (u k 4) (u k 5) (u 5 3) (u 5 5) (u 5 4) turn) (nR (u k 0) (u k 1) (u k 2) (u k 3) (u k 4) (u k 5) (u 5 3) (u 5 5) (u 5 4) turn)) := by
    intro h34 n1 n2
    unfold f_X4_tickIn_5_77 nO nR
    rw [if_neg n1, if_pos (Or.inr h34), if_neg n2, if_pos h34, X_leanOf _ _ _ _ hp hh, bd_some, X_holdOf, bd_some, X_asOff _ _ (sub_b ho (lea_rg hs hp hh) (by decide)), bd_some, X_sway _ _ _ _ _ _ ho, bv_some]
  unfold f_X4_tickIn_5
  by_cases n1 : u k 0 = 1
  · rw [if_pos n1, X_asOff _ _ (sub_b ho (pl_b hp) (by decide)), bd_some, nm_is, pst_o]
    unfold nO nR
    rw [if_pos n1, if_neg (by rw [n1]; decide), if_neg (by rw [n1]; decide)]
  · rw [if_neg n1]
    by_cases n2 : u k 0 = 2
    · rw [if_pos n2, X_holdOf, bd_some, X_sway _ _ _ _ _ _ ho, bv_some]
      unfold nO nR
      rw [if_neg n1, if_pos (Or.inl n2), if_pos n2]
    · rw [if_neg n2]
      by_cases n3 : u k 0 = 3
      · rw [if_pos n3]
        exact dmp (Or.inl n3) n1 n2
      · rw [if_neg n3]
        by_cases n4 : u k 0 = 4
        · rw [if_pos n4]
          exact dmp (Or.inr n4) n1 n2
        · rw [if_neg n4]
          unfold nO nR
          rw [if_neg n1, if_neg (by intro q; rcases q with q | q | q <;> contradiction), if_neg n2, if_neg (by intro q; rcases q with q | q <;> contradiction), pst_id]
def tkX_5 (u : S2) : S2 := wr (pst (pst (pst (wr u 5 4 (rnd (u 5 4 + (u 5 6 * u 5 7 + yw (u 2) (u 5 8) (u 1 1))))) 10 (nO (u 10 0) (u 10 1) (u 10 2) (u 10 3) (u 10 4) (u 10 5) (u 5 3) (u 5 5) (rnd (u 5 4 + (u 5 6 * u 5 7 + yw (u 2) (u 5 8) (u 1 1)))) (u 5 6 * u 5 7 + yw (u 2) (u 5 8) (u 1 1))) (nR (u 10 0) (u 10 1) (u 10 2) (u 10 3) (u 10 4) (u 10 5) (u 5 3) (u 5 5) (rnd (u 5 4 + (u 5 6 * u 5 7 + yw (u 2) (u 5 8) (u 1 1)))) (u 5 6 * u 5 7 + yw (u 2) (u 5 8) (u 1 1)))) 11 (nO (u 11 0) (u 11 1) (u 11 2) (u 11 3) (u 11 4) (u 11 5) (u 5 3) (u 5 5) (rnd (u 5 4 + (u 5 6 * u 5 7 + yw (u 2) (u 5 8) (u 1 1)))) (u 5 6 * u 5 7 + yw (u 2) (u 5 8) (u 1 1))) (nR (u 11 0) (u 11 1) (u 11 2) (u 11 3) (u 11 4) (u 11 5) (u 5 3) (u 5 5) (rnd (u 5 4 + (u 5 6 * u 5 7 + yw (u 2) (u 5 8) (u 1 1)))) (u 5 6 * u 5 7 + yw (u 2) (u 5 8) (u 1 1)))) 12 (nO (u 12 0) (u 12 1) (u 12 2) (u 12 3) (u 12 4) (u 12 5) (u 5 3) (u 5 5) (rnd (u 5 4 + (u 5 6 * u 5 7 + yw (u 2) (u 5 8) (u 1 1)))) (u 5 6 * u 5 7 + yw (u 2) (u 5 8) (u 1 1))) (nR (u 12 0) (u 12 1) (u 12 2) (u 12 3) (u 12 4) (u 12 5) (u 5 3) (u 5 5) (rnd (u 5 4 + (u 5 6 * u 5 7 + yw (u 2) (u 5 8) (u 1 1)))) (u 5 6 * u 5 7 + yw (u 2) (u 5 8) (u 1 1)))) 5 8 (u 5 8 + 1)
theorem X_tick_5 (u : S2) (hp : rg (u 5 3) (-89) 89) (hs : rg (u 5 5) 0 40) (ht : 0 ≤ (u 5 8).toInt) (hn : rg (u 1 1) 0 24) (o0 : rg (u 10 4) (-18000) 17999) (o1 : rg (u 11 4) (-18000) 17999) (o2 : rg (u 12 4) (-18000) 17999) : f_X7_tick_5 u = some (tkX_5 u) := by
  unfold f_X7_tick_5
  rw [X_yaw _ _ ht hn, bd_some, nm_is, X_asHeading, bd_some, nm_is]
  obtain ⟨t, et⟩ : ∃ t, t = (u 5 6 * u 5 7 + yw (u 2) (u 5 8) (u 1 1)) := ⟨_, rfl⟩
  obtain ⟨h, eh⟩ : ∃ h, h = rnd (u 5 4 + t) := ⟨_, rfl⟩
  have hh : rg h 0 35999 := by rw [eh]; exact rnd_rg _
  unfold tkX_5
  rw [← et, ← eh]
  show f_X7_tick_5_37 (996 + 1 + 1 + 1 + 1) t 0 (wr u 5 4 h) = _
  rw [f_X7_tick_5_37_e, if_neg (by decide), ck_y (by decide), nm_is]
  have q0 : f_X4_tickIn_5 (10 + Int32.toNatClampNeg 0) t (wr u 5 4 h) = some (pst (wr u 5 4 h) 10 (nO (u 10 0) (u 10 1) (u 10 2) (u 10 3) (u 10 4) (u 10 5) (u 5 3) (u 5 5) h t) (nR (u 10 0) (u 10 1) (u 10 2) (u 10 3) (u 10 4) (u 10 5) (u 5 3) (u 5 5) h t)) := X_tickIn_5 10 t (wr u 5 4 h) o0 hp hs hh
  rw [q0, bv_some, nm_is]
  show f_X7_tick_5_37 (996 + 1 + 1 + 1) t 1 _ = _
  rw [f_X7_tick_5_37_e, if_neg (by decide), ck_y (by decide), nm_is]
  have q1 : f_X4_tickIn_5 (10 + Int32.toNatClampNeg 1) t (pst (wr u 5 4 h) 10 (nO (u 10 0) (u 10 1) (u 10 2) (u 10 3) (u 10 4) (u 10 5) (u 5 3) (u 5 5) h t) (nR (u 10 0) (u 10 1) (u 10 2) (u 10 3) (u 10 4) (u 10 5) (u 5 3) (u 5 5) h t)) = some (pst (pst (wr u 5 4 h) 10 (nO (u 10 0) (u 10 1) (u 10 2) (u 10 3) (u 10 4) (u 10 5) (u 5 3) (u 5 5) h t) (nR (u 10 0) (u 10 1) (u 10 2) (u 10 3) (u 10 4) (u 10 5) (u 5 3) (u 5 5) h t)) 11 (nO (u 11 0) (u 11 1) (u 11 2) (u 11 3) (u 11 4) (u 11 5) (u 5 3) (u 5 5) h t) (nR (u 11 0) (u 11 1) (u 11 2) (u 11 3) (u 11 4) (u 11 5) (u 5 3) (u 5 5) h t)) := X_tickIn_5 11 t (pst (wr u 5 4 h) 10 (nO (u 10 0) (u 10 1) (u 10 2) (u 10 3) (u 10 4) (u 10 5) (u 5 3) (u 5 5) h t) (nR (u 10 0) (u 10 1) (u 10 2) (u 10 3) (u 10 4) (u 10 5) (u 5 3) (u 5 5) h t)) o1 hp hs hh
  rw [q1, bv_some, nm_is]
  show f_X7_tick_5_37 (996 + 1 + 1) t 2 _ = _
  rw [f_X7_tick_5_37_e, if_neg (by decide), ck_y (by decide), nm_is]
  have q2 : f_X4_tickIn_5 (10 + Int32.toNatClampNeg 2) t (pst (pst (wr u 5 4 h) 10 (nO (u 10 0) (u 10 1) (u 10 2) (u 10 3) (u 10 4) (u 10 5) (u 5 3) (u 5 5) h t) (nR (u 10 0) (u 10 1) (u 10 2) (u 10 3) (u 10 4) (u 10 5) (u 5 3) (u 5 5) h t)) 11 (nO (u 11 0) (u 11 1) (u 11 2) (u 11 3) (u 11 4) (u 11 5) (u 5 3) (u 5 5) h t) (nR (u 11 0) (u 11 1) (u 11 2) (u 11 3) (u 11 4) (u 11 5) (u 5 3) (u 5 5) h t)) = some (pst (pst (pst (wr u 5 4 h) 10 (nO (u 10 0) (u 10 1) (u 10 2) (u 10 3) (u 10 4) (u 10 5) (u 5 3) (u 5 5) h t) (nR (u 10 0) (u 10 1) (u 10 2) (u 10 3) (u 10 4) (u 10 5) (u 5 3) (u 5 5) h t)) 11 (nO (u 11 0) (u 11 1) (u 11 2) (u 11 3) (u 11 4) (u 11 5) (u 5 3) (u 5 5) h t) (nR (u 11 0) (u 11 1) (u 11 2) (u 11 3) (u 11 4) (u 11 5) (u 5 3) (u 5 5) h t)) 12 (nO (u 12 0) (u 12 1) (u 12 2) (u 12 3) (u 12 4) (u 12 5) (u 5 3) (u 5 5) h t) (nR (u 12 0) (u 12 1) (u 12 2) (u 12 3) (u 12 4) (u 12 5) (u 5 3) (u 5 5) h t)) := X_tickIn_5 12 t (pst (pst (wr u 5 4 h) 10 (nO (u 10 0) (u 10 1) (u 10 2) (u 10 3) (u 10 4) (u 10 5) (u 5 3) (u 5 5) h t) (nR (u 10 0) (u 10 1) (u 10 2) (u 10 3) (u 10 4) (u 10 5) (u 5 3) (u 5 5) h t)) 11 (nO (u 11 0) (u 11 1) (u 11 2) (u 11 3) (u 11 4) (u 11 5) (u 5 3) (u 5 5) h t) (nR (u 11 0) (u 11 1) (u 11 2) (u 11 3) (u 11 4) (u 11 5) (u 5 3) (u 5 5) h t)) o2 hp hs hh
  rw [q2, bv_some, nm_is]
  show f_X7_tick_5_37 (996 + 1) t 3 _ = _
  rw [f_X7_tick_5_37_e, if_pos (by decide)]
  rfl
theorem X_tickIn_7 (k : Nat) (turn : Int32) (u : S2) (ho : rg (u k 4) (-18000) 17999) (hp : rg (u 7 3) (-89) 89) (hs : rg (u 7 5) 0 40) (hh : rg (u 7 4) 0 35999) : f_X4_tickIn_7 k turn u = some (pst u k (nO (u k 0) (u k 1) (u k 2) (u k 3) (u k 4) (u k 5) (u 7 3) (u 7 5) (u 7 4) turn) (nR (u k 0) (u k 1) (u k 2) (u k 3) (u k 4) (u k 5) (u 7 3) (u 7 5) (u 7 4) turn)) := by
  have dmp : (u k 0 = 3 ∨ u k 0 = 4) → ¬ u k 0 = 1 → ¬ u k 0 = 2 → f_X4_tickIn_7_77 k turn u = some (pst u k (nO (u k 0) (u k 1) (u k 2) (u k 3) (u k 4) (u k 5) (u 7 3) (u 7 5) (u 7 4) turn) (nR (u k 0) (u k 1) (u k 2) (u k 3) (u k 4) (u k 5) (u 7 3) (u 7 5) (u 7 4) turn)) := by
    intro h34 n1 n2
    unfold f_X4_tickIn_7_77 nO nR
    rw [if_neg n1, if_pos (Or.inr h34), if_neg n2, if_pos h34, X_leanOf _ _ _ _ hp hh, bd_some, X_holdOf, bd_some, X_asOff _ _ (sub_b ho (lea_rg hs hp hh) (by decide)), bd_some, X_sway _ _ _ _ _ _ ho, bv_some]
  unfold f_X4_tickIn_7
  by_cases n1 : u k 0 = 1
  · rw [if_pos n1, X_asOff _ _ (sub_b ho (pl_b hp) (by decide)), bd_some, nm_is, pst_o]
    unfold nO nR
    rw [if_pos n1, if_neg (by rw [n1]; decide), if_neg (by rw [n1]; decide)]
  · rw [if_neg n1]
    by_cases n2 : u k 0 = 2
    · rw [if_pos n2, X_holdOf, bd_some, X_sway _ _ _ _ _ _ ho, bv_some]
      unfold nO nR
      rw [if_neg n1, if_pos (Or.inl n2), if_pos n2]
    · rw [if_neg n2]
      by_cases n3 : u k 0 = 3
      · rw [if_pos n3]
        exact dmp (Or.inl n3) n1 n2
      · rw [if_neg n3]
        by_cases n4 : u k 0 = 4
        · rw [if_pos n4]
          exact dmp (Or.inr n4) n1 n2
        · rw [if_neg n4]
          unfold nO nR
          rw [if_neg n1, if_neg (by intro q; rcases q with q | q | q <;> contradiction), if_neg n2, if_neg (by intro q; rcases q with q | q <;> contradiction), pst_id]
def tkX_7 (u : S2) : S2 := wr (pst (pst (pst (wr u 7 4 (rnd (u 7 4 + (u 7 6 * u 7 7 + yw (u 2) (u 7 8) (u 1 1))))) 13 (nO (u 13 0) (u 13 1) (u 13 2) (u 13 3) (u 13 4) (u 13 5) (u 7 3) (u 7 5) (rnd (u 7 4 + (u 7 6 * u 7 7 + yw (u 2) (u 7 8) (u 1 1)))) (u 7 6 * u 7 7 + yw (u 2) (u 7 8) (u 1 1))) (nR (u 13 0) (u 13 1) (u 13 2) (u 13 3) (u 13 4) (u 13 5) (u 7 3) (u 7 5) (rnd (u 7 4 + (u 7 6 * u 7 7 + yw (u 2) (u 7 8) (u 1 1)))) (u 7 6 * u 7 7 + yw (u 2) (u 7 8) (u 1 1)))) 14 (nO (u 14 0) (u 14 1) (u 14 2) (u 14 3) (u 14 4) (u 14 5) (u 7 3) (u 7 5) (rnd (u 7 4 + (u 7 6 * u 7 7 + yw (u 2) (u 7 8) (u 1 1)))) (u 7 6 * u 7 7 + yw (u 2) (u 7 8) (u 1 1))) (nR (u 14 0) (u 14 1) (u 14 2) (u 14 3) (u 14 4) (u 14 5) (u 7 3) (u 7 5) (rnd (u 7 4 + (u 7 6 * u 7 7 + yw (u 2) (u 7 8) (u 1 1)))) (u 7 6 * u 7 7 + yw (u 2) (u 7 8) (u 1 1)))) 15 (nO (u 15 0) (u 15 1) (u 15 2) (u 15 3) (u 15 4) (u 15 5) (u 7 3) (u 7 5) (rnd (u 7 4 + (u 7 6 * u 7 7 + yw (u 2) (u 7 8) (u 1 1)))) (u 7 6 * u 7 7 + yw (u 2) (u 7 8) (u 1 1))) (nR (u 15 0) (u 15 1) (u 15 2) (u 15 3) (u 15 4) (u 15 5) (u 7 3) (u 7 5) (rnd (u 7 4 + (u 7 6 * u 7 7 + yw (u 2) (u 7 8) (u 1 1)))) (u 7 6 * u 7 7 + yw (u 2) (u 7 8) (u 1 1)))) 7 8 (u 7 8 + 1)
theorem X_tick_7 (u : S2) (hp : rg (u 7 3) (-89) 89) (hs : rg (u 7 5) 0 40) (ht : 0 ≤ (u 7 8).toInt) (hn : rg (u 1 1) 0 24) (o0 : rg (u 13 4) (-18000) 17999) (o1 : rg (u 14 4) (-18000) 17999) (o2 : rg (u 15 4) (-18000) 17999) : f_X7_tick_7 u = some (tkX_7 u) := by
  unfold f_X7_tick_7
  rw [X_yaw _ _ ht hn, bd_some, nm_is, X_asHeading, bd_some, nm_is]
  obtain ⟨t, et⟩ : ∃ t, t = (u 7 6 * u 7 7 + yw (u 2) (u 7 8) (u 1 1)) := ⟨_, rfl⟩
  obtain ⟨h, eh⟩ : ∃ h, h = rnd (u 7 4 + t) := ⟨_, rfl⟩
  have hh : rg h 0 35999 := by rw [eh]; exact rnd_rg _
  unfold tkX_7
  rw [← et, ← eh]
  show f_X7_tick_7_37 (996 + 1 + 1 + 1 + 1) t 0 (wr u 7 4 h) = _
  rw [f_X7_tick_7_37_e, if_neg (by decide), ck_y (by decide), nm_is]
  have q0 : f_X4_tickIn_7 (13 + Int32.toNatClampNeg 0) t (wr u 7 4 h) = some (pst (wr u 7 4 h) 13 (nO (u 13 0) (u 13 1) (u 13 2) (u 13 3) (u 13 4) (u 13 5) (u 7 3) (u 7 5) h t) (nR (u 13 0) (u 13 1) (u 13 2) (u 13 3) (u 13 4) (u 13 5) (u 7 3) (u 7 5) h t)) := X_tickIn_7 13 t (wr u 7 4 h) o0 hp hs hh
  rw [q0, bv_some, nm_is]
  show f_X7_tick_7_37 (996 + 1 + 1 + 1) t 1 _ = _
  rw [f_X7_tick_7_37_e, if_neg (by decide), ck_y (by decide), nm_is]
  have q1 : f_X4_tickIn_7 (13 + Int32.toNatClampNeg 1) t (pst (wr u 7 4 h) 13 (nO (u 13 0) (u 13 1) (u 13 2) (u 13 3) (u 13 4) (u 13 5) (u 7 3) (u 7 5) h t) (nR (u 13 0) (u 13 1) (u 13 2) (u 13 3) (u 13 4) (u 13 5) (u 7 3) (u 7 5) h t)) = some (pst (pst (wr u 7 4 h) 13 (nO (u 13 0) (u 13 1) (u 13 2) (u 13 3) (u 13 4) (u 13 5) (u 7 3) (u 7 5) h t) (nR (u 13 0) (u 13 1) (u 13 2) (u 13 3) (u 13 4) (u 13 5) (u 7 3) (u 7 5) h t)) 14 (nO (u 14 0) (u 14 1) (u 14 2) (u 14 3) (u 14 4) (u 14 5) (u 7 3) (u 7 5) h t) (nR (u 14 0) (u 14 1) (u 14 2) (u 14 3) (u 14 4) (u 14 5) (u 7 3) (u 7 5) h t)) := X_tickIn_7 14 t (pst (wr u 7 4 h) 13 (nO (u 13 0) (u 13 1) (u 13 2) (u 13 3) (u 13 4) (u 13 5) (u 7 3) (u 7 5) h t) (nR (u 13 0) (u 13 1) (u 13 2) (u 13 3) (u 13 4) (u 13 5) (u 7 3) (u 7 5) h t)) o1 hp hs hh
  rw [q1, bv_some, nm_is]
  show f_X7_tick_7_37 (996 + 1 + 1) t 2 _ = _
  rw [f_X7_tick_7_37_e, if_neg (by decide), ck_y (by decide), nm_is]
  have q2 : f_X4_tickIn_7 (13 + Int32.toNatClampNeg 2) t (pst (pst (wr u 7 4 h) 13 (nO (u 13 0) (u 13 1) (u 13 2) (u 13 3) (u 13 4) (u 13 5) (u 7 3) (u 7 5) h t) (nR (u 13 0) (u 13 1) (u 13 2) (u 13 3) (u 13 4) (u 13 5) (u 7 3) (u 7 5) h t)) 14 (nO (u 14 0) (u 14 1) (u 14 2) (u 14 3) (u 14 4) (u 14 5) (u 7 3) (u 7 5) h t) (nR (u 14 0) (u 14 1) (u 14 2) (u 14 3) (u 14 4) (u 14 5) (u 7 3) (u 7 5) h t)) = some (pst (pst (pst (wr u 7 4 h) 13 (nO (u 13 0) (u 13 1) (u 13 2) (u 13 3) (u 13 4) (u 13 5) (u 7 3) (u 7 5) h t) (nR (u 13 0) (u 13 1) (u 13 2) (u 13 3) (u 13 4) (u 13 5) (u 7 3) (u 7 5) h t)) 14 (nO (u 14 0) (u 14 1) (u 14 2) (u 14 3) (u 14 4) (u 14 5) (u 7 3) (u 7 5) h t) (nR (u 14 0) (u 14 1) (u 14 2) (u 14 3) (u 14 4) (u 14 5) (u 7 3) (u 7 5) h t)) 15 (nO (u 15 0) (u 15 1) (u 15 2) (u 15 3) (u 15 4) (u 15 5) (u 7 3) (u 7 5) h t) (nR (u 15 0) (u 15 1) (u 15 2) (u 15 3) (u 15 4) (u 15 5) (u 7 3) (u 7 5) h t)) := X_tickIn_7 15 t (pst (pst (wr u 7 4 h) 13 (nO (u 13 0) (u 13 1) (u 13 2) (u 13 3) (u 13 4) (u 13 5) (u 7 3) (u 7 5) h t) (nR (u 13 0) (u 13 1) (u 13 2) (u 13 3) (u 13 4) (u 13 5) (u 7 3) (u 7 5) h t)) 14 (nO (u 14 0) (u 14 1) (u 14 2) (u 14 3) (u 14 4) (u 14 5) (u 7 3) (u 7 5) h t) (nR (u 14 0) (u 14 1) (u 14 2) (u 14 3) (u 14 4) (u 14 5) (u 7 3) (u 7 5) h t)) o2 hp hs hh
  rw [q2, bv_some, nm_is]
  show f_X7_tick_7_37 (996 + 1) t 3 _ = _
  rw [f_X7_tick_7_37_e, if_pos (by decide)]
  rfl
def mst (u : S2) (a : Nat) (o r : Int32) : S2 := wr (wr u 49 a r) 48 a o
theorem mst_id (u : S2) (a : Nat) : mst u a (u 48 a) (u 49 a) = u := by
  unfold mst
  rw [wr_self, wr_self]
theorem mst_o (u : S2) (a : Nat) (o : Int32) : wr u 48 a o = mst u a o (u 49 a) := by
  unfold mst
  rw [wr_self]

theorem nm_j {α β : Type} (e : α) (k : α → Option β) : nm e k = k e := Eq.trans rfl rfl
theorem bd_j {α : Type} (a : Int32) (b : S2) (k : Int32 → S2 → Option α) : bd (some (a, b)) k = k a b := Eq.trans rfl rfl
theorem M_tickstep (n : Nat) (b turn pl p p1 kd pull damp kick off rate sp hd : Int32) (bi pi ai si : Nat) (u : S2) (h3 : ¬ 3 ≤ p) (g1 : inb b 2 = true) (e1 : Int32.toNatClampNeg b = bi) (g2 : inb (3 * b + p) 6 = true) (e2 : Int32.toNatClampNeg (3 * b + p) = ai) (g3 : inb p 3 = true) (e3 : Int32.toNatClampNeg p = pi) (g4 : inb (4 * b + 1) 8 = true) (e4 : Int32.toNatClampNeg (4 * b + 1) = si) (ep : p + 1 = p1) (hp : rg pl (-89) 89) (hk : rg kd 0 5) (v0 : u 44 pi = kd) (v1 : u 45 pi = pull) (v2 : u 46 pi = damp) (v3 : u 47 pi = kick) (v4 : u 48 ai = off) (v5 : u 49 ai = rate) (v6 : u 39 si = sp) (v7 : u 40 bi = hd) : f_X12_tick_79 (n + 1) b turn pl p u = f_X12_tick_79 n b turn pl p1 (mst u ai (nO kd pull damp kick off rate pl sp hd turn) (nR kd pull damp kick off rate pl sp hd turn)) := by
  have fin : ∀ (r : Int32), f_X12_tick_253 (fun v1 v2 v3 v4 u => f_X12_tick_79 n v1 v2 v3 v4 u) b turn pl p (3 * b + p) r u = f_X12_tick_79 n b turn pl p1 (mst u ai (wrp (off + hld r 9999)) (hld r 9999)) := by
    intro r
    unfold f_X12_tick_253 f_X12_tick_295
    have a1 : (wr u 49 ai (hld r 9999)) 48 ai = off := v4
    have a2 : (wr u 49 ai (hld r 9999)) 49 ai = hld r 9999 := by rw [wr_s, upd_s]
    rw [M_held, bd_some, ck_y g2, nm_is, e2, ck_y g2, nm_is, ck_y g2, nm_is, a1, a2, M_wrapped, bd_some, ck_y g2, nm_is, nm_is, ep]
    unfold mst
    rfl
  rw [f_X12_tick_79_e, if_neg h3, nm_is, ck_y g3, nm_is, e3, v0]
  by_cases n1 : kd = 1
  · rw [if_pos n1, ck_y g2, nm_is, e2, v4, M_wrapped, bd_some, ck_y g2, nm_is]
    unfold f_X12_tick_295
    rw [nm_is, ep, mst_o, v5]
    unfold nO nR
    rw [if_pos n1, if_neg (by rw [n1]; decide), if_neg (by rw [n1]; decide)]
  · rw [if_neg n1]
    have stay : (kd = 0 ∨ kd = 5) → f_X12_tick_295 (fun v1 v2 v3 v4 u => f_X12_tick_79 n v1 v2 v3 v4 u) b turn pl p u = f_X12_tick_79 n b turn pl p1 (mst u ai (nO kd pull damp kick off rate pl sp hd turn) (nR kd pull damp kick off rate pl sp hd turn)) := by
      intro h
      have eo : nO kd pull damp kick off rate pl sp hd turn = off := by
        unfold nO
        rcases h with h | h
        · rw [if_neg n1, if_neg (by rw [h]; decide)]
        · rw [if_neg n1, if_neg (by rw [h]; decide)]
      have er : nR kd pull damp kick off rate pl sp hd turn = rate := by
        unfold nR
        rcases h with h | h
        · rw [if_neg (by rw [h]; decide), if_neg (by rw [h]; decide)]
        · rw [if_neg (by rw [h]; decide), if_neg (by rw [h]; decide)]
      unfold f_X12_tick_295
      rw [eo, er, ← v4, ← v5, mst_id, nm_is, ep]
    have k1 := hk.1
    have k2 := hk.2
    have ne1 : kd.toInt ≠ 1 := fun e => n1 (ti_ext e)
    by_cases c1 : kd ≤ 1
    · have c1' : kd.toInt ≤ 1 := ti_le.mp c1
      rw [if_pos c1]
      exact stay (Or.inl (ti_ext (by show _ = (0 : Int); omega)))
    · have c1' : ¬ kd.toInt ≤ 1 := fun z => c1 (ti_le.mpr z)
      rw [if_neg c1]
      by_cases c5 : 5 ≤ kd
      · have c5' : (5 : Int) ≤ kd.toInt := ti_le.mp c5
        rw [if_pos c5]
        exact stay (Or.inr (ti_ext (by show _ = (5 : Int); omega)))
      · have c5' : ¬ (5 : Int) ≤ kd.toInt := fun z => c5 (ti_le.mpr z)
        rw [if_neg c5]
        by_cases n2 : kd = 2
        · rw [if_pos n2, ck_y g2, nm_is, e2, v4]
          unfold f_X12_tick_195
          rw [ck_y g2, nm_is, e2, v5, ck_y g3, nm_is, e3, v1]
          unfold f_X12_pulled
          rw [M_holdOf, bd_some, bd_some, if_pos n2, fin]
          unfold nO nR swR
          rw [if_neg n1, if_pos (Or.inl n2), if_pos n2, if_pos rfl]
        · have ne2 : kd.toInt ≠ 2 := fun e => n2 (ti_ext e)
          have h34 : kd = 3 ∨ kd = 4 := by
            rcases (show kd.toInt = 3 ∨ kd.toInt = 4 by omega) with e | e
            · exact Or.inl (ti_ext e)
            · exact Or.inr (ti_ext e)
          rw [if_neg n2, ck_y g2, nm_is, e2, v4, ck_y g4, nm_is, e4, v6, ck_y g1, nm_is, e1, v7, M_leanOf _ _ _ _ hp, bd_some, M_wrapped, bd_some]
          unfold f_X12_tick_195
          rw [ck_y g2, nm_is, e2, v5, ck_y g3, nm_is, e3, v1]
          unfold f_X12_pulled
          rw [M_holdOf, bd_some, bd_some, if_neg n2, ck_y g3, nm_is, v2]
          unfold f_X12_damped
          rw [bd_some, ck_y g3, nm_is, v3]
          unfold f_X12_kicked
          rw [bd_some, fin]
          unfold nO nR swR
          rw [if_neg n1, if_pos (Or.inr h34), if_neg n2, if_pos h34, if_neg (by decide)]
theorem FUEL4 : FUEL = 996 + 1 + 1 + 1 + 1 := by decide
theorem M_tick48 (b t0 t1 : Int32) (bi s0 : Nat) (u : S2) (g1 : inb b 2 = true) (e1 : Int32.toNatClampNeg b = bi) (g0 : inb (4 * b) 8 = true) (e0 : Int32.toNatClampNeg (4 * b) = s0) : f_X12_tick_48 b t0 t1 u = f_X12_tick_79 FUEL b (t0 + t1) (u 39 s0) 0 (wr u 40 bi (rnd (u 40 bi + (t0 + t1)))) := by
  unfold f_X12_tick_48
  rw [nm_is, ck_y g1, nm_is, e1, M_round, bd_some, ck_y g1, nm_is, ck_y g0, nm_is, e0, wr_c (by decide)]
theorem M_tick301 (b : Int32) (bi : Nat) (u : S2) (g1 : inb b 2 = true) (e1 : Int32.toNatClampNeg b = bi) : f_X12_tick_301 b u = some (wr u 41 bi (u 41 bi + 1)) := by
  unfold f_X12_tick_301
  rw [ck_y g1, nm_is, e1, nm_is, ck_y g1, nm_is]
def tkM_0 (u : S2) : S2 := wr (mst (mst (mst (wr u 40 0 (rnd (u 40 0 + (u 39 3 * u 39 2 + yw (u 43) (u 41 0) (u 38 5))))) 0 (nO (u 44 0) (u 45 0) (u 46 0) (u 47 0) (u 48 0) (u 49 0) (u 39 0) (u 39 1) (rnd (u 40 0 + (u 39 3 * u 39 2 + yw (u 43) (u 41 0) (u 38 5)))) (u 39 3 * u 39 2 + yw (u 43) (u 41 0) (u 38 5))) (nR (u 44 0) (u 45 0) (u 46 0) (u 47 0) (u 48 0) (u 49 0) (u 39 0) (u 39 1) (rnd (u 40 0 + (u 39 3 * u 39 2 + yw (u 43) (u 41 0) (u 38 5)))) (u 39 3 * u 39 2 + yw (u 43) (u 41 0) (u 38 5)))) 1 (nO (u 44 1) (u 45 1) (u 46 1) (u 47 1) (u 48 1) (u 49 1) (u 39 0) (u 39 1) (rnd (u 40 0 + (u 39 3 * u 39 2 + yw (u 43) (u 41 0) (u 38 5)))) (u 39 3 * u 39 2 + yw (u 43) (u 41 0) (u 38 5))) (nR (u 44 1) (u 45 1) (u 46 1) (u 47 1) (u 48 1) (u 49 1) (u 39 0) (u 39 1) (rnd (u 40 0 + (u 39 3 * u 39 2 + yw (u 43) (u 41 0) (u 38 5)))) (u 39 3 * u 39 2 + yw (u 43) (u 41 0) (u 38 5)))) 2 (nO (u 44 2) (u 45 2) (u 46 2) (u 47 2) (u 48 2) (u 49 2) (u 39 0) (u 39 1) (rnd (u 40 0 + (u 39 3 * u 39 2 + yw (u 43) (u 41 0) (u 38 5)))) (u 39 3 * u 39 2 + yw (u 43) (u 41 0) (u 38 5))) (nR (u 44 2) (u 45 2) (u 46 2) (u 47 2) (u 48 2) (u 49 2) (u 39 0) (u 39 1) (rnd (u 40 0 + (u 39 3 * u 39 2 + yw (u 43) (u 41 0) (u 38 5)))) (u 39 3 * u 39 2 + yw (u 43) (u 41 0) (u 38 5)))) 41 0 (u 41 0 + 1)
theorem M_tick_0 (u : S2) (hp : rg (u 39 0) (-89) 89) (ht : 0 ≤ (u 41 0).toInt) (hn : rg (u 38 5) 0 24) (k0 : rg (u 44 0) 0 5) (k1 : rg (u 44 1) 0 5) (k2 : rg (u 44 2) 0 5) : f_X12_tick 0 u = some (tkM_0 u) := by
  have i3 : inb (4 * 0 + 3) 8 = true := by decide
  have i2 : inb (4 * 0 + 2) 8 = true := by decide
  have i0 : inb (4 * 0) 8 = true := by decide
  have ib : inb 0 2 = true := by decide
  have n3 : Int32.toNatClampNeg (4 * 0 + 3) = 3 := by decide
  have n2 : Int32.toNatClampNeg (4 * 0 + 2) = 2 := by decide
  have n0 : Int32.toNatClampNeg (4 * 0) = 0 := by decide
  have nb : Int32.toNatClampNeg 0 = 0 := by decide
  have rest : ∀ y : Int32, y = yw (u 43) (u 41 0) (u 38 5) → f_X12_tick_48 0 (u 39 3 * u 39 2) y u = some (tkM_0 u) := by
    intro y ey
    rw [M_tick48 0 _ _ 0 0 u ib nb i0 n0, ey]
    obtain ⟨t, et⟩ : ∃ t, t = (u 39 3 * u 39 2 + yw (u 43) (u 41 0) (u 38 5)) := ⟨_, rfl⟩
    obtain ⟨h, eh⟩ : ∃ h, h = rnd (u 40 0 + t) := ⟨_, rfl⟩
    unfold tkM_0
    rw [← et, ← eh, FUEL4]
    have q0 := M_tickstep (996 + 1 + 1 + 1) 0 t (u 39 0) 0 1 (u 44 0) (u 45 0) (u 46 0) (u 47 0) (u 48 0) (u 49 0) (u 39 1) h 0 0 0 1 (wr u 40 0 h) (by decide) (by decide) (by decide) (by decide) (by decide) (by decide) (by decide) (by decide) (by decide) (by decide) hp k0 rfl rfl rfl rfl rfl rfl rfl rfl
    have q1 := M_tickstep (996 + 1 + 1) 0 t (u 39 0) 1 2 (u 44 1) (u 45 1) (u 46 1) (u 47 1) (u 48 1) (u 49 1) (u 39 1) h 0 1 1 1 (mst (wr u 40 0 h) 0 (nO (u 44 0) (u 45 0) (u 46 0) (u 47 0) (u 48 0) (u 49 0) (u 39 0) (u 39 1) h t) (nR (u 44 0) (u 45 0) (u 46 0) (u 47 0) (u 48 0) (u 49 0) (u 39 0) (u 39 1) h t)) (by decide) (by decide) (by decide) (by decide) (by decide) (by decide) (by decide) (by decide) (by decide) (by decide) hp k1 rfl rfl rfl rfl rfl rfl rfl rfl
    have q2 := M_tickstep (996 + 1) 0 t (u 39 0) 2 3 (u 44 2) (u 45 2) (u 46 2) (u 47 2) (u 48 2) (u 49 2) (u 39 1) h 0 2 2 1 (mst (mst (wr u 40 0 h) 0 (nO (u 44 0) (u 45 0) (u 46 0) (u 47 0) (u 48 0) (u 49 0) (u 39 0) (u 39 1) h t) (nR (u 44 0) (u 45 0) (u 46 0) (u 47 0) (u 48 0) (u 49 0) (u 39 0) (u 39 1) h t)) 1 (nO (u 44 1) (u 45 1) (u 46 1) (u 47 1) (u 48 1) (u 49 1) (u 39 0) (u 39 1) h t) (nR (u 44 1) (u 45 1) (u 46 1) (u 47 1) (u 48 1) (u 49 1) (u 39 0) (u 39 1) h t)) (by decide) (by decide) (by decide) (by decide) (by decide) (by decide) (by decide) (by decide) (by decide) (by decide) hp k2 rfl rfl rfl rfl rfl rfl rfl rfl
    rw [q0, q1, q2, f_X12_tick_79_e, if_pos (by decide), M_tick301 0 0 _ ib nb]
    have e41 : (mst (mst (mst (wr u 40 0 h) 0 (nO (u 44 0) (u 45 0) (u 46 0) (u 47 0) (u 48 0) (u 49 0) (u 39 0) (u 39 1) h t) (nR (u 44 0) (u 45 0) (u 46 0) (u 47 0) (u 48 0) (u 49 0) (u 39 0) (u 39 1) h t)) 1 (nO (u 44 1) (u 45 1) (u 46 1) (u 47 1) (u 48 1) (u 49 1) (u 39 0) (u 39 1) h t) (nR (u 44 1) (u 45 1) (u 46 1) (u 47 1) (u 48 1) (u 49 1) (u 39 0) (u 39 1) h t)) 2 (nO (u 44 2) (u 45 2) (u 46 2) (u 47 2) (u 48 2) (u 49 2) (u 39 0) (u 39 1) h t) (nR (u 44 2) (u 45 2) (u 46 2) (u 47 2) (u 48 2) (u 49 2) (u 39 0) (u 39 1) h t)) 41 0 = u 41 0 := rfl
    rw [e41]
  unfold f_X12_tick
  rw [ck_y i3, nm_is, n3, ck_y i2, nm_is, n2]
  by_cases c : u 38 5 = 0
  · rw [if_pos c]
    exact rest 0 (by unfold yw; rw [if_pos c])
  · have h1 := hn.1
    have h2 := hn.2
    have hne : (u 38 5).toInt ≠ 0 := fun e => c (ti_ext e)
    have hpos : 0 < (u 38 5).toInt := by omega
    obtain ⟨r1, r2⟩ := rem_rg ht hpos
    have hin : inb (u 41 0 - u 41 0 / u 38 5 * u 38 5) 24 = true := inb_of r1 (by omega)
    have hz : nz (u 38 5) = true := nz_of (by omega)
    rw [if_neg c, ck_y ib, nm_is, nb, ck_y hz, nm_is, ck_y hin, nm_is]
    exact rest _ (by unfold yw; rw [if_neg c])
def tkM_1 (u : S2) : S2 := wr (mst (mst (mst (wr u 40 1 (rnd (u 40 1 + (u 39 7 * u 39 6 + yw (u 43) (u 41 1) (u 38 5))))) 3 (nO (u 44 0) (u 45 0) (u 46 0) (u 47 0) (u 48 3) (u 49 3) (u 39 4) (u 39 5) (rnd (u 40 1 + (u 39 7 * u 39 6 + yw (u 43) (u 41 1) (u 38 5)))) (u 39 7 * u 39 6 + yw (u 43) (u 41 1) (u 38 5))) (nR (u 44 0) (u 45 0) (u 46 0) (u 47 0) (u 48 3) (u 49 3) (u 39 4) (u 39 5) (rnd (u 40 1 + (u 39 7 * u 39 6 + yw (u 43) (u 41 1) (u 38 5)))) (u 39 7 * u 39 6 + yw (u 43) (u 41 1) (u 38 5)))) 4 (nO (u 44 1) (u 45 1) (u 46 1) (u 47 1) (u 48 4) (u 49 4) (u 39 4) (u 39 5) (rnd (u 40 1 + (u 39 7 * u 39 6 + yw (u 43) (u 41 1) (u 38 5)))) (u 39 7 * u 39 6 + yw (u 43) (u 41 1) (u 38 5))) (nR (u 44 1) (u 45 1) (u 46 1) (u 47 1) (u 48 4) (u 49 4) (u 39 4) (u 39 5) (rnd (u 40 1 + (u 39 7 * u 39 6 + yw (u 43) (u 41 1) (u 38 5)))) (u 39 7 * u 39 6 + yw (u 43) (u 41 1) (u 38 5)))) 5 (nO (u 44 2) (u 45 2) (u 46 2) (u 47 2) (u 48 5) (u 49 5) (u 39 4) (u 39 5) (rnd (u 40 1 + (u 39 7 * u 39 6 + yw (u 43) (u 41 1) (u 38 5)))) (u 39 7 * u 39 6 + yw (u 43) (u 41 1) (u 38 5))) (nR (u 44 2) (u 45 2) (u 46 2) (u 47 2) (u 48 5) (u 49 5) (u 39 4) (u 39 5) (rnd (u 40 1 + (u 39 7 * u 39 6 + yw (u 43) (u 41 1) (u 38 5)))) (u 39 7 * u 39 6 + yw (u 43) (u 41 1) (u 38 5)))) 41 1 (u 41 1 + 1)
theorem M_tick_1 (u : S2) (hp : rg (u 39 4) (-89) 89) (ht : 0 ≤ (u 41 1).toInt) (hn : rg (u 38 5) 0 24) (k0 : rg (u 44 0) 0 5) (k1 : rg (u 44 1) 0 5) (k2 : rg (u 44 2) 0 5) : f_X12_tick 1 u = some (tkM_1 u) := by
  have i3 : inb (4 * 1 + 3) 8 = true := by decide
  have i2 : inb (4 * 1 + 2) 8 = true := by decide
  have i0 : inb (4 * 1) 8 = true := by decide
  have ib : inb 1 2 = true := by decide
  have n3 : Int32.toNatClampNeg (4 * 1 + 3) = 7 := by decide
  have n2 : Int32.toNatClampNeg (4 * 1 + 2) = 6 := by decide
  have n0 : Int32.toNatClampNeg (4 * 1) = 4 := by decide
  have nb : Int32.toNatClampNeg 1 = 1 := by decide
  have rest : ∀ y : Int32, y = yw (u 43) (u 41 1) (u 38 5) → f_X12_tick_48 1 (u 39 7 * u 39 6) y u = some (tkM_1 u) := by
    intro y ey
    rw [M_tick48 1 _ _ 1 4 u ib nb i0 n0, ey]
    obtain ⟨t, et⟩ : ∃ t, t = (u 39 7 * u 39 6 + yw (u 43) (u 41 1) (u 38 5)) := ⟨_, rfl⟩
    obtain ⟨h, eh⟩ : ∃ h, h = rnd (u 40 1 + t) := ⟨_, rfl⟩
    unfold tkM_1
    rw [← et, ← eh, FUEL4]
    have q0 := M_tickstep (996 + 1 + 1 + 1) 1 t (u 39 4) 0 1 (u 44 0) (u 45 0) (u 46 0) (u 47 0) (u 48 3) (u 49 3) (u 39 5) h 1 0 3 5 (wr u 40 1 h) (by decide) (by decide) (by decide) (by decide) (by decide) (by decide) (by decide) (by decide) (by decide) (by decide) hp k0 rfl rfl rfl rfl rfl rfl rfl rfl
    have q1 := M_tickstep (996 + 1 + 1) 1 t (u 39 4) 1 2 (u 44 1) (u 45 1) (u 46 1) (u 47 1) (u 48 4) (u 49 4) (u 39 5) h 1 1 4 5 (mst (wr u 40 1 h) 3 (nO (u 44 0) (u 45 0) (u 46 0) (u 47 0) (u 48 3) (u 49 3) (u 39 4) (u 39 5) h t) (nR (u 44 0) (u 45 0) (u 46 0) (u 47 0) (u 48 3) (u 49 3) (u 39 4) (u 39 5) h t)) (by decide) (by decide) (by decide) (by decide) (by decide) (by decide) (by decide) (by decide) (by decide) (by decide) hp k1 rfl rfl rfl rfl rfl rfl rfl rfl
    have q2 := M_tickstep (996 + 1) 1 t (u 39 4) 2 3 (u 44 2) (u 45 2) (u 46 2) (u 47 2) (u 48 5) (u 49 5) (u 39 5) h 1 2 5 5 (mst (mst (wr u 40 1 h) 3 (nO (u 44 0) (u 45 0) (u 46 0) (u 47 0) (u 48 3) (u 49 3) (u 39 4) (u 39 5) h t) (nR (u 44 0) (u 45 0) (u 46 0) (u 47 0) (u 48 3) (u 49 3) (u 39 4) (u 39 5) h t)) 4 (nO (u 44 1) (u 45 1) (u 46 1) (u 47 1) (u 48 4) (u 49 4) (u 39 4) (u 39 5) h t) (nR (u 44 1) (u 45 1) (u 46 1) (u 47 1) (u 48 4) (u 49 4) (u 39 4) (u 39 5) h t)) (by decide) (by decide) (by decide) (by decide) (by decide) (by decide) (by decide) (by decide) (by decide) (by decide) hp k2 rfl rfl rfl rfl rfl rfl rfl rfl
    rw [q0, q1, q2, f_X12_tick_79_e, if_pos (by decide), M_tick301 1 1 _ ib nb]
    have e41 : (mst (mst (mst (wr u 40 1 h) 3 (nO (u 44 0) (u 45 0) (u 46 0) (u 47 0) (u 48 3) (u 49 3) (u 39 4) (u 39 5) h t) (nR (u 44 0) (u 45 0) (u 46 0) (u 47 0) (u 48 3) (u 49 3) (u 39 4) (u 39 5) h t)) 4 (nO (u 44 1) (u 45 1) (u 46 1) (u 47 1) (u 48 4) (u 49 4) (u 39 4) (u 39 5) h t) (nR (u 44 1) (u 45 1) (u 46 1) (u 47 1) (u 48 4) (u 49 4) (u 39 4) (u 39 5) h t)) 5 (nO (u 44 2) (u 45 2) (u 46 2) (u 47 2) (u 48 5) (u 49 5) (u 39 4) (u 39 5) h t) (nR (u 44 2) (u 45 2) (u 46 2) (u 47 2) (u 48 5) (u 49 5) (u 39 4) (u 39 5) h t)) 41 1 = u 41 1 := rfl
    rw [e41]
  unfold f_X12_tick
  rw [ck_y i3, nm_is, n3, ck_y i2, nm_is, n2]
  by_cases c : u 38 5 = 0
  · rw [if_pos c]
    exact rest 0 (by unfold yw; rw [if_pos c])
  · have h1 := hn.1
    have h2 := hn.2
    have hne : (u 38 5).toInt ≠ 0 := fun e => c (ti_ext e)
    have hpos : 0 < (u 38 5).toInt := by omega
    obtain ⟨r1, r2⟩ := rem_rg ht hpos
    have hin : inb (u 41 1 - u 41 1 / u 38 5 * u 38 5) 24 = true := inb_of r1 (by omega)
    have hz : nz (u 38 5) = true := nz_of (by omega)
    rw [if_neg c, ck_y ib, nm_is, nb, ck_y hz, nm_is, ck_y hin, nm_is]
    exact rest _ (by unfold yw; rw [if_neg c])
