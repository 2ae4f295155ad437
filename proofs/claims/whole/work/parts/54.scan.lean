/-! a steerer's text: blanks, tokens, words, numbers -/
theorem nJ_ix {i : Nat} (h : i < 2147483648) : Int32.toNatClampNeg (nI i) = i := by
  have e : (nI i).toInt = i := nI_toInt h
  show (nI i).toInt.toNat = i
  omega
theorem nJ_in {i n : Nat} (h : i < n) (hn : n < 2147483648) : inb (nI i) n = true := by
  have e : (nI i).toInt = i := nI_toInt (by omega)
  exact inb_of (by omega) (by omega)
theorem nJ_inj {a b : Nat} (ha : a < 2147483648) (hb : b < 2147483648) : nI a = nI b ↔ a = b := by
  have e1 : (nI a).toInt = a := nI_toInt ha
  have e2 : (nI b).toInt = b := nI_toInt hb
  constructor
  · intro h
    have := congrArg Int32.toInt h
    omega
  · intro h
    rw [h]
theorem nJ_sub {a b : Nat} (h : a ≤ b) (hb : b < 2147483648) : nI b - nI a = nI (b - a) := by
  have e1 : (nI a).toInt = a := nI_toInt (by omega)
  have e2 : (nI b).toInt = b := nI_toInt hb
  have e3 : (nI (b - a)).toInt = ((b - a : Nat) : Int) := nI_toInt (by omega)
  refine ti_ext ?_
  rw [ti_sub (by omega) (by omega), e1, e2, e3]
  omega
theorem nJ_plus {a b : Nat} (h : a + b < 2147483648) : nI a + nI b = nI (a + b) := by
  have e1 : (nI a).toInt = a := nI_toInt (by omega)
  have e2 : (nI b).toInt = b := nI_toInt (by omega)
  have e3 : (nI (a + b)).toInt = ((a + b : Nat) : Int) := nI_toInt h
  refine ti_ext ?_
  rw [ti_add (by omega) (by omega), e1, e2, e3]
  omega
theorem nJ_le {a b : Nat} (ha : a < 2147483648) (hb : b < 2147483648) : nI a ≤ nI b ↔ a ≤ b := by
  have e1 : (nI a).toInt = a := nI_toInt ha
  have e2 : (nI b).toInt = b := nI_toInt hb
  rw [ti_le, e1, e2]
  omega
theorem nJ_lt {a b : Nat} (ha : a < 2147483648) (hb : b < 2147483648) : nI a < nI b ↔ a < b := by
  have e1 : (nI a).toInt = a := nI_toInt ha
  have e2 : (nI b).toInt = b := nI_toInt hb
  rw [ti_lt, e1, e2]
  omega
def skB (f : Nat → Int32) : Nat → Nat → Nat
  | 0, i => i
  | d + 1, i => if f i = 32 then skB f d (i + 1) else i
theorem skB_b (f : Nat → Int32) : ∀ d i, i ≤ skB f d i ∧ skB f d i ≤ i + d := by
  intro d
  induction d with
  | zero => intro i; exact ⟨Nat.le_refl i, Nat.le_refl i⟩
  | succ d ih =>
    intro i
    have := ih (i + 1)
    show i ≤ (if f i = 32 then skB f d (i + 1) else i) ∧ (if f i = 32 then skB f d (i + 1) else i) ≤ i + (d + 1)
    split <;> omega
def bl (f : Nat → Int32) (L i : Nat) : Nat := skB f (L - i) i
theorem bl_b (f : Nat → Int32) {L i : Nat} (h : i ≤ L) : i ≤ bl f L i ∧ bl f L i ≤ L := by
  have := skB_b f (L - i) i
  unfold bl
  omega
theorem X_bl_l (f : Nat → Int32) (L : Nat) (hL : L ≤ 160) (u : S2) (h22 : u 22 = f) (h21 : u 21 1 = nI L) : ∀ (d N i : Nat), i + d = L → d < N → f_X5_behindBlanks_2 N (nI i) u = some (nI (skB f d i), u) := by
  intro d
  induction d with
  | zero =>
    intro N i hd hN
    obtain ⟨n2, rfl⟩ : ∃ n2, N = n2 + 1 := ⟨N - 1, by omega⟩
    rw [f_X5_behindBlanks_2_e, h21, if_pos ((nJ_le (by omega) (by omega)).mpr (by omega))]
    rfl
  | succ d ih =>
    intro N i hd hN
    obtain ⟨n2, rfl⟩ : ∃ n2, N = n2 + 1 := ⟨N - 1, by omega⟩
    have e : skB f (d + 1) i = if f i = 32 then skB f d (i + 1) else i := rfl
    rw [f_X5_behindBlanks_2_e, h21, if_neg (fun z => by have := (nJ_le (by omega) (by omega)).mp z; omega), ck_y (nJ_in (n := 160) (by omega) (by decide)), nm_is, nJ_ix (by omega), h22, e]
    by_cases q : f i = 32
    · rw [if_pos q, if_pos q, nm_is, nI_1]
      exact ih n2 (i + 1) (by omega) (by omega)
    · rw [if_neg q, if_neg q]
theorem X_bl (f : Nat → Int32) (L i : Nat) (hL : L ≤ 160) (hi : i ≤ L) (u : S2) (h22 : u 22 = f) (h21 : u 21 1 = nI L) : f_X5_behindBlanks (nI i) u = some (nI (bl f L i), u) := X_bl_l f L hL u h22 h21 (L - i) FUEL i (by omega) (by show _ < 1000; omega)
theorem M_bl_l (f : Nat → Int32) (L : Nat) (hL : L ≤ 160) : ∀ (d N i : Nat) (m : S2), m 53 = f → m 38 16 = nI L → m 38 29 = nI i → i + d = L → d < N → f_X12_token_0 N m = f_X12_token_38 (wr m 38 29 (nI (skB f d i))) := by
  intro d
  induction d with
  | zero =>
    intro N i m h53 h16 h29 hd hN
    obtain ⟨n2, rfl⟩ : ∃ n2, N = n2 + 1 := ⟨N - 1, by omega⟩
    have e : wr m 38 29 (nI (skB f 0 i)) = m := by
      show wr m 38 29 (nI i) = m
      rw [← h29]
      exact wr_self m 38 29
    rw [f_X12_token_0_e, h16, h29, if_pos ((nJ_le (by omega) (by omega)).mpr (by omega)), e]
  | succ d ih =>
    intro N i m h53 h16 h29 hd hN
    obtain ⟨n2, rfl⟩ : ∃ n2, N = n2 + 1 := ⟨N - 1, by omega⟩
    have e : skB f (d + 1) i = if f i = 32 then skB f d (i + 1) else i := rfl
    rw [f_X12_token_0_e, h16, h29, if_neg (fun z => by have := (nJ_le (by omega) (by omega)).mp z; omega), ck_y (nJ_in (n := 160) (by omega) (by decide)), nm_is, nJ_ix (by omega), h53, e]
    by_cases q : f i = 32
    · rw [if_pos q, if_pos q, nm_is, nm_is, nI_1, ih n2 (i + 1) (wr m 38 29 (nI (i + 1))) h53 h16 rfl (by omega) (by omega), wr_ww]
    · have e2 : wr m 38 29 (nI i) = m := by
        rw [← h29]
        exact wr_self m 38 29
      rw [if_neg q, if_neg q, e2]
def srt (b : Int32) : Int32 := if b < 97 then (if b < 48 then 0 else if 57 < b then 0 else 2) else if 122 < b then (if b < 48 then 0 else if 57 < b then 0 else 2) else 1
theorem M_sort (b : Int32) (u : S2) : f_X12_sort b u = some (srt b, u) := by
  unfold f_X12_sort f_X12_sort_16 srt
  by_cases a : b < 97
  · rw [if_pos a, if_pos a]
    by_cases c : b < 48
    · rw [if_pos c, if_pos c]
    · rw [if_neg c, if_neg c]
      by_cases d : 57 < b
      · rw [if_pos d, if_pos d]
      · rw [if_neg d, if_neg d]
  · rw [if_neg a, if_neg a]
    by_cases c : 122 < b
    · rw [if_pos c, if_pos c]
      by_cases c : b < 48
      · rw [if_pos c, if_pos c]
      · rw [if_neg c, if_neg c]
        by_cases d : 57 < b
        · rw [if_pos d, if_pos d]
        · rw [if_neg d, if_neg d]
    · rw [if_neg c, if_neg c]
theorem srt_c (b : Int32) : (97 ≤ b.toInt ∧ b.toInt ≤ 122 ∧ srt b = 1) ∨ (48 ≤ b.toInt ∧ b.toInt ≤ 57 ∧ srt b = 2) ∨ ((b.toInt < 97 ∨ 122 < b.toInt) ∧ (b.toInt < 48 ∨ 57 < b.toInt) ∧ srt b = 0) := by
  have l97 : (b < 97) = (b.toInt < 97) := propext ti_lt
  have l48 : (b < 48) = (b.toInt < 48) := propext ti_lt
  have l57 : (57 < b) = (57 < b.toInt) := propext ti_lt
  have l122 : (122 < b) = (122 < b.toInt) := propext ti_lt
  unfold srt
  by_cases a : b.toInt < 97
  · rw [if_pos (l97 ▸ a)]
    by_cases c : b.toInt < 48
    · rw [if_pos (l48 ▸ c)]
      exact Or.inr (Or.inr ⟨Or.inl a, Or.inl c, rfl⟩)
    · rw [if_neg (l48 ▸ c)]
      by_cases d : 57 < b.toInt
      · rw [if_pos (l57 ▸ d)]
        exact Or.inr (Or.inr ⟨Or.inl a, Or.inr d, rfl⟩)
      · rw [if_neg (l57 ▸ d)]
        exact Or.inr (Or.inl ⟨by omega, by omega, rfl⟩)
  · rw [if_neg (l97 ▸ a)]
    by_cases c : 122 < b.toInt
    · rw [if_pos (l122 ▸ c), if_neg (l48 ▸ (show ¬ b.toInt < 48 by omega)), if_pos (l57 ▸ (show 57 < b.toInt by omega))]
      exact Or.inr (Or.inr ⟨Or.inr c, Or.inr (by omega), rfl⟩)
    · rw [if_neg (l122 ▸ c)]
      exact Or.inl ⟨by omega, by omega, rfl⟩
theorem X_letter (b : Int32) (u : S2) : f_X5_isLetter b u = some (if srt b = 1 then 1 else 0, u) := by
  unfold f_X5_isLetter
  rcases srt_c b with ⟨h1, h2, h3⟩ | ⟨h1, h2, h3⟩ | ⟨h1, h2, h3⟩
  · rw [h3, if_neg (fun z => by have : b.toInt < 97 := ti_lt.mp z; omega), if_neg (fun z => by have : 122 < b.toInt := ti_lt.mp z; omega), if_pos rfl]
  · rw [h3, if_pos (ti_lt.mpr (by show b.toInt < 97; omega)), if_neg (by decide)]
  · rw [h3, if_neg (c := (0 : Int32) = 1) (by decide)]
    rcases h1 with h | h
    · rw [if_pos (ti_lt.mpr (by show b.toInt < 97; omega))]
    · rw [if_neg (fun z => by have : b.toInt < 97 := ti_lt.mp z; omega), if_pos (ti_lt.mpr (by show 122 < b.toInt; omega))]
theorem X_digit (b : Int32) (u : S2) : f_X5_isDigit b u = some (if srt b = 2 then 1 else 0, u) := by
  unfold f_X5_isDigit
  rcases srt_c b with ⟨h1, h2, h3⟩ | ⟨h1, h2, h3⟩ | ⟨h1, h2, h3⟩
  · rw [h3, if_neg (fun z => by have : b.toInt < 48 := ti_lt.mp z; omega), if_pos (ti_lt.mpr (by show 57 < b.toInt; omega)), if_neg (by decide)]
  · rw [h3, if_neg (fun z => by have : b.toInt < 48 := ti_lt.mp z; omega), if_neg (fun z => by have : 57 < b.toInt := ti_lt.mp z; omega), if_pos rfl]
  · rw [h3, if_neg (c := (0 : Int32) = 2) (by decide)]
    rcases h2 with h | h
    · rw [if_pos (ti_lt.mpr (by show b.toInt < 48; omega))]
    · rw [if_neg (fun z => by have : b.toInt < 48 := ti_lt.mp z; omega), if_pos (ti_lt.mpr (by show 57 < b.toInt; omega))]
theorem srt_3 (b : Int32) : srt b = 0 ∨ srt b = 1 ∨ srt b = 2 := by
  rcases srt_c b with ⟨-, -, h⟩ | ⟨-, -, h⟩ | ⟨-, -, h⟩
  · exact Or.inr (Or.inl h)
  · exact Or.inr (Or.inr h)
  · exact Or.inl h
def skT (f : Nat → Int32) (k : Int32) : Nat → Nat → Nat
  | 0, i => i
  | d + 1, i => if ¬ k = 0 ∧ srt (f i) = k then skT f k d (i + 1) else i
theorem skT_b (f : Nat → Int32) (k : Int32) : ∀ d i, i ≤ skT f k d i ∧ skT f k d i ≤ i + d := by
  intro d
  induction d with
  | zero => intro i; exact ⟨Nat.le_refl i, Nat.le_refl i⟩
  | succ d ih =>
    intro i
    have := ih (i + 1)
    show i ≤ (if ¬ k = 0 ∧ srt (f i) = k then skT f k d (i + 1) else i) ∧ (if ¬ k = 0 ∧ srt (f i) = k then skT f k d (i + 1) else i) ≤ i + (d + 1)
    split <;> omega
def tke (f : Nat → Int32) (L s : Nat) : Nat := if s < L then skT f (srt (f s)) (L - (s + 1)) (s + 1) else L
theorem tke_b (f : Nat → Int32) {L s : Nat} (h : s ≤ L) : s ≤ tke f L s ∧ tke f L s ≤ L ∧ (s < L → s < tke f L s) := by
  have := skT_b f (srt (f s)) (L - (s + 1)) (s + 1)
  unfold tke
  split <;> omega
theorem tke_0 (f : Nat → Int32) {L s : Nat} (h : s < L) (hz : srt (f s) = 0) : tke f L s = s + 1 := by
  unfold tke
  rw [if_pos h, hz]
  cases L - (s + 1) with
  | zero => rfl
  | succ d =>
    show (if ¬ (0 : Int32) = 0 ∧ srt (f (s + 1)) = 0 then skT f 0 d (s + 1 + 1) else s + 1) = s + 1
    rw [if_neg (fun z => z.1 rfl)]
theorem X_tk_l (f : Nat → Int32) (L : Nat) (hL : L ≤ 160) (k : Int32) (hk : k = 0 ∨ k = 1 ∨ k = 2) (u : S2) (h22 : u 22 = f) (h21 : u 21 1 = nI L) : ∀ (d N i : Nat), i + d = L → d < N → f_X5_tokenEnd_38 N (if k = 1 then 1 else 0) (if k = 2 then 1 else 0) (nI i) u = some (nI (skT f k d i), u) := by
  intro d
  induction d with
  | zero =>
    intro N i hd hN
    obtain ⟨n2, rfl⟩ : ∃ n2, N = n2 + 1 := ⟨N - 1, by omega⟩
    rw [f_X5_tokenEnd_38_e, h21, if_pos ((nJ_le (by omega) (by omega)).mpr (by omega))]
    rfl
  | succ d ih =>
    intro N i hd hN
    obtain ⟨n2, rfl⟩ : ∃ n2, N = n2 + 1 := ⟨N - 1, by omega⟩
    have e : skT f k (d + 1) i = if ¬ k = 0 ∧ srt (f i) = k then skT f k d (i + 1) else i := rfl
    have i1 : inb (nI i) 160 = true := nJ_in (by omega) (by decide)
    have x1 : Int32.toNatClampNeg (nI i) = i := nJ_ix (by omega)
    have go := ih n2 (i + 1) (by omega) (by omega)
    rw [f_X5_tokenEnd_38_e, h21, if_neg (fun z => by have := (nJ_le (by omega) (by omega)).mp z; omega), e]
    unfold f_X5_tokenEnd_64 f_X5_tokenEnd_81
    rcases hk with rfl | rfl | rfl
    · rw [if_pos (c := (if (0 : Int32) = 1 then (1 : Int32) else 0) = 0) (by decide), if_pos (c := (if (0 : Int32) = 2 then (1 : Int32) else 0) = 0) (by decide), if_neg (fun z => z.1 rfl)]
    · rw [if_neg (c := (if (1 : Int32) = 1 then (1 : Int32) else 0) = 0) (by decide), ck_y i1, nm_is, x1, h22, X_letter, bd_some]
      by_cases q : srt (f i) = 1
      · rw [if_pos q, if_pos (c := ¬ (1 : Int32) = 0 ∧ srt (f i) = 1) ⟨by decide, q⟩, if_neg (c := (1 : Int32) = 0) (by decide), nm_is, nI_1]
        exact go
      · rw [if_neg q, if_neg (c := ¬ (1 : Int32) = 0 ∧ srt (f i) = 1) (fun z => q z.2), if_pos (c := (0 : Int32) = 0) rfl, if_pos (c := (if (1 : Int32) = 2 then (1 : Int32) else 0) = 0) (by decide)]
    · rw [if_pos (c := (if (2 : Int32) = 1 then (1 : Int32) else 0) = 0) (by decide), if_neg (c := (if (2 : Int32) = 2 then (1 : Int32) else 0) = 0) (by decide), ck_y i1, nm_is, x1, h22, X_digit, bd_some]
      by_cases q : srt (f i) = 2
      · rw [if_pos q, if_pos (c := ¬ (2 : Int32) = 0 ∧ srt (f i) = 2) ⟨by decide, q⟩, if_neg (c := (1 : Int32) = 0) (by decide), nm_is, nI_1]
        exact go
      · rw [if_neg q, if_neg (c := ¬ (2 : Int32) = 0 ∧ srt (f i) = 2) (fun z => q z.2), if_pos (c := (0 : Int32) = 0) rfl]
theorem X_tke (f : Nat → Int32) (L s : Nat) (hL : L ≤ 160) (hs : s ≤ L) (u : S2) (h22 : u 22 = f) (h21 : u 21 1 = nI L) : f_X5_tokenEnd (nI s) u = some (nI (tke f L s), u) := by
  unfold f_X5_tokenEnd tke
  by_cases q : s < L
  · have i1 : inb (nI s) 160 = true := nJ_in (by omega) (by decide)
    rw [h21, if_pos ((nJ_lt (by omega) (by omega)).mpr q), if_pos q, ck_y i1, nm_is, nJ_ix (by omega), h22, X_letter, bd_some, ck_y i1, nm_is, h22, X_digit, bd_some, nm_is, nI_1]
    exact X_tk_l f L hL (srt (f s)) (srt_3 _) u h22 h21 (L - (s + 1)) FUEL (s + 1) (by omega) (by show _ < 1000; omega)
  · rw [h21, if_neg (fun z => q ((nJ_lt (by omega) (by omega)).mp z)), if_neg q]
theorem M_tk_l (f : Nat → Int32) (L s : Nat) (hL : L ≤ 160) (hs : s < L) : ∀ (d N i : Nat) (m : S2), m 53 = f → m 38 16 = nI L → m 38 30 = nI s → m 38 29 = nI i → i + d = L → d < N → f_X12_token_71 N m = some (wr (wr m 38 29 (nI (skT f (srt (f s)) d i))) 38 31 (nI (skT f (srt (f s)) d i))) := by
  intro d
  have done : ∀ (i : Nat) (m : S2), m 38 29 = nI i → f_X12_token_137 m = some (wr (wr m 38 29 (nI i)) 38 31 (nI i)) := by
    intro i m h29
    have e : wr m 38 29 (nI i) = m := by
      rw [← h29]
      exact wr_self m 38 29
    unfold f_X12_token_137
    rw [nm_is, nm_is, e, h29]
  induction d with
  | zero =>
    intro N i m h53 h16 h30 h29 hd hN
    obtain ⟨n2, rfl⟩ : ∃ n2, N = n2 + 1 := ⟨N - 1, by omega⟩
    rw [f_X12_token_71_e, h16, h29, if_pos ((nJ_le (by omega) (by omega)).mpr (by omega))]
    exact done i m h29
  | succ d ih =>
    intro N i m h53 h16 h30 h29 hd hN
    obtain ⟨n2, rfl⟩ : ∃ n2, N = n2 + 1 := ⟨N - 1, by omega⟩
    have e : skT f (srt (f s)) (d + 1) i = if ¬ srt (f s) = 0 ∧ srt (f i) = srt (f s) then skT f (srt (f s)) d (i + 1) else i := rfl
    have is : inb (nI s) 160 = true := nJ_in (by omega) (by decide)
    have ii : inb (nI i) 160 = true := nJ_in (by omega) (by decide)
    rw [f_X12_token_71_e, h16, h29, if_neg (fun z => by have := (nJ_le (by omega) (by omega)).mp z; omega), h30, ck_y is, nm_is, nJ_ix (by omega), h53, M_sort, bd_some, e]
    by_cases z : srt (f s) = 0
    · rw [z, if_pos (by decide), if_neg (fun q => q.1 rfl)]
      exact done i m h29
    · have hp : ¬ srt (f s) ≤ 0 := by
        rcases srt_3 (f s) with h | h | h
        · exact absurd h z
        · rw [h]; decide
        · rw [h]; decide
      rw [if_neg hp, h29, ck_y ii, nm_is, nJ_ix (by omega), h53, M_sort, bd_some, h30, ck_y is, nm_is, nJ_ix (by omega), h53, M_sort, bd_some]
      by_cases q : srt (f i) = srt (f s)
      · rw [if_pos q, if_pos ⟨z, q⟩, h29, nm_is, nm_is, nI_1, ih n2 (i + 1) (wr m 38 29 (nI (i + 1))) h53 h16 h30 rfl (by omega) (by omega), wr_ww]
      · rw [if_neg q, if_neg (fun y => q y.2)]
        exact done i m h29
/-- what a token may change -/
def FP (m n : S2) : Prop := (∀ c, c ≠ 38 → n c = m c) ∧ ∀ i, i ≠ 29 → i ≠ 30 → i ≠ 31 → n 38 i = m 38 i
theorem M_token (f : Nat → Int32) (L i : Nat) (hL : L ≤ 160) (hi : i ≤ L) (m : S2) (h53 : m 53 = f) (h16 : m 38 16 = nI L) (h29 : m 38 29 = nI i) : ∃ n, f_X12_token m = some n ∧ n 38 29 = nI (tke f L (bl f L i)) ∧ n 38 30 = nI (bl f L i) ∧ n 38 31 = nI (tke f L (bl f L i)) ∧ FP m n := by
  have e1 : f_X12_token m = f_X12_token_38 (wr m 38 29 (nI (bl f L i))) := M_bl_l f L hL (L - i) FUEL i m h53 h16 h29 (by omega) (by show _ < 1000; omega)
  have bb := bl_b f hi
  obtain ⟨s, es⟩ : ∃ s, s = bl f L i := ⟨_, rfl⟩
  rw [← es] at e1 bb ⊢
  obtain ⟨a, ea⟩ : ∃ a, a = wr (wr m 38 29 (nI s)) 38 30 (nI s) := ⟨_, rfl⟩
  have a29 : a 38 29 = nI s := by rw [ea]; rfl
  have a16 : a 38 16 = nI L := by rw [ea]; exact h16
  have fp : ∀ (x y z : Int32), FP m (wr (wr (wr (wr m 38 29 x) 38 30 y) 38 29 z) 38 31 z) := by
    intro x y z
    refine ⟨fun c hc => ?_, fun j q1 q2 q3 => ?_⟩
    · rw [wr_c hc, wr_c hc, wr_c hc, wr_c hc]
    · rw [wr_ne (fun _ => q3), wr_ne (fun _ => q1), wr_ne (fun _ => q2), wr_ne (fun _ => q1)]
  have e2 : f_X12_token_38 (wr m 38 29 (nI s)) = (if nI L ≤ nI s then f_X12_token_67 (nI s) 0 a else f_X12_token_67 (nI s) 1 a) := by
    unfold f_X12_token_38
    have q : (wr m 38 29 (nI s)) 38 29 = nI s := rfl
    rw [q, nm_is, nm_is, ← ea, a16, a29]
  by_cases q : s < L
  · have e3 : f_X12_token_67 (nI s) 1 a = f_X12_token_71 FUEL (wr a 38 29 (nI (s + 1))) := by
      unfold f_X12_token_67
      rw [nm_is, nm_is, nI_1]
    have l := M_tk_l f L s hL q (L - (s + 1)) FUEL (s + 1) (wr a 38 29 (nI (s + 1))) (by rw [ea]; exact h53) (by rw [ea]; exact h16) (by rw [ea]; rfl) rfl (by omega) (by show _ < 1000; omega)
    have et : tke f L s = skT f (srt (f s)) (L - (s + 1)) (s + 1) := by
      unfold tke
      rw [if_pos q]
    rw [← et, wr_ww] at l
    refine ⟨wr (wr a 38 29 (nI (tke f L s))) 38 31 (nI (tke f L s)), ?_, rfl, by rw [ea]; rfl, rfl, by rw [ea]; exact fp _ _ _⟩
    rw [e1, e2, if_neg (fun z => by have := (nJ_le (by omega) (by omega)).mp z; omega), e3, l]
  · have esL : s = L := by omega
    have et : tke f L s = s := by
      unfold tke
      rw [if_neg q, esL]
    refine ⟨wr (wr a 38 29 (nI s)) 38 31 (nI s), ?_, by rw [et]; rfl, by rw [ea]; rfl, by rw [et]; rfl, by rw [ea]; exact fp _ _ _⟩
    rw [e1, e2, if_pos ((nJ_le (by omega) (by omega)).mpr (by omega))]
    unfold f_X12_token_67
    have ez : nI s + 0 = nI s := Int32.add_zero _
    rw [nm_is, nm_is, ez]
    obtain ⟨N, eN⟩ : ∃ N, FUEL = N + 1 := ⟨999, rfl⟩
    have b16 : (wr a 38 29 (nI s)) 38 16 = nI L := a16
    have b29 : (wr a 38 29 (nI s)) 38 29 = nI s := rfl
    rw [eN, f_X12_token_71_e, b16, b29, if_pos ((nJ_le (by omega) (by omega)).mpr (by omega))]
    unfold f_X12_token_137
    rw [b29, nm_is, nm_is]
/-! words -/
def spE (f : Nat → Int32) (s k : Nat) : Nat → Bool
  | 0 => true
  | j + 1 => spE f s k j && decide (f (s + j) = chS k j)
theorem spE_mono (f : Nat → Int32) (s k j : Nat) (h : spE f s k j = false) : ∀ d, spE f s k (j + d) = false := by
  intro d
  induction d with
  | zero => exact h
  | succ d ih =>
    show (spE f s k (j + d) && _) = false
    rw [ih]
    rfl
def spl (f : Nat → Int32) (s e k : Nat) : Bool := decide (e - s = lenS.getD k 0) && spE f s k (lenS.getD k 0)
theorem len5 (k : Nat) : lenS.getD k 0 ≤ 5 := by
  rcases (show k = 0 ∨ k = 1 ∨ k = 2 ∨ k = 3 ∨ k = 4 ∨ k = 5 ∨ 6 ≤ k by omega) with rfl | rfl | rfl | rfl | rfl | rfl | h
  · decide
  · decide
  · decide
  · decide
  · decide
  · decide
  · rw [List.getD_eq_getElem?_getD, List.getElem?_eq_none (by show 6 ≤ k; exact h)]
    decide
theorem X_spelt_l (f : Nat → Int32) (s k : Nat) (hs : s + lenS.getD k 0 ≤ 160) (u : S2) (h22 : u 22 = f) : ∀ (d N j : Nat), spE f s k j = true → j + d = lenS.getD k 0 → d < N → f_X5_isSpelt_15 N (nI s) k (nI j) u = some (if spE f s k (lenS.getD k 0) then 1 else 0, u) := by
  have l5 := len5 k
  have sl : sLen k = nI (lenS.getD k 0) := rfl
  intro d
  induction d with
  | zero =>
    intro N j hj hd hN
    obtain ⟨n2, rfl⟩ : ∃ n2, N = n2 + 1 := ⟨N - 1, by omega⟩
    have ej : j = lenS.getD k 0 := by omega
    rw [f_X5_isSpelt_15_e, nm_is, sl, if_pos ((nJ_le (by omega) (by omega)).mpr (by omega)), ← ej, hj]
    rfl
  | succ d ih =>
    intro N j hj hd hN
    obtain ⟨n2, rfl⟩ : ∃ n2, N = n2 + 1 := ⟨N - 1, by omega⟩
    rw [f_X5_isSpelt_15_e, nm_is, sl, if_neg (fun z => by have := (nJ_le (by omega) (by omega)).mp z; omega), nJ_plus (by omega), ck_y (nJ_in (n := 160) (by omega) (by decide)), nm_is, nJ_ix (by omega), h22, ck_y (nJ_in (by omega) (by omega)), nm_is, nJ_ix (by omega)]
    by_cases q : f (s + j) = chS k j
    · rw [if_pos q, nm_is, nI_1]
      refine ih n2 (j + 1) ?_ (by omega) (by omega)
      show (spE f s k j && _) = true
      rw [hj, decide_eq_true q]
      rfl
    · have hf : spE f s k (j + 1) = false := by
        show (spE f s k j && _) = false
        rw [decide_eq_false q, Bool.and_false]
      have := spE_mono f s k (j + 1) hf d
      rw [if_neg q, show lenS.getD k 0 = j + 1 + d by omega, this]
      rfl
theorem X_spelt (f : Nat → Int32) (s e k : Nat) (he : s ≤ e) (he2 : e ≤ 160) (u : S2) (h22 : u 22 = f) : f_X5_isSpelt (nI s) (nI e) k u = some (if spl f s e k then 1 else 0, u) := by
  have l5 := len5 k
  have sl : sLen k = nI (lenS.getD k 0) := rfl
  unfold f_X5_isSpelt spl
  rw [nm_is, nJ_sub he (by omega), sl]
  by_cases q : e - s = lenS.getD k 0
  · rw [if_pos ((nJ_inj (by omega) (by omega)).mpr q), decide_eq_true q, Bool.true_and]
    exact X_spelt_l f s k (by omega) u h22 (lenS.getD k 0) FUEL 0 rfl (by omega) (by show _ < 1000; omega)
  · rw [if_neg (fun z => q ((nJ_inj (by omega) (by omega)).mp z)), decide_eq_false q, Bool.false_and]
    rfl
theorem M_word_l (f : Nat → Int32) (s k : Nat) (code : Int32) (hs : s + lenS.getD k 0 ≤ 160) (hc : ∀ j, j < lenS.getD k 0 → 96 + ((code >>> ((5 * nI j) &&& 31)) &&& 31) = chS k j) (m : S2) (h53 : m 53 = f) (h30 : m 38 30 = nI s) : ∀ (d N j : Nat), j + d = lenS.getD k 0 → d < N → f_X12_isWord_22 N code (nI (lenS.getD k 0)) (if spE f s k j then 1 else 0) (nI j) m = some (if spE f s k (lenS.getD k 0) then 1 else 0, m) := by
  have l5 := len5 k
  have ib : ∀ b : Bool, isB (if b then 1 else 0) = true := by
    intro b
    cases b <;> rfl
  intro d
  induction d with
  | zero =>
    intro N j hd hN
    obtain ⟨n2, rfl⟩ : ∃ n2, N = n2 + 1 := ⟨N - 1, by omega⟩
    have ej : j = lenS.getD k 0 := by omega
    rw [f_X12_isWord_22_e, ck_y (ib _), if_pos (c := nI (lenS.getD k 0) ≤ nI j) ((nJ_le (by omega) (by omega)).mpr (by omega)), ← ej]
    split <;> rfl
  | succ d ih =>
    intro N j hd hN
    obtain ⟨n2, rfl⟩ : ∃ n2, N = n2 + 1 := ⟨N - 1, by omega⟩
    have go := ih n2 (j + 1) (by omega) (by omega)
    rw [f_X12_isWord_22_e]
    cases ej : spE f s k j
    · have := spE_mono f s k j ej (d + 1)
      rw [show lenS.getD k 0 = j + (d + 1) by omega, this, if_pos (c := (if false = true then (1 : Int32) else 0) = 0) (by decide), ck_y (ib false)]
    · rw [if_neg (c := (if true = true then (1 : Int32) else 0) = 0) (by decide), if_neg (c := nI (lenS.getD k 0) ≤ nI j) (fun z => by have := (nJ_le (by omega) (by omega)).mp z; omega), h30, nJ_plus (by omega), ck_y (nJ_in (n := 160) (by omega) (by decide)), nm_is, nJ_ix (by omega), h53, hc j (by omega)]
      unfold f_X12_isWord_64
      by_cases q : f (s + j) = chS k j
      · have hf : spE f s k (j + 1) = true := by
          show (spE f s k j && _) = true
          rw [ej, decide_eq_true q]
          rfl
        rw [hf] at go
        rw [if_pos q, nm_is, nI_1]
        exact go
      · have hf : spE f s k (j + 1) = false := by
          show (spE f s k j && _) = false
          rw [decide_eq_false q, Bool.and_false]
        rw [hf] at go
        rw [if_neg q, nm_is, nI_1]
        exact go
theorem M_word (f : Nat → Int32) (s e k : Nat) (code n : Int32) (he : s ≤ e) (he2 : e ≤ 160) (hn : n = nI (lenS.getD k 0)) (hc : ∀ j, j < lenS.getD k 0 → 96 + ((code >>> ((5 * nI j) &&& 31)) &&& 31) = chS k j) (m : S2) (h53 : m 53 = f) (h30 : m 38 30 = nI s) (h31 : m 38 31 = nI e) : f_X12_isWord code n m = some (if spl f s e k then 1 else 0, m) := by
  have l5 := len5 k
  unfold f_X12_isWord f_X12_isWord_18 spl
  rw [h30, h31, nJ_sub he (by omega), hn]
  by_cases q : e - s = lenS.getD k 0
  · rw [if_pos ((nJ_inj (by omega) (by omega)).mpr q), decide_eq_true q, Bool.true_and]
    exact M_word_l f s k code (by omega) hc m h53 h30 (lenS.getD k 0) FUEL 0 (by omega) (by show _ < 1000; omega)
  · rw [if_neg (fun z => q ((nJ_inj (by omega) (by omega)).mp z)), decide_eq_false q, Bool.false_and]
    obtain ⟨N, eN⟩ : ∃ N, FUEL = N + 1 := ⟨999, rfl⟩
    rw [eN, f_X12_isWord_22_e, if_pos rfl, ck_y (by decide)]
    rfl
