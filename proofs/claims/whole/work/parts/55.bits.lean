/-! ===== drawers: more things than places ===== -/
theorem fb_holes : ∀ (m n : Nat) (f : Nat → Nat), (∀ i, i < n → f i < m) → (∀ i j, i < j → j < n → f i ≠ f j) → n ≤ m := by
  intro m
  induction m with
  | zero =>
    intro n f h1 _
    rcases Nat.eq_zero_or_pos n with h | h
    · omega
    · exact absurd (h1 0 h) (Nat.not_lt_zero _)
  | succ m ih =>
    intro n f h1 h2
    by_cases hx : ∃ i, i < n ∧ f i = m
    · obtain ⟨a, ha, hfa⟩ := hx
      have hg := ih (n - 1) (fun i => if i < a then f i else f (i + 1)) (by
        intro i hi
        by_cases q : i < a
        · simp only [if_pos q]
          have b1 := h1 i (by omega)
          have b2 := h2 i a q ha
          omega
        · simp only [if_neg q]
          have b1 := h1 (i + 1) (by omega)
          have b2 := h2 a (i + 1) (by omega) (by omega)
          omega) (by
        intro i j hij hj
        by_cases q : i < a
        · by_cases r : j < a
          · simp only [if_pos q, if_pos r]
            exact h2 i j hij (by omega)
          · simp only [if_pos q, if_neg r]
            exact h2 i (j + 1) (by omega) (by omega)
        · have r : ¬ j < a := by omega
          simp only [if_neg q, if_neg r]
          exact h2 (i + 1) (j + 1) (by omega) (by omega))
      omega
    · have hg := ih n f (fun i hi => by
        have b1 := h1 i hi
        have b2 : f i ≠ m := fun e => hx ⟨i, hi, e⟩
        omega) h2
      omega
/-! ===== Int32 by its bits: bt x i ===== -/
def bt (x : Int32) (i : Nat) : Bool := x.toBitVec.getLsbD i
theorem b_ext {x y : Int32} (h : ∀ i, i < 32 → bt x i = bt y i) : x = y := Int32.toBitVec_inj.mp (BitVec.eq_of_getLsbD_eq (fun i hi => h i hi))
theorem b_or (x y : Int32) (i : Nat) : bt (x ||| y) i = (bt x i || bt y i) := by unfold bt; rw [Int32.toBitVec_or, BitVec.getLsbD_or]
theorem b_and (x y : Int32) (i : Nat) : bt (x &&& y) i = (bt x i && bt y i) := by unfold bt; rw [Int32.toBitVec_and, BitVec.getLsbD_and]
theorem b_xor (x y : Int32) (i : Nat) : bt (x ^^^ y) i = (bt x i ^^ bt y i) := by unfold bt; rw [Int32.toBitVec_xor, BitVec.getLsbD_xor]
theorem b_big {x : Int32} {i : Nat} (h : 32 ≤ i) : bt x i = false := BitVec.getLsbD_of_ge _ _ h
theorem b_255 (i : Nat) : bt 255 i = decide (i < 8) := by
  rcases Nat.lt_or_ge i 32 with h | h
  · exact (by decide +kernel : ∀ i, i < 32 → bt 255 i = decide (i < 8)) i h
  · rw [b_big h, decide_eq_false (by omega)]
theorem b_65535 (i : Nat) : bt 65535 i = decide (i < 16) := by
  rcases Nat.lt_or_ge i 32 with h | h
  · exact (by decide +kernel : ∀ i, i < 32 → bt 65535 i = decide (i < 16)) i h
  · rw [b_big h, decide_eq_false (by omega)]
theorem b_m1 : ∀ i, i < 32 → bt (-1) i = true := by decide +kernel
theorem b_0 (i : Nat) : bt 0 i = false := BitVec.getLsbD_zero
theorem s_l : ∀ n, n < 32 → ((nI n &&& 31).toBitVec.smod 32).toNat = n := by decide +kernel
theorem s_u : ∀ n, n < 32 → (((nI n).toUInt32 &&& Int32.toUInt32 31).toBitVec % 32).toNat = n := by decide +kernel
theorem b_shl (n : Nat) (hn : n < 32) (x : Int32) {i : Nat} (hi : i < 32) : bt (x <<< (nI n &&& 31)) i = (decide (n ≤ i) && bt x (i - n)) := by
  unfold bt
  rw [Int32.toBitVec_shiftLeft]
  show (x.toBitVec <<< ((nI n &&& 31).toBitVec.smod 32).toNat).getLsbD i = _
  rw [s_l n hn, BitVec.getLsbD_shiftLeft]
  rcases Nat.lt_or_ge i n with h | h
  · simp [h, Nat.not_le.mpr h]
  · simp [hi, h, Nat.not_lt.mpr h]
theorem b_ushr (n : Nat) (hn : n < 32) (x : Int32) (i : Nat) : bt ((x.toUInt32 >>> ((nI n).toUInt32 &&& Int32.toUInt32 31)).toInt32) i = bt x (n + i) := by
  show (x.toUInt32 >>> ((nI n).toUInt32 &&& Int32.toUInt32 31)).toBitVec.getLsbD i = x.toUInt32.toBitVec.getLsbD (n + i)
  rw [UInt32.toBitVec_shiftRight]
  show (x.toUInt32.toBitVec >>> (((nI n).toUInt32 &&& Int32.toUInt32 31).toBitVec % 32).toNat).getLsbD i = _
  rw [s_u n hn, BitVec.getLsbD_ushiftRight]
theorem b_sshr (n : Nat) (hn : n < 32) (x : Int32) {i : Nat} (hi : i < 32) : bt (x >>> (nI n &&& 31)) i = if n + i < 32 then bt x (n + i) else bt x 31 := by
  unfold bt
  rw [Int32.toBitVec_shiftRight]
  show (x.toBitVec.sshiftRight ((nI n &&& 31).toBitVec.smod 32).toNat).getLsbD i = _
  rw [s_l n hn, BitVec.getLsbD_sshiftRight, BitVec.msb_eq_getLsbD_last]
  simp [hi]
theorem b_shl8 (x : Int32) {i : Nat} (hi : i < 32) : bt (x <<< ((8 : Int32) &&& 31)) i = (decide (8 ≤ i) && bt x (i - 8)) := b_shl 8 (by omega) x hi
theorem b_shl16 (x : Int32) {i : Nat} (hi : i < 32) : bt (x <<< ((16 : Int32) &&& 31)) i = (decide (16 ≤ i) && bt x (i - 16)) := b_shl 16 (by omega) x hi
theorem b_shl24 (x : Int32) {i : Nat} (hi : i < 32) : bt (x <<< ((24 : Int32) &&& 31)) i = (decide (24 ≤ i) && bt x (i - 24)) := b_shl 24 (by omega) x hi
theorem b_sshr8 (x : Int32) {i : Nat} (hi : i < 32) : bt (x >>> ((8 : Int32) &&& 31)) i = if 8 + i < 32 then bt x (8 + i) else bt x 31 := b_sshr 8 (by omega) x hi
/-! ===== order of ints, in all its forms, and through longs ===== -/
theorem fa_lt (a b : Int32) : a < b ↔ a.toInt < b.toInt := Int32.lt_iff_toInt_lt
theorem fa_le (a b : Int32) : a ≤ b ↔ a.toInt ≤ b.toInt := Int32.le_iff_toInt_le
theorem fa_eq (a b : Int32) : a = b ↔ a.toInt = b.toInt := Int32.toInt_inj.symm
theorem fa_lt64 (a b : Int64) : a < b ↔ a.toInt < b.toInt := Int64.lt_iff_toInt_lt
theorem fa_le64 (a b : Int64) : a ≤ b ↔ a.toInt ≤ b.toInt := Int64.le_iff_toInt_le
theorem fa_eq64 (a b : Int64) : a = b ↔ a.toInt = b.toInt := Int64.toInt_inj.symm
/-- a comparison of two ints taken as longs -/
theorem fa_wide_lt (a b : Int32) : a.toInt64 < b.toInt64 ↔ a < b := by rw [fa_lt64, fa_lt, Int32.toInt_toInt64, Int32.toInt_toInt64]
theorem fa_wide_le (a b : Int32) : a.toInt64 ≤ b.toInt64 ↔ a ≤ b := by rw [fa_le64, fa_le, Int32.toInt_toInt64, Int32.toInt_toInt64]
theorem fa_wide_eq (a b : Int32) : a.toInt64 = b.toInt64 ↔ a = b := by rw [fa_eq64, fa_eq, Int32.toInt_toInt64, Int32.toInt_toInt64]
/-- one strict comparison gives all the others -/
theorem fa_of_lt {a b : Int32} (h : a < b) : a ≤ b ∧ ¬ b ≤ a ∧ ¬ b < a ∧ a ≠ b ∧ b ≠ a := by
  rw [fa_lt] at h
  refine ⟨?_, ?_, ?_, ?_, ?_⟩
  · rw [fa_le]; omega
  · rw [fa_le]; omega
  · rw [fa_lt]; omega
  · intro e; rw [fa_eq] at e; omega
  · intro e; rw [fa_eq] at e; omega
theorem fa_of_nlt {a b : Int32} (h : ¬ a < b) : b ≤ a := by
  rw [fa_lt] at h
  rw [fa_le]
  omega
theorem fa_of_nle {a b : Int32} (h : ¬ a ≤ b) : b < a := by
  rw [fa_le] at h
  rw [fa_lt]
  omega
theorem fa_le_ne {a b : Int32} (h : a ≤ b) (h2 : a ≠ b) : a < b := by
  rw [fa_le] at h
  rw [fa_lt]
  have h3 : a.toInt ≠ b.toInt := fun e => h2 ((fa_eq a b).mpr e)
  omega
theorem fa_three (a b : Int32) : a < b ∨ a = b ∨ b < a := by
  rw [fa_lt, fa_lt, fa_eq]
  omega
theorem fa_trans {a b c : Int32} (h : a < b) (h2 : b ≤ c) : a < c := by
  rw [fa_lt] at *
  rw [fa_le] at h2
  omega
/-! ===== signed ints as whole numbers, within bounds ===== -/
theorem fb_rng (x : Int32) : -2147483648 ≤ x.toInt ∧ x.toInt < 2147483648 := by
  have h1 := Int32.le_toInt x
  have h2 := Int32.toInt_lt x
  omega
theorem fb_bmod {z : Int} (h1 : -2147483648 ≤ z) (h2 : z < 2147483648) : z.bmod (2 ^ 32) = z := by
  rw [Int.bmod_eq_of_le (by omega) (by omega)]
theorem fb_addI {x y : Int32} (h1 : -2147483648 ≤ x.toInt + y.toInt) (h2 : x.toInt + y.toInt < 2147483648) : (x + y).toInt = x.toInt + y.toInt := by
  rw [Int32.toInt_add, fb_bmod h1 h2]
theorem fb_subI {x y : Int32} (h1 : -2147483648 ≤ x.toInt - y.toInt) (h2 : x.toInt - y.toInt < 2147483648) : (x - y).toInt = x.toInt - y.toInt := by
  rw [Int32.toInt_sub, fb_bmod h1 h2]
theorem fb_mulI {x y : Int32} (h1 : -2147483648 ≤ x.toInt * y.toInt) (h2 : x.toInt * y.toInt < 2147483648) : (x * y).toInt = x.toInt * y.toInt := by
  rw [Int32.toInt_mul, fb_bmod h1 h2]
theorem fb_negI {x : Int32} (h : x.toInt ≠ -2147483648) : (-x).toInt = -x.toInt := by
  have := fb_rng x
  rw [Int32.toInt_neg, fb_bmod (by omega) (by omega)]
theorem fb_ofI {z : Int} (h1 : -2147483648 ≤ z) (h2 : z < 2147483648) : (Int32.ofInt z).toInt = z := by
  rw [Int32.toInt_ofInt, fb_bmod h1 h2]
theorem fb_asI (x : Int32) : Int32.ofInt x.toInt = x := Int32.ofInt_toInt x
/-! bits as the code asks for them -/
theorem bv_bt (x : Int32) {i : Nat} (hi : i < 32) : bv x i = if bt x i then nI 1 else nI 0 := by
  refine b_ext (fun k hk => ?_)
  rw [bv, b_and, b_sshr i hi x hk]
  have h1 : ∀ k, k < 32 → bt (nI 1) k = decide (k = 0) := by decide +kernel
  have h0 : ∀ k, bt (nI 0) k = false := b_0
  rw [h1 k hk]
  by_cases hk0 : k = 0
  · subst hk0
    rw [Nat.add_zero, if_pos hi]
    cases hb : bt x i <;> simp [h0, h1]
  · rw [decide_eq_false hk0, Bool.and_false]
    cases hb : bt x i
    · simp [h0]
    · simp [h1 k hk, hk0]
theorem bv_1 {x : Int32} {i : Nat} (hi : i < 32) : bv x i = nI 1 ↔ bt x i = true := by
  rw [bv_bt x hi]
  cases bt x i
  · exact ⟨fun h => absurd h (by decide), fun h => absurd h (by decide)⟩
  · exact ⟨fun _ => rfl, fun _ => rfl⟩
theorem bv_0 {x : Int32} {i : Nat} (hi : i < 32) : bv x i = 0 ↔ bt x i = false := by
  rw [bv_bt x hi]
  cases bt x i
  · exact ⟨fun _ => rfl, fun _ => rfl⟩
  · exact ⟨fun h => absurd h (by decide), fun h => absurd h (by decide)⟩
theorem bt_not (x : Int32) {i : Nat} (hi : i < 32) : bt (x ^^^ -1) i = !bt x i := by
  rw [b_xor, b_m1 i hi]
  cases bt x i <;> rfl
theorem bt_z {x : Int32} : x = 0 ↔ ∀ i, i < 32 → bt x i = false := by
  refine ⟨fun h i _ => by rw [h, b_0], fun h => b_ext (fun i hi => by rw [h i hi, b_0])⟩
theorem bt_1k : ∀ k, k < 31 → ∀ i, i < 32 → bt (nI 1 <<< (nI k &&& 31)) i = decide (i = k) := by decide +kernel
theorem bt_om (f : Nat → Bool) : ∀ (n : Nat), n ≤ 31 → ∀ i, i < 32 → bt (om f n) i = (decide (i < n) && f i)
  | 0, _, i, hi => by rw [om]; exact b_0 i
  | n + 1, hn, i, hi => by
    have ih := bt_om f n (by omega) i hi
    rw [om]
    by_cases hf : f n = true
    · rw [if_pos hf, b_or, ih, bt_1k n (by omega) i hi]
      by_cases e : i = n
      · subst e; simp [hf]
      · by_cases h2 : i < n
        · simp [h2, show i < n + 1 by omega]
          intro h3; exact absurd h3 e
        · simp [h2, e, show ¬ i < n + 1 by omega]
    · rw [if_neg hf, ih]
      by_cases e : i = n
      · subst e; simp [Bool.eq_false_iff.mpr hf]
      · by_cases h2 : i < n
        · simp [h2, show i < n + 1 by omega]
        · simp [h2, show ¬ i < n + 1 by omega]
theorem bt_orf (f : Nat → Int32) (i : Nat) : ∀ n, bt (orf f n) i = true ↔ ∃ k, k < n ∧ bt (f k) i = true
  | 0 => by
    rw [orf]
    refine ⟨fun h => ?_, fun ⟨k, hk, _⟩ => absurd hk (by omega)⟩
    rw [show nI 0 = 0 from rfl, b_0] at h
    exact absurd h (by decide)
  | n + 1 => by
    rw [orf, b_or, Bool.or_eq_true, bt_orf f i n]
    constructor
    · rintro (⟨k, hk, h⟩ | h)
      · exact ⟨k, by omega, h⟩
      · exact ⟨n, by omega, h⟩
    · rintro ⟨k, hk, h⟩
      by_cases e : k = n
      · subst e; exact Or.inr h
      · exact Or.inl ⟨k, by omega, h⟩
/-- a set within another -/
theorem bt_sub {x y : Int32} : x &&& (y ^^^ -1) = 0 ↔ ∀ i, i < 32 → bt x i = true → bt y i = true := by
  rw [bt_z]
  constructor
  · intro h i hi hx
    have := h i hi
    rw [b_and, bt_not y hi, hx] at this
    cases hy : bt y i
    · rw [hy] at this; exact absurd this (by decide)
    · rfl
  · intro h i hi
    rw [b_and, bt_not y hi]
    cases hx : bt x i
    · rfl
    · rw [h i hi hx]; rfl
theorem bt_disj {x y : Int32} : x &&& y = 0 ↔ ∀ i, i < 32 → bt x i = true → bt y i = false := by
  rw [bt_z]
  constructor
  · intro h i hi hx
    have := h i hi
    rw [b_and, hx] at this
    simpa using this
  · intro h i hi
    rw [b_and]
    cases hx : bt x i
    · rfl
    · rw [h i hi hx]; rfl
theorem bt_nI {u i : Nat} (hi : i < 32) : bt (nI u) i = u.testBit i := by
  show (BitVec.ofNat 32 u).getLsbD i = u.testBit i
  rw [BitVec.getLsbD_ofNat]
  simp [hi]
theorem neg_1k : ∀ n, n ≤ 16 → ∀ i, i < 32 → bt (-(nI 1 <<< (nI n &&& 31))) i = decide (n ≤ i) := by decide +kernel
/-- a set of the first n bits, as the class asks and as the reference asks -/
theorem set_in {x : Int32} {n : Nat} (hn : n ≤ 16) : x &&& -(nI 1 <<< (nI n &&& 31)) = 0 ↔ ∃ u, u < 2 ^ n ∧ x = nI u := by
  rw [bt_z]
  constructor
  · intro h
    have hx : x = nI x.toBitVec.toNat := Int32.toBitVec_inj.mp (by show _ = BitVec.ofNat 32 _; simp)
    refine ⟨x.toBitVec.toNat, ?_, hx⟩
    apply Nat.lt_pow_two_of_testBit
    intro i hi
    by_cases h32 : i < 32
    · have := h i h32
      rw [b_and, neg_1k n hn i h32, decide_eq_true hi, Bool.and_true] at this
      exact this
    · exact Nat.testBit_lt_two_pow (Nat.lt_of_lt_of_le x.toBitVec.isLt (Nat.pow_le_pow_right (by decide) (by omega)))
  · rintro ⟨u, hu, rfl⟩ i hi
    rw [b_and, neg_1k n hn i hi, bt_nI hi]
    by_cases h : n ≤ i
    · rw [Nat.testBit_lt_two_pow (Nat.lt_of_lt_of_le hu (Nat.pow_le_pow_right (by decide) h))]; rfl
    · simp [h]
theorem p2_16 {n : Nat} (hn : n ≤ 16) : 2 ^ n ≤ 65536 := Nat.pow_le_pow_right (n := 2) (by decide) hn
theorem set_m {x : Int32} {n : Nat} (hn : n ≤ 16) : (¬ x < 0 ∧ x < nI 1 <<< (nI n &&& 31)) ↔ ∃ u, u < 2 ^ n ∧ x = nI u := by
  rw [shl1 n (by omega)]
  have h2 := p2_16 hn
  constructor
  · rintro ⟨h1, h3⟩
    obtain ⟨j, hj, rfl⟩ := nI_of h1
    exact ⟨j, (nI_ltI hj (by omega)).mp h3, rfl⟩
  · rintro ⟨u, hu, rfl⟩
    exact ⟨nI_pos (by omega), (nI_ltI (by omega) (by omega)).mpr hu⟩
theorem tb_div (u i : Nat) : u.testBit i = decide (u / 2 ^ i % 2 = 1) := Nat.testBit_eq_decide_div_mod_eq
/-- how many bits: the JDK's count, and the reference's -/
def nb1 (x : Nat) : Nat := x - ((x >>> 1) &&& 1431655765)
def nb2 (x : Nat) : Nat := (x &&& 858993459) + ((x >>> 2) &&& 858993459)
def nb3 (x : Nat) : Nat := (x + (x >>> 4)) &&& 252645135
def nb4 (x : Nat) : Nat := x + (x >>> 8)
def nb5 (x : Nat) : Nat := x + (x >>> 16)
def nbt (x : Nat) : Nat := nb5 (nb4 (nb3 (nb2 (nb1 x)))) &&& 63
theorem nI_andN (a b : Nat) : nI a &&& nI b = nI (a &&& b) := by
  apply Int32.toBitVec_inj.mp
  show BitVec.ofNat 32 a &&& BitVec.ofNat 32 b = BitVec.ofNat 32 (a &&& b)
  rw [BitVec.ofNat_and]
theorem usr_nI {u k : Nat} (hu : u < 2 ^ 32) (hk : k < 32) : usr (nI u) (nI k) = nI (u >>> k) := by
  rw [usr, pk_ushrN hu (nI k) k (s_u k hk), Nat.shiftRight_eq_div_pow]
theorem nb_le (x k m : Nat) : (x >>> k) &&& m ≤ x := Nat.le_trans Nat.and_le_left (by rw [Nat.shiftRight_eq_div_pow]; exact Nat.div_le_self _ _)
theorem bct_nI {u : Nat} (hu : u < 65536) : bct (nI u) = nI (nbt u) := by
  have h1 : bc1 (nI u) = nI (nb1 u) := by
    rw [bc1, usr_nI (by omega) (by omega), show (1431655765 : Int32) = nI 1431655765 from rfl, nI_andN, pk_sub (nb_le _ _ _)]; rfl
  have e1 : nb1 u < 2 ^ 16 := Nat.lt_of_le_of_lt (Nat.sub_le _ _) hu
  have h2 : bc2 (nI (nb1 u)) = nI (nb2 (nb1 u)) := by
    rw [bc2, usr_nI (by omega) (by omega), show (858993459 : Int32) = nI 858993459 from rfl, nI_andN, nI_andN, nI_add]; rfl
  have e2 : nb2 (nb1 u) < 2 ^ 17 := by
    have a1 : nb1 u &&& 858993459 ≤ nb1 u := Nat.and_le_left
    have a2 := nb_le (nb1 u) 2 858993459
    unfold nb2; omega
  have h3 : bc3 (nI (nb2 (nb1 u))) = nI (nb3 (nb2 (nb1 u))) := by
    rw [bc3, usr_nI (by omega) (by omega), show (252645135 : Int32) = nI 252645135 from rfl, nI_add, nI_andN]; rfl
  have e3 : nb3 (nb2 (nb1 u)) < 2 ^ 18 := by
    have a1 : nb3 (nb2 (nb1 u)) ≤ nb2 (nb1 u) + nb2 (nb1 u) >>> 4 := Nat.and_le_left
    have a2 : nb2 (nb1 u) >>> 4 ≤ nb2 (nb1 u) := by rw [Nat.shiftRight_eq_div_pow]; exact Nat.div_le_self _ _
    omega
  have h4 : bc4 (nI (nb3 (nb2 (nb1 u)))) = nI (nb4 (nb3 (nb2 (nb1 u)))) := by
    rw [bc4, usr_nI (by omega) (by omega), nI_add]; rfl
  have e4 : nb4 (nb3 (nb2 (nb1 u))) < 2 ^ 19 := by
    have a2 : nb3 (nb2 (nb1 u)) >>> 8 ≤ nb3 (nb2 (nb1 u)) := by rw [Nat.shiftRight_eq_div_pow]; exact Nat.div_le_self _ _
    unfold nb4; omega
  have h5 : bc5 (nI (nb4 (nb3 (nb2 (nb1 u))))) = nI (nb5 (nb4 (nb3 (nb2 (nb1 u))))) := by
    rw [bc5, usr_nI (by omega) (by omega), nI_add]; rfl
  rw [bct, h1, h2, h3, h4, h5, nI_andN]; rfl
theorem and_cat {x y z w : Nat} (hy : y < 256) (hw : w < 256) : (256 * x + y) &&& (256 * z + w) = 256 * (x &&& z) + (y &&& w) := by
  apply Nat.eq_of_testBit_eq
  intro i
  have h1 : y < 2 ^ 8 := hy
  have h2 : w < 2 ^ 8 := hw
  have h3 : y &&& w < 2 ^ 8 := Nat.lt_of_le_of_lt Nat.and_le_left hy
  rw [Nat.testBit_and, show (256 : Nat) = 2 ^ 8 from rfl, Nat.testBit_two_pow_mul_add _ h1, Nat.testBit_two_pow_mul_add _ h2, Nat.testBit_two_pow_mul_add _ h3]
  split <;> rw [Nat.testBit_and]
def nz1 (z : Nat) : Nat := z - (z / 2 &&& 85)
def nz2 (z : Nat) : Nat := (z &&& 51) + (z / 4 &&& 51)
def nz3 (z : Nat) : Nat := (z + z / 16) &&& 15
set_option maxRecDepth 100000 in
theorem nz_a : ∀ z, z < 256 → (z / 2 &&& 5592405 = z / 2 &&& 85) ∧ z / 2 &&& 85 ≤ z ∧ nz1 z < 256 := by decide +kernel
set_option maxRecDepth 100000 in
theorem nz_b : ∀ b, b < 2 → ∀ l, l < 256 → (128 * b + l / 2) &&& 85 = l / 2 &&& 85 := by decide +kernel
set_option maxRecDepth 100000 in
theorem nz_c : ∀ z, z < 256 → (z &&& 3355443 = z &&& 51) ∧ (z / 4 &&& 3355443 = z / 4 &&& 51) := by decide +kernel
set_option maxRecDepth 100000 in
theorem nz_d : ∀ b, b < 4 → ∀ l, l < 256 → (64 * b + l / 4) &&& 51 = l / 4 &&& 51 := by decide +kernel
set_option maxRecDepth 100000 in
theorem nz_e : ∀ z, z < 256 → nz2 (nz1 z) ≤ 68 ∧ nz2 (nz1 z) % 16 ≤ 4 := by decide +kernel
set_option maxRecDepth 100000 in
theorem nz_f : ∀ z, z < 69 → (z + z / 16) &&& 986895 = (z + z / 16) &&& 15 := by decide +kernel
set_option maxRecDepth 100000 in
theorem nz_g : ∀ b, b < 5 → ∀ l, l < 69 → (l + 16 * b + l / 16) &&& 15 = (l + l / 16) &&& 15 := by decide +kernel
set_option maxRecDepth 100000 in
theorem nz_h : ∀ z, z < 256 → nz3 (nz2 (nz1 z)) = pcr z 8 := by decide +kernel
theorem nz_1 {h l : Nat} (hh : h < 256) (hl : l < 256) : nb1 (256 * h + l) = 256 * nz1 h + nz1 l := by
  have e : (256 * h + l) >>> 1 = 256 * (h / 2) + (128 * (h % 2) + l / 2) := by rw [Nat.shiftRight_eq_div_pow]; omega
  have a1 := nz_a h hh
  have a2 := nz_a l hl
  rw [nb1, e, show 1431655765 = 256 * 5592405 + 85 from rfl, and_cat (by omega) (by omega), a1.1, nz_b _ (by omega) l hl, nz1, nz1]
  omega
theorem nz_2 {h l : Nat} (hh : h < 256) (hl : l < 256) : nb2 (256 * h + l) = 256 * nz2 h + nz2 l := by
  have e : (256 * h + l) >>> 2 = 256 * (h / 4) + (64 * (h % 4) + l / 4) := by rw [Nat.shiftRight_eq_div_pow]; omega
  have a1 := nz_c h hh
  rw [nb2, e, show 858993459 = 256 * 3355443 + 51 from rfl, and_cat hl (by omega), and_cat (by omega) (by omega), a1.1, a1.2, nz_d _ (by omega) l hl, nz2, nz2]
  omega
theorem nz_3 {h l : Nat} (hh : h ≤ 68) (hm : h % 16 ≤ 4) (hl : l ≤ 68) : nb3 (256 * h + l) = 256 * nz3 h + nz3 l := by
  have e : (256 * h + l) + (256 * h + l) >>> 4 = 256 * (h + h / 16) + (l + 16 * (h % 16) + l / 16) := by rw [Nat.shiftRight_eq_div_pow]; omega
  rw [nb3, e, show 252645135 = 256 * 986895 + 15 from rfl, and_cat (by omega) (by omega), nz_f h (by omega), nz_g _ (by omega) l (by omega), nz3, nz3]
theorem pcr_cat {h l : Nat} (hl : l < 256) : ∀ k, pcr (256 * h + l) (8 + k) = pcr l 8 + pcr h k
  | 0 => by
    simp only [pcr, Nat.add_zero]
    omega
  | k + 1 => by
    show pcr (256 * h + l) (8 + k) + (256 * h + l) / 2 ^ (8 + k) % 2 = pcr l 8 + (pcr h k + h / 2 ^ k % 2)
    rw [pcr_cat hl k]
    have : (256 * h + l) / 2 ^ (8 + k) = h / 2 ^ k := by
      rw [Nat.pow_add, ← Nat.div_div_eq_div_mul, show (256 * h + l) / 2 ^ 8 = h by omega]
    rw [this]
    omega
theorem nbt_cat {h l : Nat} (hh : h < 256) (hl : l < 256) : nbt (256 * h + l) = pcr (256 * h + l) 16 := by
  have e1 := nz_e h hh
  have e2 := nz_e l hl
  have e3 := pcr_le h 8
  have e4 := pcr_le l 8
  rw [nbt, nz_1 hh hl, nz_2 (nz_a h hh).2.2 (nz_a l hl).2.2, nz_3 e1.1 e1.2 e2.1, nz_h h hh, nz_h l hl, pcr_cat hl 8]
  have e5 : nb4 (256 * pcr h 8 + pcr l 8) = 256 * pcr h 8 + (pcr l 8 + pcr h 8) := by rw [nb4, Nat.shiftRight_eq_div_pow]; omega
  have e6 : nb5 (256 * pcr h 8 + (pcr l 8 + pcr h 8)) = 256 * pcr h 8 + (pcr l 8 + pcr h 8) := by rw [nb5, Nat.shiftRight_eq_div_pow]; omega
  rw [e5, e6, show (63 : Nat) = 256 * 0 + 63 from rfl, and_cat (by omega) (by omega), Nat.and_zero, show (63 : Nat) = 2 ^ 6 - 1 from rfl, Nat.and_two_pow_sub_one_eq_mod]
  omega
theorem bct_pcr {u : Nat} (hu : u < 65536) : bct (nI u) = nI (pcr u 16) := by
  rw [bct_nI hu]
  have := nbt_cat (show u / 256 < 256 by omega) (show u % 256 < 256 by omega)
  rw [show 256 * (u / 256) + u % 256 = u by omega] at this
  rw [this]
theorem pcr_ge {u n : Nat} (hu : u < 2 ^ n) : ∀ k, pcr u (n + k) = pcr u n
  | 0 => rfl
  | k + 1 => by
    rw [← Nat.add_assoc, pcr, pcr_ge hu k, Nat.div_eq_of_lt (Nat.lt_of_lt_of_le hu (Nat.pow_le_pow_right (by decide) (Nat.le_add_right n k)))]
    rfl
theorem pcr_to {u n m : Nat} (hu : u < 2 ^ n) (h : n ≤ m) : pcr u m = pcr u n := by
  rw [show m = n + (m - n) by omega, pcr_ge hu]
theorem sm_bv {u : Nat} (hu : u < 2 ^ 31) : ∀ n, n ≤ 32 → sm (bv (nI u)) n = nI (pcr u n)
  | 0, _ => rfl
  | n + 1, h => by rw [sm, pcr, sm_bv hu n (by omega), bv_nI hu (by omega), nI_add]
theorem bct_sm {u n : Nat} (hn : n ≤ 16) (hu : u < 2 ^ n) : bct (nI u) = sm (bv (nI u)) 31 := by
  have h2 := p2_16 hn
  rw [bct_pcr (by omega), sm_bv (by omega) 31 (by omega), pcr_to hu (m := 31) (by omega), pcr_to hu hn]
