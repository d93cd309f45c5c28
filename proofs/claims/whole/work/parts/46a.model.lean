def ofn (L : Nat → Int32) (u k : Nat) : Int32 := if u / 2 ^ k % 2 = 1 then L (9 * (u - 2 ^ k) + k) else -1
/-- the first song of the order, and its sum -/
def ofs (L : Nat → Int32) (u : Nat) : Nat → Option Nat × Int32
  | 0 => (none, -1)
  | k + 1 => if ofn L u k < 0 then ofs L u k else if (ofs L u k).2 < 0 then (some k, ofn L u k) else if (ofs L u k).2 ≤ ofn L u k then ofs L u k else (some k, ofn L u k)
theorem ofs_s (L : Nat → Int32) (u k : Nat) : ofs L u (k + 1) = if ofn L u k < 0 then ofs L u k else if (ofs L u k).2 < 0 then (some k, ofn L u k) else if (ofs L u k).2 ≤ ofn L u k then ofs L u k else (some k, ofn L u k) := rfl
theorem ofs_i (L : Nat → Int32) (u : Nat) : ∀ k f, (ofs L u k).1 = some f → f < k ∧ u / 2 ^ f % 2 = 1 ∧ (ofs L u k).2 = L (9 * (u - 2 ^ f) + f) ∧ ¬ (ofs L u k).2 < 0
  | 0, f, h => by simp [ofs] at h
  | k + 1, f, h => by
    have ih := ofs_i L u k
    have new : ¬ ofn L u k < 0 → (some k, ofn L u k).1 = some f → f < k + 1 ∧ u / 2 ^ f % 2 = 1 ∧ (some k, ofn L u k).2 = L (9 * (u - 2 ^ f) + f) ∧ ¬ (some k, ofn L u k).2 < 0 := by
      intro h1 h2
      obtain rfl : k = f := by simpa using h2
      unfold ofn at h1 ⊢
      by_cases hb : u / 2 ^ k % 2 = 1
      · rw [if_pos hb] at h1 ⊢; exact ⟨by omega, hb, rfl, h1⟩
      · rw [if_neg hb] at h1; exact absurd (by decide) h1
    rw [ofs_s] at h ⊢
    by_cases h1 : ofn L u k < 0
    · rw [if_pos h1] at h ⊢; have := ih f h; exact ⟨by omega, this.2⟩
    · rw [if_neg h1] at h ⊢
      by_cases h2 : (ofs L u k).2 < 0
      · rw [if_pos h2] at h ⊢; exact new h1 h
      · rw [if_neg h2] at h ⊢
        by_cases h3 : (ofs L u k).2 ≤ ofn L u k
        · rw [if_pos h3] at h ⊢; have := ih f h; exact ⟨by omega, this.2⟩
        · rw [if_neg h3] at h ⊢; exact new h1 h
/-- k may stand next behind x, with u left, on a way of the least sum -/
def cnd (L : Nat → Int32) (K : Nat → Nat → Int32) (Y : Nat → Bool) (u x k : Nat) : Bool := decide (u / 2 ^ k % 2 = 1) && !(Y x && Y k) && !decide (L (9 * (u - 2 ^ k) + k) < 0) && decide (L (9 * (u - 2 ^ k) + k) + K x k = L (9 * u + x))
def lsx (L : Nat → Int32) (K : Nat → Nat → Int32) (Y : Nat → Bool) (m u x k : Nat) : Prop := k < m ∧ cnd L K Y u x k = true ∧ ∀ i, i < k → cnd L K Y u x i = false
def onl (L : Nat → Int32) (K : Nat → Nat → Int32) (Y : Nat → Bool) (m : Nat) : Nat → Nat → List Nat → Nat → Nat → Prop
  | u, x, [], v, y => u = v ∧ x = y
  | u, x, k :: l, v, y => lsx L K Y m u x k ∧ onl L K Y m (u - 2 ^ k) k l v y
theorem onl_app {L : Nat → Int32} {K : Nat → Nat → Int32} {Y : Nat → Bool} {m : Nat} : ∀ {l : List Nat} {u x v y k : Nat}, onl L K Y m u x l v y → lsx L K Y m v y k → onl L K Y m u x (l ++ [k]) (v - 2 ^ k) k
  | [], u, x, v, y, k, h, hk => by obtain ⟨rfl, rfl⟩ := h; exact ⟨hk, rfl, rfl⟩
  | a :: l, u, x, v, y, k, h, hk => ⟨h.1, onl_app h.2 hk⟩
theorem flb_w {L : Nat → Int32} {K : Nat → Nat → Int32} {Y : Nat → Bool} {u x : Nat} (hu : ¬ u = 0) : ∀ k, ¬ flb L K Y u x k < 0 → ∃ i, i < k ∧ u / 2 ^ i % 2 = 1 ∧ (Y x && Y i) = false ∧ ¬ L (9 * (u - 2 ^ i) + i) < 0 ∧ L (9 * (u - 2 ^ i) + i) + K x i = flb L K Y u x k
  | 0, h => by rw [flb, if_neg hu] at h; exact absurd (by decide) h
  | k + 1, h => by
    have ih := flb_w (L := L) (K := K) (Y := Y) (x := x) hu k
    have old : ¬ flb L K Y u x k < 0 → ∃ i, i < k + 1 ∧ u / 2 ^ i % 2 = 1 ∧ (Y x && Y i) = false ∧ ¬ L (9 * (u - 2 ^ i) + i) < 0 ∧ L (9 * (u - 2 ^ i) + i) + K x i = flb L K Y u x k := fun h => by
      obtain ⟨i, h1, h2⟩ := ih h
      exact ⟨i, by omega, h2⟩
    rw [flb_s] at h ⊢
    by_cases h1 : u / 2 ^ k % 2 = 1 ∧ (!(Y x && Y k)) = true
    · rw [if_pos h1] at h ⊢
      have hy : (Y x && Y k) = false := by
        have h0 := h1.2
        cases hh : (Y x && Y k) with
        | false => rfl
        | true => rw [hh] at h0; cases h0
      by_cases h2 : L (9 * (u - 2 ^ k) + k) < 0
      · rw [if_pos h2] at h ⊢; exact old h
      · rw [if_neg h2] at h ⊢
        by_cases h3 : flb L K Y u x k < 0
        · rw [if_pos h3] at h ⊢; exact ⟨k, by omega, h1.1, hy, h2, rfl⟩
        · rw [if_neg h3] at h ⊢
          by_cases h4 : flb L K Y u x k ≤ L (9 * (u - 2 ^ k) + k) + K x k
          · rw [if_pos h4] at h ⊢; exact old h
          · rw [if_neg h4] at h ⊢; exact ⟨k, by omega, h1.1, hy, h2, rfl⟩
    · rw [if_neg h1] at h ⊢; exact old h
theorem cnd_ex {L : Nat → Int32} {K : Nat → Nat → Int32} {Y : Nat → Bool} {m u x : Nat} (hu : ¬ u = 0) (he : L (9 * u + x) = flb L K Y u x m) (h : ¬ L (9 * u + x) < 0) : ∃ i, i < m ∧ cnd L K Y u x i = true := by
  rw [he] at h
  obtain ⟨i, h1, h2, h3, h4, h5⟩ := flb_w hu m h
  refine ⟨i, h1, ?_⟩
  rw [cnd, he, h5, h2, h3]
  simp [h4]
theorem cnd_i {L : Nat → Int32} {K : Nat → Nat → Int32} {Y : Nat → Bool} {u x k : Nat} (h : cnd L K Y u x k = true) : u / 2 ^ k % 2 = 1 ∧ ¬ L (9 * (u - 2 ^ k) + k) < 0 := by
  simp only [cnd, Bool.and_eq_true, decide_eq_true_eq, Bool.not_eq_true', decide_eq_false_iff_not] at h
  exact ⟨h.1.1.1, h.1.2⟩
theorem bit_sub {u x : Nat} (h : u / 2 ^ x % 2 = 1) (k : Nat) : (u - 2 ^ x) / 2 ^ k % 2 = if k = x then 0 else u / 2 ^ k % 2 := by
  have hle := bit_le h
  obtain ⟨v, rfl⟩ : ∃ v, u = v + 2 ^ x := ⟨u - 2 ^ x, by omega⟩
  rw [Nat.add_sub_cancel]
  have hv : (v + 2 ^ x) / 2 ^ x = v / 2 ^ x + 1 := Nat.add_div_right v (Nat.two_pow_pos x)
  rw [hv] at h
  rcases Nat.lt_trichotomy k x with hk | hk | hk
  · rw [if_neg (by omega)]
    have e : 2 ^ x = 2 ^ k * (2 * 2 ^ (x - k - 1)) := by
      rw [← Nat.mul_assoc, ← Nat.pow_succ, ← Nat.pow_add]
      congr 1
      omega
    rw [e, Nat.add_mul_div_left _ _ (Nat.two_pow_pos k), Nat.add_mul_mod_self_left]
  · subst hk
    rw [if_pos rfl]
    omega
  · rw [if_neg (by omega)]
    have e : 2 ^ k = 2 ^ x * 2 * 2 ^ (k - x - 1) := by
      rw [← Nat.pow_succ, ← Nat.pow_add]
      congr 1
      omega
    rw [e, ← Nat.div_div_eq_div_mul, ← Nat.div_div_eq_div_mul, ← Nat.div_div_eq_div_mul, ← Nat.div_div_eq_div_mul, hv]
    rw [show (v / 2 ^ x + 1) / 2 = v / 2 ^ x / 2 by omega]
def pcr (u : Nat) : Nat → Nat
  | 0 => 0
  | k + 1 => pcr u k + u / 2 ^ k % 2
theorem pcr_d {u x : Nat} (h : u / 2 ^ x % 2 = 1) : ∀ k, pcr (u - 2 ^ x) k + (if x < k then 1 else 0) = pcr u k
  | 0 => rfl
  | k + 1 => by
    have ih := pcr_d h k
    rw [pcr, pcr, bit_sub h k]
    by_cases e : k = x
    · subst e
      rw [if_neg (by omega)] at ih
      rw [if_pos rfl, if_pos (by omega), h]
      omega
    · rw [if_neg e]
      by_cases e2 : x < k
      · rw [if_pos e2] at ih; rw [if_pos (by omega)]; omega
      · rw [if_neg e2] at ih; rw [if_neg (by omega)]; omega
theorem pcr_le (u : Nat) : ∀ k, pcr u k ≤ k
  | 0 => Nat.le_refl _
  | k + 1 => by have := pcr_le u k; rw [pcr]; omega
def popc (u : Nat) : Nat := pcr u 9
theorem popc_d (u : Nat) (_hu : u < 512) (x : Nat) (hx : x < 9) (h : u / 2 ^ x % 2 = 1) : popc (u - 2 ^ x) + 1 = popc u := by
  have := pcr_d h 9
  rwa [if_pos hx] at this
theorem popc_9 (u : Nat) : popc u ≤ 9 := pcr_le u 9
theorem nI_pI (m : Nat) : nI m - nI 1 = pI m := by
  cases m with
  | zero => decide
  | succ m => exact nI_pred m
/-- what is known of the search among those from k on -/
def NX (P : Nat → Bool) (m k : Nat) : Option Nat → Prop
  | none => ∀ i, k ≤ i → i < m → P i = false
  | some x => k ≤ x ∧ x < m ∧ P x = true ∧ ∀ i, k ≤ i → i < x → P i = false
theorem NX_t {P : Nat → Bool} {m k : Nat} {o : Option Nat} (H : NX P m (k + 1) o) (hk : k < m) (h : P k = true) : NX P m k (some k) := ⟨Nat.le_refl _, hk, h, fun i h1 h2 => absurd h1 (by omega)⟩
theorem NX_f {P : Nat → Bool} {m k : Nat} {o : Option Nat} (H : NX P m (k + 1) o) (h : P k = false) : NX P m k o := by
  cases o with
  | none =>
    intro i h1 h2
    by_cases e : i = k
    · rw [e]; exact h
    · exact H i (by omega) h2
  | some x =>
    obtain ⟨a1, a2, a3, a4⟩ := H
    refine ⟨by omega, a2, a3, fun i h1 h2 => ?_⟩
    by_cases e : i = k
    · rw [e]; exact h
    · exact a4 i (by omega) h2
/-- all but the row of the order, and the rows of ask -/
def OFr (τ σ : wg_S) : Prop := (∀ p, p ≠ 47 → p < 73 ∨ 80 < p → τ p = σ p) ∧ ∀ k, k ≠ 43 → τ 47 k = σ 47 k
/-- the way stands in the row: first f, then l -/
def OW (τ : wg_S) (f : Nat) (l : List Nat) : Prop := τ 47 43 = nI (l.length + 1) ∧ ∀ i, i < l.length + 1 → τ 80 i = nI ((f :: l).getD i 0)
theorem OW_s {τ : wg_S} {f : Nat} {l : List Nat} (H : OW τ f l) (x : Nat) : OW (us (us τ 80 (l.length + 1) (nI x)) 47 43 (nI (l.length + 1 + 1))) f (l ++ [x]) := by
  refine ⟨by rw [us_s]; simp, fun i hi => ?_⟩
  rw [us_p (by decide)]
  simp only [List.length_append, List.length_cons, List.length_nil] at hi
  by_cases e : i = l.length + 1
  · subst e
    rw [us_s]
    simp [List.getD]
  · rw [us_k e, H.2 i (by omega)]
    cases i with
    | zero => simp [List.getD]
    | succ i => simp only [List.getD, List.getElem?_cons_succ]; rw [List.getElem?_append_left (by omega)]
theorem OW_l {τ : wg_S} {L : Nat → Int32} {K : Nat → Nat → Int32} {Y : Nat → Bool} {m f : Nat} {l : List Nat} (H : OW τ f l) {u x v y : Nat} (h : onl L K Y m u x l v y) (hx : f = x) : τ 80 l.length = nI y := by
  subst hx
  rw [H.2 l.length (by omega)]
  have key : ∀ (l : List Nat) (u x v y : Nat), onl L K Y m u x l v y → (x :: l).getD l.length 0 = y := by
    intro l
    induction l with
    | nil => intro u x v y h; obtain ⟨-, rfl⟩ := h; rfl
    | cons k l ih => intro u x v y h; exact ih _ _ _ _ h.2
  rw [key l u f v y h]
/-- the row of the least sums -/
def LR (L : Nat → Int32) (K : Nat → Nat → Int32) (Y : Nat → Bool) (m : Nat) : Prop := ∀ v x, v < 2 ^ m → x < m → L (9 * v + x) = flb L K Y v x m
def OQ (σ : wg_S) (n m j r : Nat) (set x : Int32) (τ : wg_S) : Prop :=
  if set ≤ 0 ∨ nI (2 ^ m) ≤ set then x = -2 ∧ τ = σ
  else ∃ u L, set = nI u ∧ 0 < u ∧ u < 2 ^ m ∧ LR L (ccs σ n j r) (fun s => yng σ j r s n) m ∧ match ofs L u m with
    | (none, _) => x = -3 ∧ SF τ σ
    | (some f, s) => x = s ∧ ∃ l, onl L (ccs σ n j r) (fun s => yng σ j r s n) m (u - 2 ^ f) f l 0 ((f :: l).getD l.length 0) ∧ l.length ≤ 8 ∧ OW τ f l ∧ OFr τ σ
