theorem shl1 : ∀ x, x < 31 → nI 1 <<< (nI x &&& 31) = nI (2 ^ x) := by decide +kernel
theorem nI_or (a b : Nat) : nI a ||| nI b = nI (a ||| b) := by
  apply Int32.toBitVec_inj.mp
  show BitVec.ofNat 32 a ||| BitVec.ofNat 32 b = BitVec.ofNat 32 (a ||| b)
  rw [BitVec.ofNat_or]
theorem sh31 : ∀ i, i < 32 → ((nI i &&& 31).toBitVec.smod 32).toNat = i := by decide +kernel
theorem bv_nI {u i : Nat} (hu : u < 2 ^ 31) (hi : i < 32) : bv (nI u) i = nI (u / 2 ^ i % 2) := by
  unfold bv
  rw [pk_shrN hu _ i (sh31 i hi), pk_andN (by have := Nat.div_le_self u (2 ^ i); omega) 1 (by decide)]
theorem shlm (n : Nat) (h : n < 31) : nI 1 <<< (nI n &&& 31) - nI 1 = nI (2 ^ n - 1) := by
  rw [shl1 n h, pk_sub (Nat.one_le_two_pow)]
theorem or_lt9 {u x : Nat} (hu : u < 512) (hx : x < 9) : u ||| 2 ^ x < 512 := Nat.or_lt_two_pow (n := 9) hu (Nat.pow_lt_pow_right (by decide) hx)
theorem p2_9 : ∀ n, n ≤ 9 → 2 ^ n ≤ 512 := fun n h => Nat.pow_le_pow_right (n := 2) (by decide) h
theorem gg_85 (b : Bool) : (gg true)[85]? = some (.inr (0, 4608)) := rfl
def fnd (f : Nat → Bool) : Nat → Option Nat
  | 0 => none
  | k + 1 => match fnd f k with
    | some x => some x
    | none => if f k then some k else none
theorem fnd_hit {f : Nat → Bool} {i : Nat} (h : fnd f i = none) (hi : f i = true) : ∀ n, i < n → fnd f n = some i := by
  intro n
  induction n with
  | zero => intro h; omega
  | succ n ih =>
    intro hn
    by_cases e : i = n
    · subst e; simp [fnd, h, hi]
    · simp [fnd, ih (by omega)]
theorem fnd_lt {f : Nat → Bool} : ∀ {n x : Nat}, fnd f n = some x → x < n ∧ f x = true
  | 0, x, h => by simp [fnd] at h
  | n + 1, x, h => by
    rw [show fnd f (n + 1) = match fnd f n with | some x => some x | none => if f n then some n else none from rfl] at h
    cases e : fnd f n with
    | some y =>
      rw [e] at h
      cases h
      have := fnd_lt e
      exact ⟨by omega, this.2⟩
    | none =>
      rw [e] at h
      by_cases hf : f n = true
      · simp [hf] at h; subst h; exact ⟨by omega, hf⟩
      · simp [hf] at h
