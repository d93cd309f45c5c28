/-! the order: bits and ranks -/
theorem bit_01 (x : Nat) : x % 2 = 0 ∨ x % 2 = 1 := Nat.mod_two_eq_zero_or_one x
theorem bit_or (w i k : Nat) : (w ||| 2 ^ i) / 2 ^ k % 2 = if k = i then 1 else w / 2 ^ k % 2 := by
  rw [← Nat.toNat_testBit, ← Nat.toNat_testBit, tb_or]
  by_cases h : k = i
  · subst h; simp
  · rw [if_neg h, decide_eq_false (fun q => h q.symm), Bool.or_false]
theorem bit_0 (k : Nat) : 0 / 2 ^ k % 2 = 0 := by simp
theorem bit_ext {x y : Nat} (h : ∀ k, (x / 2 ^ k % 2 = 1 ↔ y / 2 ^ k % 2 = 1)) : x = y := by
  apply Nat.eq_of_testBit_eq
  intro i
  rw [tb_div, tb_div, decide_eq_decide.mpr (h i)]
theorem bit_hi {x n k : Nat} (hx : x < 2 ^ n) (hk : n ≤ k) : x / 2 ^ k % 2 = 0 := by
  rw [Nat.div_eq_of_lt (Nat.lt_of_lt_of_le hx (Nat.pow_le_pow_right (by decide) hk))]
theorem bit_full {n k : Nat} (hk : k < n) : (2 ^ n - 1) / 2 ^ k % 2 = 1 := by
  rw [← Nat.toNat_testBit, Nat.testBit_two_pow_sub_one, decide_eq_true hk]; rfl
theorem bit_add {v n : Nat} (hv : v < 2 ^ n) (k : Nat) : (v + 2 ^ n) / 2 ^ k % 2 = if k = n then 1 else v / 2 ^ k % 2 := by
  have h : (v + 2 ^ n) / 2 ^ n % 2 = 1 := by rw [Nat.add_div_right v (Nat.two_pow_pos n), Nat.div_eq_of_lt hv]
  have h2 := bit_sub h k
  rw [Nat.add_sub_cancel] at h2
  by_cases e : k = n
  · subst e; rw [if_pos rfl]; exact h
  · rw [if_neg e] at h2 ⊢; exact h2.symm
theorem rk_lt {u k k' : Nat} (h : u / 2 ^ k % 2 = 1) (hk : k < k') : pcr u k < pcr u k' := by
  have h1 := pcr_mo u (show k + 1 ≤ k' by omega)
  rw [pcr, h] at h1
  omega
theorem rk_inj {u k k' : Nat} (h : u / 2 ^ k % 2 = 1) (h' : u / 2 ^ k' % 2 = 1) (e : pcr u k = pcr u k') : k = k' := by
  rcases Nat.lt_trichotomy k k' with q | q | q
  · have := rk_lt h q; omega
  · exact q
  · have := rk_lt h' q; omega
theorem rk_sur {u : Nat} : ∀ m i, i < pcr u m → ∃ k, k < m ∧ u / 2 ^ k % 2 = 1 ∧ pcr u k = i
  | 0, i, h => absurd h (by simp [pcr])
  | m + 1, i, h => by
    rw [pcr] at h
    rcases bit_01 (u / 2 ^ m) with hb | hb
    · rw [hb] at h
      obtain ⟨k, h1, h2, h3⟩ := rk_sur (u := u) m i (by omega)
      exact ⟨k, by omega, h2, h3⟩
    · rw [hb] at h
      by_cases e : i = pcr u m
      · exact ⟨m, by omega, hb, e.symm⟩
      · obtain ⟨k, h1, h2, h3⟩ := rk_sur (u := u) m i (by omega)
        exact ⟨k, by omega, h2, h3⟩
theorem pcr_0 : ∀ k, pcr 0 k = 0
  | 0 => rfl
  | k + 1 => by rw [pcr, pcr_0 k, bit_0]
/-- v is what the class's set w of items leaves of the songs u -/
def VR (m u w v : Nat) : Prop := v < 2 ^ m ∧ ∀ k, k < m → (v / 2 ^ k % 2 = 1 ↔ u / 2 ^ k % 2 = 1 ∧ w / 2 ^ pcr u k % 2 = 0)
theorem VR_0 {m u : Nat} (hu : u < 2 ^ m) : VR m u 0 u := ⟨hu, fun k _ => ⟨fun h => ⟨h, bit_0 _⟩, fun h => h.1⟩⟩
theorem VR_s {m u w v k : Nat} (h : VR m u w v) (hk : k < m) (hb : v / 2 ^ k % 2 = 1) : VR m u (w ||| 2 ^ pcr u k) (v - 2 ^ k) := by
  obtain ⟨h1, h2⟩ := h
  have hu := ((h2 k hk).mp hb).1
  refine ⟨Nat.lt_of_le_of_lt (Nat.sub_le _ _) h1, fun k' hk' => ?_⟩
  rw [bit_sub hb, bit_or]
  by_cases e : k' = k
  · subst e
    rw [if_pos rfl, if_pos rfl]
    exact ⟨fun q => absurd q (by decide), fun q => absurd q.2 (by decide)⟩
  · rw [if_neg e, h2 k' hk']
    constructor
    · rintro ⟨a, b⟩
      refine ⟨a, ?_⟩
      rw [if_neg (fun q => e (rk_inj a hu q))]
      exact b
    · rintro ⟨a, b⟩
      rw [if_neg (fun q => e (rk_inj a hu q))] at b
      exact ⟨a, b⟩
theorem VR_ex (u w : Nat) : ∀ m, ∃ v, VR m u w v
  | 0 => ⟨0, by decide, fun k hk => absurd hk (by omega)⟩
  | m + 1 => by
    obtain ⟨v, h1, h2⟩ := VR_ex u w m
    by_cases c : u / 2 ^ m % 2 = 1 ∧ w / 2 ^ pcr u m % 2 = 0
    · refine ⟨v + 2 ^ m, by rw [Nat.pow_succ]; omega, fun k hk => ?_⟩
      rw [bit_add h1]
      by_cases e : k = m
      · subst e; rw [if_pos rfl]; exact ⟨fun _ => c, fun _ => rfl⟩
      · rw [if_neg e]; exact h2 k (by omega)
    · refine ⟨v, by rw [Nat.pow_succ]; omega, fun k hk => ?_⟩
      by_cases e : k = m
      · subst e
        rw [bit_hi h1 (Nat.le_refl _)]
        exact ⟨fun q => absurd q (by decide), fun q => absurd q c⟩
      · exact h2 k (by omega)
theorem VR_full {m u v : Nat} (h : VR m u (2 ^ pcr u m - 1) v) : v = 0 := by
  apply bit_ext
  intro k
  rw [bit_0]
  by_cases hk : k < m
  · rw [h.2 k hk]
    constructor
    · rintro ⟨a, b⟩
      rw [bit_full (rk_lt a hk)] at b
      exact absurd b (by decide)
    · intro q; exact absurd q (by decide)
  · rw [bit_hi h.1 (by omega)]
theorem VR_z {m u w : Nat} (h : VR m u w 0) (hw : w < 2 ^ pcr u m) : w = 2 ^ pcr u m - 1 := by
  apply bit_ext
  intro i
  by_cases hi : i < pcr u m
  · rw [bit_full hi]
    obtain ⟨k, h1, h2, h3⟩ := rk_sur m i hi
    have h4 := h.2 k h1
    rw [bit_0, h3] at h4
    rcases bit_01 (w / 2 ^ i) with q | q
    · exact absurd (h4.mpr ⟨h2, q⟩) (by decide)
    · exact ⟨fun _ => rfl, fun _ => q⟩
  · rw [bit_hi hw (by omega), bit_hi (Nat.sub_lt (Nat.two_pow_pos _) (by decide)) (by omega)]
theorem or_gt {w i : Nat} (h : w / 2 ^ i % 2 = 0) : w < w ||| 2 ^ i := by
  refine Nat.lt_of_le_of_ne Nat.left_le_or (fun e => ?_)
  have h2 := bit_or w i i
  rw [← e, if_pos rfl, h] at h2
  exact absurd h2 (by decide)
/-- the class's number and the reference's: never, or the same -/
def En (B : Nat) (c z : Int32) : Prop := (z = -1 ∧ c = 1000000) ∨ ∃ v, v ≤ B ∧ z = nI v ∧ c = nI v
theorem mil : (1000000 : Int32) = nI 1000000 := rfl
section OD
variable {τ : wg_S} {m u w v x : Nat} {L : Nat → Int32} {K : Nat → Nat → Int32} {Y : Nat → Bool}
/-- the changes are small; the class's prices are the reference's -/
def OC (K : Nat → Nat → Int32) (m : Nat) : Prop := ∀ x y, x < m → y < m → ∃ k, k ≤ 2544 ∧ K x y = nI k
def CO (τ : wg_S) (K : Nat → Nat → Int32) (Y : Nat → Bool) (m u : Nat) : Prop := ∀ x y, x < m → y < m → u / 2 ^ x % 2 = 1 → u / 2 ^ y % 2 = 1 → τ 38 (pcr u x * 9 + pcr u y) = if Y x && Y y then 1000000 else K x y
theorem sw_n {a b : Nat} (ha : a ≤ 1000000) (hb : b ≤ 1000000) : (if nI a + nI b < 1000000 then nI a + nI b else 1000000) = if a + b < 1000000 then nI (a + b) else 1000000 := by
  rw [nI_add, mil]
  by_cases h : a + b < 1000000
  · rw [if_pos h, if_pos ((nI_ltI (by omega) (by omega)).mpr h)]
  · rw [if_neg h, if_neg (fun q => h ((nI_ltI (by omega) (by omega)).mp q))]
/-- the sum with k next -/
theorem sw_e (hK : OC K m) (hC : CO τ K Y m u) {k B : Nat} (hB : B ≤ 30000) (hx : x < m) (hxu : u / 2 ^ x % 2 = 1) (hk : k < m) (hku : u / 2 ^ k % 2 = 1) (hE : En B (τ 85 ((w ||| 2 ^ pcr u k) * 9 + pcr u k)) (L (9 * (v - 2 ^ k) + k))) :
    ((Y x && Y k) = true ∨ L (9 * (v - 2 ^ k) + k) = -1) ∧ swh τ w (some (pcr u x)) (pcr u k) = 1000000 ∨ (Y x && Y k) = false ∧ ∃ z q, z ≤ B ∧ q ≤ 2544 ∧ L (9 * (v - 2 ^ k) + k) = nI z ∧ K x k = nI q ∧ swh τ w (some (pcr u x)) (pcr u k) = nI (q + z) := by
  have hc := hC x k hx hk hxu hku
  have e : swh τ w (some (pcr u x)) (pcr u k) = if τ 38 (pcr u x * 9 + pcr u k) + τ 85 ((w ||| 2 ^ pcr u k) * 9 + pcr u k) < 1000000 then τ 38 (pcr u x * 9 + pcr u k) + τ 85 ((w ||| 2 ^ pcr u k) * 9 + pcr u k) else 1000000 := rfl
  rw [e, hc]
  cases hy : (Y x && Y k) with
  | true =>
    rw [if_pos rfl]
    refine Or.inl ⟨Or.inl rfl, ?_⟩
    rcases hE with ⟨-, h2⟩ | ⟨z, hz, -, h2⟩
    · rw [h2, mil, ← mil]
      exact (sw_n (a := 1000000) (b := 1000000) (by omega) (by omega)).trans (if_neg (by omega))
    · rw [h2]
      exact (sw_n (a := 1000000) (b := z) (by omega) (by omega)).trans (if_neg (by omega))
  | false =>
    rw [if_neg Bool.false_ne_true]
    obtain ⟨q, hq, hKq⟩ := hK x k hx hk
    rw [hKq]
    rcases hE with ⟨h1, h2⟩ | ⟨z, hz, h1, h2⟩
    · refine Or.inl ⟨Or.inr h1, ?_⟩
      rw [h2]
      exact (sw_n (a := q) (b := 1000000) (by omega) (by omega)).trans (if_neg (by omega))
    · refine Or.inr ⟨rfl, z, q, hz, hq, h1, rfl, ?_⟩
      rw [h2]
      exact (sw_n (a := q) (b := z) (by omega) (by omega)).trans (if_pos (by omega))
theorem dp_set (hK : OC K m) (hC : CO τ K Y m u) {B : Nat} (hB : B ≤ 27000) (hV : VR m u w v) (hx : x < m) (hxu : u / 2 ^ x % 2 = 1) (hv0 : v ≠ 0) (hE : ∀ k, k < m → v / 2 ^ k % 2 = 1 → En B (τ 85 ((w ||| 2 ^ pcr u k) * 9 + pcr u k)) (L (9 * (v - 2 ^ k) + k))) : ∀ k, k ≤ m → En (B + 2544) (mnr τ w (some (pcr u x)) (pcr u k)) (flb L K Y v x k)
  | 0, _ => Or.inl ⟨by rw [flb, if_neg hv0], rfl⟩
  | k + 1, hk => by
    have ih := dp_set hK hC hB hV hx hxu hv0 hE k (by omega)
    have hv := hV.2 k (by omega)
    rw [flb_s, pcr]
    rcases bit_01 (u / 2 ^ k) with hb | hb
    · rw [hb, Nat.add_zero, if_neg (fun q => by rw [hv, hb] at q; exact absurd q.1.1 (by decide))]
      exact ih
    rw [hb, mnr]
    rcases bit_01 (w / 2 ^ pcr u k) with hw | hw
    · rw [if_pos hw]
      have hvk : v / 2 ^ k % 2 = 1 := hv.mpr ⟨hb, hw⟩
      rcases sw_e (L := L) (v := v) (w := w) hK hC (by omega) hx hxu (show k < m by omega) hb (hE k (by omega) hvk) with ⟨h1, h2⟩ | ⟨h1, z, q, hz, hq, h2, h3, h4⟩
      · rw [h2]
        have e1 : (if (1000000 : Int32) < mnr τ w (some (pcr u x)) (pcr u k) then 1000000 else mnr τ w (some (pcr u x)) (pcr u k)) = mnr τ w (some (pcr u x)) (pcr u k) := by
          rcases ih with ⟨-, e⟩ | ⟨a, ha, -, e⟩
          · rw [e]; rfl
          · rw [e, mil, if_neg (fun q => by have := (nI_ltI (by omega) (by omega)).mp q; omega)]
        rw [e1]
        by_cases hc : v / 2 ^ k % 2 = 1 ∧ (!(Y x && Y k)) = true
        · rw [if_pos hc]
          rcases h1 with h1 | h1
          · rw [h1] at hc; exact absurd hc.2 (by decide)
          · rw [h1, if_pos (show (-1 : Int32) < 0 by decide)]; exact ih
        · rw [if_neg hc]; exact ih
      · rw [if_pos (show v / 2 ^ k % 2 = 1 ∧ (!(Y x && Y k)) = true from ⟨hvk, by rw [h1]; rfl⟩), h2, h3, h4, if_neg (nI_pos (by omega)), nI_add]
        rcases ih with ⟨e1, e2⟩ | ⟨a, ha, e1, e2⟩
        · rw [e1, e2, if_pos (show (-1 : Int32) < 0 by decide), mil, if_pos ((nI_ltI (by omega) (by omega)).mpr (by omega))]
          exact Or.inr ⟨z + q, by omega, rfl, by rw [Nat.add_comm]⟩
        · rw [e1, e2, if_neg (nI_pos (by omega))]
          by_cases hc : a ≤ z + q
          · rw [if_pos ((nI_leI (by omega) (by omega)).mpr hc), if_neg (fun y => by have := (nI_ltI (by omega) (by omega)).mp y; omega)]
            exact Or.inr ⟨a, ha, rfl, rfl⟩
          · rw [if_neg (fun y => hc ((nI_leI (by omega) (by omega)).mp y)), if_pos ((nI_ltI (by omega) (by omega)).mpr (by omega))]
            exact Or.inr ⟨z + q, by omega, rfl, by rw [Nat.add_comm]⟩
    · rw [if_neg (by rw [hw]; decide), if_neg (fun q => by have := (hv.mp q.1).2; rw [hw] at this; exact absurd this (by decide))]
      exact ih
theorem flb_0 : ∀ k, flb L K Y 0 x k = nI 0
  | 0 => by rw [flb, if_pos rfl]
  | k + 1 => by rw [flb_s, if_neg (fun q => by rw [bit_0] at q; exact absurd q.1 (by decide)), flb_0 k]
theorem mnr_fr {τ τ' : wg_S} {w : Nat} {l : Option Nat} (h38 : τ' 38 = τ 38) (h85 : ∀ i, i < 9 → w / 2 ^ i % 2 = 0 → τ' 85 ((w ||| 2 ^ i) * 9 + i) = τ 85 ((w ||| 2 ^ i) * 9 + i)) : ∀ k, k ≤ 9 → mnr τ' w l k = mnr τ w l k
  | 0, _ => rfl
  | k + 1, hk => by
    rw [mnr, mnr, mnr_fr h38 h85 k (by omega)]
    by_cases hb : w / 2 ^ k % 2 = 0
    · have e : swh τ' w l k = swh τ w l k := by
        unfold swh swt
        rw [h38, h85 k (by omega) hb]
      rw [if_pos hb, if_pos hb, e]
    · rw [if_neg hb, if_neg hb]
theorem lsi_o {τ : wg_S} {N W w l' : Nat} (hw : w ≠ W) (hl : l' < 9) : ∀ l, l ≤ 9 → lsi τ N W l 85 (w * 9 + l') = τ 85 (w * 9 + l')
  | 0, _ => rfl
  | l + 1, h => by
    rw [lsi]
    split
    · rw [us_e, pk_un (by omega)]; exact lsi_o hw hl l (by omega)
    · exact lsi_o hw hl l (by omega)
theorem lsi_n {τ : wg_S} {N W : Nat} (hN : N ≤ 9) : ∀ l, l ≤ 9 → ∀ i, i < l → W / 2 ^ i % 2 = 1 → lsi τ N W l 85 (W * 9 + i) = lrs τ N W i
  | 0, _, i, hi, _ => absurd hi (by omega)
  | l + 1, h, i, hi, hb => by
    have fr : lrs (lsi τ N W l) N W l = lrs τ N W l := by
      unfold lrs
      rw [mnr_fr (τ := τ) (lsi_p (by decide) l) (fun k hk hb => lsi_o (Nat.ne_of_gt (or_gt hb)) hk l (by omega)) N hN]
    rw [lsi]
    by_cases e : i = l
    · subst e; rw [if_pos hb, us_s, fr]
    · have ih := lsi_n (τ := τ) (W := W) hN l (by omega) i (by omega) hb
      split
      · rw [us_e, pk_un (by omega)]; exact ih
      · exact ih
theorem dp_all (hm : m ≤ 9) (hK : OC K m) (hC : CO τ K Y m u) (hL : LR L K Y m) : ∀ t, t ≤ 2 ^ pcr u m - 1 → ∀ w v x, 2 ^ pcr u m - 1 < w + t → w < 2 ^ pcr u m → VR m u w v → x < m → u / 2 ^ x % 2 = 1 → w / 2 ^ pcr u x % 2 = 1 → En (2544 * pcr v m) (lso τ (pcr u m) t 85 (w * 9 + pcr u x)) (L (9 * v + x))
  | 0, _, w, v, x, h1, h2, _, _, _, _ => absurd h2 (by omega)
  | t + 1, ht, w, v, x, h1, h2, hV, hx, hxu, hwx => by
    have ih := dp_all hm hK hC hL t (by omega)
    have hN : pcr u m ≤ 9 := Nat.le_trans (pcr_le u m) hm
    have hxN := rk_lt hxu hx
    rw [lso]
    by_cases e : w = 2 ^ pcr u m - 1 - t
    · rw [← e, lsi_n hN _ hN _ hxN hwx, lrs, hL v x hV.1 hx]
      by_cases hf : w = 2 ^ pcr u m - 1
      · rw [if_pos hf]
        have hv0 : v = 0 := VR_full (hf ▸ hV)
        subst hv0
        rw [flb_0]
        exact Or.inr ⟨0, Nat.zero_le _, rfl, rfl⟩
      · rw [if_neg hf]
        have hv0 : v ≠ 0 := fun q => hf (VR_z (q ▸ hV) h2)
        have hCl : CO (lso τ (pcr u m) t) K Y m u := by unfold CO; rw [lso_p (by decide)]; exact hC
        have hpv := pcr_le v m
        have hex : 1 ≤ pcr v m := pcr_pos (Nat.pos_of_ne_zero hv0) hV.1
        have hd := dp_set (τ := lso τ (pcr u m) t) (L := L) hK hCl (B := 2544 * (pcr v m - 1)) (by omega) hV hx hxu hv0 (fun k hk hb => by
          have hs := (hV.2 k hk).mp hb
          have hp := pcr_d hb m
          rw [if_pos hk] at hp
          have hg := or_gt hs.2
          have h3 := ih (w ||| 2 ^ pcr u k) (v - 2 ^ k) k (by omega) (Nat.or_lt_two_pow h2 (Nat.pow_lt_pow_right (by decide) (rk_lt hs.1 hk))) (VR_s hV hk hb) hk hs.1 (by rw [bit_or, if_pos rfl])
          rw [show pcr v m - 1 = pcr (v - 2 ^ k) m by omega]
          exact h3) m (Nat.le_refl _)
        rw [show 2544 * (pcr v m - 1) + 2544 = 2544 * pcr v m by omega] at hd
        exact hd
    · rw [lsi_o e (by omega) _ hN]
      exact ih w v x (by omega) h2 hV hx hxu hwx
/-- the first song, and the least sum -/
theorem of_ls {S : wg_S} {B : Nat} (hB : B ≤ 27000) (hE : ∀ k, k < m → u / 2 ^ k % 2 = 1 → En B (S 85 ((0 ||| 2 ^ pcr u k) * 9 + pcr u k)) (L (9 * (u - 2 ^ k) + k))) : ∀ k, k ≤ m →
    (ofs L u k = (none, -1) ∧ lsm S (pcr u k) = 1000000 ∧ ∀ k', k' < k → u / 2 ^ k' % 2 = 1 → L (9 * (u - 2 ^ k') + k') = -1) ∨
    ∃ f z, f < k ∧ u / 2 ^ f % 2 = 1 ∧ z ≤ B ∧ ofs L u k = (some f, nI z) ∧ lsm S (pcr u k) = nI z ∧ L (9 * (u - 2 ^ f) + f) = nI z ∧ ∀ k', k' < k → u / 2 ^ k' % 2 = 1 → L (9 * (u - 2 ^ k') + k') = -1 ∨ ∃ z', z' ≤ B ∧ L (9 * (u - 2 ^ k') + k') = nI z' ∧ z ≤ z' ∧ (k' < f → z < z')
  | 0, _ => Or.inl ⟨rfl, rfl, fun k' hk => absurd hk (by omega)⟩
  | k + 1, hk => by
    have ih := of_ls hB hE k (by omega)
    rw [ofs_s, pcr]
    rcases bit_01 (u / 2 ^ k) with hb | hb
    · have e : ofn L u k = -1 := by rw [ofn, if_neg (by rw [hb]; decide)]
      rw [e, if_pos (by decide), hb, Nat.add_zero]
      rcases ih with ⟨a1, a2, a3⟩ | ⟨f, z, b1, b2, b3, b4, b5, b6, b7⟩
      · refine Or.inl ⟨a1, a2, fun k' hk' hb' => ?_⟩
        by_cases q : k' = k
        · subst q; rw [hb] at hb'; exact absurd hb' (by decide)
        · exact a3 k' (by omega) hb'
      · refine Or.inr ⟨f, z, by omega, b2, b3, b4, b5, b6, fun k' hk' hb' => ?_⟩
        by_cases q : k' = k
        · subst q; rw [hb] at hb'; exact absurd hb' (by decide)
        · exact b7 k' (by omega) hb'
    · have e : ofn L u k = L (9 * (u - 2 ^ k) + k) := by rw [ofn, if_pos hb]
      have es : swh S 0 none (pcr u k) = if nI 0 + S 85 ((0 ||| 2 ^ pcr u k) * 9 + pcr u k) < 1000000 then nI 0 + S 85 ((0 ||| 2 ^ pcr u k) * 9 + pcr u k) else 1000000 := rfl
      rw [e, hb, lsm, es]
      rcases hE k (by omega) hb with ⟨h1, h2⟩ | ⟨z', hz', h1, h2⟩
      · have e3 : (if nI 0 + (1000000 : Int32) < 1000000 then nI 0 + (1000000 : Int32) else 1000000) = 1000000 := rfl
        rw [h1, if_pos (by decide), h2, e3]
        rcases ih with ⟨a1, a2, a3⟩ | ⟨f, z, b1, b2, b3, b4, b5, b6, b7⟩
        · refine Or.inl ⟨a1, by rw [a2]; rfl, fun k' hk' hb' => ?_⟩
          by_cases q : k' = k
          · subst q; exact h1
          · exact a3 k' (by omega) hb'
        · refine Or.inr ⟨f, z, by omega, b2, b3, b4, ?_, b6, fun k' hk' hb' => ?_⟩
          · rw [b5, mil, if_neg (fun q => by have := (nI_ltI (by omega) (by omega)).mp q; omega)]
          · by_cases q : k' = k
            · subst q; exact Or.inl h1
            · exact b7 k' (by omega) hb'
      · have e3 : (if nI 0 + nI z' < 1000000 then nI 0 + nI z' else 1000000) = nI z' := by rw [nI_add, Nat.zero_add, mil, if_pos ((nI_ltI (by omega) (by omega)).mpr (by omega))]
        rw [h1, if_neg (nI_pos (by omega)), h2, e3]
        rcases ih with ⟨a1, a2, a3⟩ | ⟨f, z, b1, b2, b3, b4, b5, b6, b7⟩
        · rw [a1, if_pos (show ((none : Option Nat), (-1 : Int32)).2 < 0 by decide)]
          refine Or.inr ⟨k, z', by omega, hb, hz', rfl, ?_, h1, fun k' hk' hb' => ?_⟩
          · rw [a2, mil, if_pos ((nI_ltI (by omega) (by omega)).mpr (by omega))]
          · by_cases q : k' = k
            · subst q; exact Or.inr ⟨z', hz', h1, Nat.le_refl _, fun q => absurd q (by omega)⟩
            · exact Or.inl (a3 k' (by omega) hb')
        · rw [b4, b5, if_neg (show ¬ (some f, nI z).2 < 0 from nI_pos (by omega))]
          by_cases hc : z ≤ z'
          · rw [if_pos (show (some f, nI z).2 ≤ nI z' from (nI_leI (by omega) (by omega)).mpr hc), if_neg (fun q => by have := (nI_ltI (by omega) (by omega)).mp q; omega)]
            refine Or.inr ⟨f, z, by omega, b2, b3, rfl, rfl, b6, fun k' hk' hb' => ?_⟩
            by_cases q : k' = k
            · subst q; exact Or.inr ⟨z', hz', h1, hc, fun q => absurd q (by omega)⟩
            · exact b7 k' (by omega) hb'
          · rw [if_neg (show ¬ (some f, nI z).2 ≤ nI z' from fun q => hc ((nI_leI (by omega) (by omega)).mp q)), if_pos ((nI_ltI (by omega) (by omega)).mpr (by omega))]
            refine Or.inr ⟨k, z', by omega, hb, hz', rfl, rfl, h1, fun k' hk' hb' => ?_⟩
            by_cases q : k' = k
            · subst q; exact Or.inr ⟨z', hz', h1, Nat.le_refl _, fun q => absurd q (by omega)⟩
            · rcases b7 k' (by omega) hb' with c1 | ⟨z2, c1, c2, c3, c4⟩
              · exact Or.inl c1
              · exact Or.inr ⟨z2, c1, c2, by omega, fun _ => by omega⟩
theorem fnd_fst {f : Nat → Bool} {n x : Nat} (hx : x < n) (h1 : f x = true) (h2 : ∀ i, i < x → f i = false) : fnd f n = some x := fnd_hit (fnd_none.mpr h2) h1 n hx
/-- the class's next one is the reference's -/
theorem lnb_cnd (hK : OC K m) (hC : CO τ K Y m u) {B a k : Nat} (hB : B ≤ 27000) (ha : a ≤ 30000) (hV : VR m u w v) (hx : x < m) (hxu : u / 2 ^ x % 2 = 1) (hk : k < m) (hku : u / 2 ^ k % 2 = 1) (hLa : L (9 * v + x) = nI a) (hE : v / 2 ^ k % 2 = 1 → En B (τ 85 ((w ||| 2 ^ pcr u k) * 9 + pcr u k)) (L (9 * (v - 2 ^ k) + k))) : lnb τ w (some (pcr u x)) (nI a) (pcr u k) = cnd L K Y v x k := by
  rw [lnb, cnd, hLa]
  by_cases hv : v / 2 ^ k % 2 = 1
  · rw [decide_eq_true ((hV.2 k hk).mp hv).2, decide_eq_true hv, Bool.true_and, Bool.true_and]
    rcases sw_e (L := L) (v := v) (w := w) hK hC (by omega) hx hxu hk hku (hE hv) with ⟨h1, h2⟩ | ⟨h1, z, q, hz, hq, h2, h3, h4⟩
    · rw [h2, mil, decide_eq_false (fun q => by have := (nI_eq (by omega) (by omega)).mp q; omega)]
      rcases h1 with h1 | h1
      · rw [h1]; rfl
      · rw [h1, decide_eq_true (show (-1 : Int32) < 0 by decide)]
        cases (Y x && Y k) <;> rfl
    · rw [h1, h2, h3, h4, nI_add, decide_eq_false (nI_pos (show z < 2 ^ 31 by omega)), Nat.add_comm z q]
      rfl
  · rw [decide_eq_false hv, decide_eq_false (fun q => hv ((hV.2 k hk).mpr ⟨hku, q⟩))]
    rfl
theorem onl_len {m : Nat} {y : Nat} : ∀ {l : List Nat} {v x : Nat}, onl L K Y m v x l 0 y → pcr v m = l.length
  | [], v, x, h => by obtain ⟨rfl, -⟩ := h; exact pcr_0 m
  | k :: l, v, x, h => by
    obtain ⟨⟨hk, hc, -⟩, h2⟩ := h
    have ih := onl_len h2
    have hp := pcr_d (cnd_i hc).1 m
    rw [if_pos hk] at hp
    rw [List.length_cons]
    omega
theorem kor_ch {S : wg_S} {left : Int32} {y : Nat} (hm : m ≤ 9) (hK : OC K m) (hC : CO S K Y m u) (h36 : ∀ k, k < m → u / 2 ^ k % 2 = 1 → S 36 (pcr u k) = nI k)
    (hA : ∀ w v x, 0 < w → w < 2 ^ pcr u m → VR m u w v → x < m → u / 2 ^ x % 2 = 1 → w / 2 ^ pcr u x % 2 = 1 → En (2544 * pcr v m) (S 85 (w * 9 + pcr u x)) (L (9 * v + x))) :
    ∀ (l : List Nat) (t w v x a : Nat) (τ : wg_S) (pre : List Nat), kor S (pcr u m) left t = (w, some (pcr u x), nI a, τ) → VR m u w v → x < m → u / 2 ^ x % 2 = 1 → w / 2 ^ pcr u x % 2 = 1 → w < 2 ^ pcr u m → a ≤ 30000 → L (9 * v + x) = nI a → onl L K Y m v x l 0 y → (∀ p, p ≠ 35 → τ p = S p) → pre.length = t → (∀ k, k < t → τ 35 k = nI (pre.getD k 0)) →
      ∃ w' i' lf τ', kor S (pcr u m) left (t + l.length) = (w', i', lf, τ') ∧ (∀ p, p ≠ 35 → τ' p = S p) ∧ ∀ k, k < t + l.length → τ' 35 k = nI ((pre ++ l).getD k 0)
  | [], t, w, v, x, a, τ, pre, h, _, _, _, _, _, _, _, _, hp, _, h35 => ⟨_, _, _, _, h, hp, fun k hk => by rw [List.append_nil]; exact h35 k hk⟩
  | k :: l, t, w, v, x, a, τ, pre, h, hV, hx, hxu, hwx, hw, ha, hLa, ho, hp, hpre, h35 => by
    obtain ⟨⟨hk, hc, hmin⟩, ho2⟩ := ho
    have hci := cnd_i hc
    have hku := ((hV.2 k hk).mp hci.1).1
    have hwk := ((hV.2 k hk).mp hci.1).2
    have hCτ : CO τ K Y m u := by unfold CO; rw [hp 38 (by decide)]; exact hC
    have hpv := pcr_le v m
    have hEk : ∀ k', k' < m → u / 2 ^ k' % 2 = 1 → v / 2 ^ k' % 2 = 1 → En (2544 * pcr (v - 2 ^ k') m) (τ 85 ((w ||| 2 ^ pcr u k') * 9 + pcr u k')) (L (9 * (v - 2 ^ k') + k')) := fun k' hk' hu' hv' => by
      rw [hp 85 (by decide)]
      have hg := or_gt ((hV.2 k' hk').mp hv').2
      exact hA _ _ _ (by omega) (Nat.or_lt_two_pow hw (Nat.pow_lt_pow_right (by decide) (rk_lt hu' hk'))) (VR_s hV hk' hv') hk' hu' (by rw [bit_or, if_pos rfl])
    have hB' : ∀ k', 2544 * pcr (v - 2 ^ k') m ≤ 27000 := fun k' => by have := pcr_le (v - 2 ^ k') m; omega
    have hlnx : lnx τ (pcr u m) w (some (pcr u x)) (nI a) = pcr u k := by
      rw [lnx, fnd_fst (rk_lt hku hk) (by rw [lnb_cnd (L := L) hK hCτ (hB' k) ha hV hx hxu hk hku hLa (fun q => hEk k hk hku q)]; exact hc) (fun i hi => ?_)]
      · rfl
      · obtain ⟨k', h1, h2, h3⟩ := rk_sur m i (Nat.lt_trans hi (rk_lt hku hk))
        have hlt : k' < k := by
          rcases Nat.lt_trichotomy k' k with q | q | q
          · exact q
          · subst q; omega
          · have := rk_lt hku q; omega
        rw [← h3, lnb_cnd (L := L) hK hCτ (hB' k') ha hV hx hxu h1 h2 hLa (fun q => hEk k' h1 h2 q)]
        exact hmin k' hlt
    have hE := hEk k hk hku hci.1
    obtain ⟨a', ha', hLa', hSa'⟩ : ∃ a', a' ≤ 2544 * pcr (v - 2 ^ k) m ∧ L (9 * (v - 2 ^ k) + k) = nI a' ∧ τ 85 ((w ||| 2 ^ pcr u k) * 9 + pcr u k) = nI a' := by
      rcases hE with ⟨q, -⟩ | ⟨z, hz, q1, q2⟩
      · exact absurd (by rw [q]; decide) hci.2
      · exact ⟨z, hz, q1, q2⟩
    have hs := kor_s S (pcr u m) left t w _ _ τ h
    rw [hlnx, us_p (by decide), hSa', hp 36 (by decide), h36 k hk hku] at hs
    have r := kor_ch hm hK hC h36 hA l (t + 1) _ (v - 2 ^ k) k a' (us τ 35 t (nI k)) (pre ++ [k]) hs (VR_s hV hk hci.1) hk hku (by rw [bit_or, if_pos rfl]) (Nat.or_lt_two_pow hw (Nat.pow_lt_pow_right (by decide) (rk_lt hku hk))) (by have := hB' k; omega) hLa' ho2 (fun p q => by rw [us_p q, hp p q]) (by rw [List.length_append, hpre]; rfl) (fun i hi => by
      rw [us_e]
      by_cases e : i = t
      · subst e
        rw [pk_us, List.getD_eq_getElem?_getD, List.getElem?_append_right (by omega), hpre, Nat.sub_self]
        rfl
      · rw [pk_un e, h35 i (by omega), List.getD_eq_getElem?_getD, List.getD_eq_getElem?_getD, List.getElem?_append_left (by omega)])
    rw [List.append_assoc, show t + 1 + l.length = t + (k :: l).length by rw [List.length_cons]; omega] at r
    exact r
end OD
