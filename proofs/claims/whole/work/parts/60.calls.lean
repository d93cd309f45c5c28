/-! feed -/
theorem byt_mby0 (z : Int64) : (z &&& 255).toInt32 = z.toInt32.toInt8.toInt32 &&& nI 255 := by
  apply Int32.toBitVec_inj.mp
  apply BitVec.eq_of_getLsbD_eq
  intro i hi
  have h255 : ∀ i, i < 64 → (255 : Int64).toBitVec.getLsbD i = decide (i < 8) := by decide +kernel
  have h255' : ∀ i, i < 32 → (nI 255).toBitVec.getLsbD i = decide (i < 8) := by decide +kernel
  rw [Int64.toBitVec_toInt32, Int64.toBitVec_and, Int32.toBitVec_and, Int8.toBitVec_toInt32, Int32.toBitVec_toInt8, Int64.toBitVec_toInt32, BitVec.getLsbD_and, h255' i hi, BitVec.getLsbD_signExtend, BitVec.getLsbD_signExtend, if_pos (show i < 64 by omega), BitVec.getLsbD_and, h255 i (by omega)]
  by_cases h8 : i < 8
  · rw [if_pos h8, BitVec.getLsbD_signExtend, if_pos hi, BitVec.getLsbD_signExtend, if_pos (show i < 64 by omega)]
    simp only [hi, h8, decide_true, Bool.true_and, Bool.and_true]
  · simp only [h8, decide_false, Bool.and_false]
theorem byt_mby (w : Int64) (i : Nat) : byt w i = mby w i &&& nI 255 := by
  unfold byt mby
  rw [pk_vb, byt_mby0]
theorem apd_p {σ : wg_S} {w : Int64} {l k p : Nat} (h1 : p ≠ 17) (h2 : p ≠ 18) : ∀ i, apd σ w l k i p = σ p
  | 0 => rfl
  | i + 1 => by rw [apd, us_p h1, us_p h2, apd_p h1 h2 i]
theorem apd_l {σ : wg_S} {w : Int64} {l k : Nat} : ∀ i, 0 < i → apd σ w l k i 17 0 = nI (l + i)
  | 0, h => absurd h (by omega)
  | i + 1, _ => by rw [apd, us_s]; rfl
theorem apd_t {σ : wg_S} {w : Int64} {l k : Nat} : ∀ i t, t < l + i → apd σ w l k i 18 t = if t < l then σ 18 t else byt w (k - 1 - (t - l))
  | 0, t, h => by rw [if_pos (by omega)]; rfl
  | i + 1, t, h => by
    rw [apd, us_p (by decide), us_e]
    by_cases e : t = l + i
    · subst e; rw [pk_us, if_neg (by omega), show l + i - l = i by omega]
    · rw [pk_un e, apd_t i t (by omega)]
theorem mfd_p {σ : wg_S} {w : Int64} {l k p : Nat} (h1 : p ≠ 47) (h2 : p ≠ 63) : ∀ i, mfd0 σ w l k i p = σ p
  | 0 => rfl
  | i + 1 => by rw [mfd0, us_p h1, us_p h2, mfd_p h1 h2 i]
theorem mfd_f {σ : wg_S} {w : Int64} {l k f : Nat} (h : f ≠ 20) : ∀ i, mfd0 σ w l k i 47 f = σ 47 f
  | 0 => rfl
  | i + 1 => by rw [mfd0, us_k h, us_p (by decide), mfd_f h i]
theorem mfd_l {σ : wg_S} {w : Int64} {l k : Nat} : ∀ i, 0 < i → mfd0 σ w l k i 47 20 = nI (l + i)
  | 0, h => absurd h (by omega)
  | i + 1, _ => by rw [mfd0, us_s]; rfl
theorem mfd_t {σ : wg_S} {w : Int64} {l k : Nat} : ∀ i t, t < l + i → mfd0 σ w l k i 63 t = if t < l then σ 63 t else mby w (k - 1 - (t - l))
  | 0, t, h => by rw [if_pos (by omega)]; rfl
  | i + 1, t, h => by
    rw [mfd0, us_p (by decide), us_e]
    by_cases e : t = l + i
    · subst e; rw [pk_us, if_neg (by omega), show l + i - l = i by omega]
    · rw [pk_un e, mfd_t i t (by omega)]
theorem B_feed (κ : gm_K) (w : Int64) (k : Int32) : Both κ mX10_feed mX11_feed [.long w, .int k] := by
  refine both_fn (fun b σ n m j r l kl ms h => ?_)
  have hci := h.ci
  have hmi := h.mi
  have hz : zS σ := ⟨n, m, j, r, l, kl, ms, h⟩
  have hzl := id h
  obtain ⟨hC, hM, hJ, hT, hU, hB, hO, hH, hD, hQ, hKC⟩ := h
  obtain ⟨⟨cN, cN', cn⟩, c2, c3, c4, c5, c6, c7, c8, c9, c10, c11⟩ := id hC
  obtain ⟨⟨mN, mN', mn⟩, m2, m3, m4, m5⟩ := id hM
  obtain ⟨⟨jN, jN', jn⟩, j2, j3⟩ := id hJ
  obtain ⟨⟨tN, tN', tl⟩, t2⟩ := id hT
  obtain ⟨⟨uN, uN', un⟩, u2⟩ := id hU
  obtain ⟨⟨b0, b1, wd0, wd1, wd2⟩, b2, b3, b4⟩ := id hB
  obtain ⟨⟨oN, oN', on⟩, o2⟩ := id hO
  have hK := cX10_feed_ok κ b σ l tN tl w k
  by_cases h1 : wi k (nI 1) (nI 8) = false
  · exact bo (-2) σ σ (by rw [K_feed, if_pos h1]) hK (by rw [M_feed, if_pos h1]) (cX11_feed_ok κ b σ l tN' tl w k) hz
  obtain ⟨y, hy1, hy8, rfl⟩ := wi_n (by omega) h1 (by omega)
  have ey := nI_clamp (show y < 2 ^ 31 by omega)
  by_cases h2 : l + y ≤ 120
  · have hle : nI (l + y) ≤ nI 120 := (nI_leI (by omega) (by omega)).mpr h2
    have hp : ∀ p, p ≠ 17 → p ≠ 18 → apd σ w l y y p = σ p := fun p h3 h4 => apd_p h3 h4 y
    have hN : apd σ w l y y 47 20 = nI l := by rw [hp 47 (by decide) (by decide)]; exact tN'
    have hq : ∀ p, p ≠ 17 → p ≠ 18 → p ≠ 47 → p ≠ 63 → mfd0 (apd σ w l y y) w l y y p = σ p := fun p h3 h4 h5 h6 => by rw [mfd_p h5 h6, hp p h3 h4]
    have hf : ∀ f, f ≠ 20 → mfd0 (apd σ w l y y) w l y y 47 f = σ 47 f := fun f h3 => by rw [mfd_f h3, hp 47 (by decide) (by decide)]
    refine bo (nI (l + y)) (apd σ w l y y) (mfd0 (apd σ w l y y) w l y y) (by rw [K_feed, if_neg h1, tN, nI_add, if_pos hle, ey]) hK (by rw [M_feed, if_neg h1, hN, nI_add, if_pos hle, ey]) (cX11_feed_ok κ b (apd σ w l y y) l hN tl w (nI y)) ⟨n, m, j, r, l + y, kl, ms, ?_, ?_, ?_, ?_, ?_, ?_, ?_, ?_, ?_, ?_, ?_⟩
    · unfold zC; simp (discharger := decide) only [hq, hf]; exact hC
    · unfold zM; simp (discharger := decide) only [hq, hf]; exact hM
    · unfold zJ; simp (discharger := decide) only [hq, hf]; exact hJ
    · refine ⟨⟨?_, mfd_l y (by omega), h2⟩, fun t ht => ?_⟩
      · rw [mfd_p (by decide) (by decide)]; exact apd_l y (by omega)
      · rw [mfd_p (p := 18) (by decide) (by decide), apd_t y t ht, mfd_t y t ht, hp 63 (by decide) (by decide)]
        by_cases h3 : t < l
        · rw [if_pos h3, if_pos h3]; exact t2 t h3
        · rw [if_neg h3, if_neg h3]; exact byt_mby w _
    · unfold zU; simp (discharger := decide) only [hq, hf]; exact hU
    · unfold zB; simp (discharger := decide) only [hq, hf]; exact hB
    · unfold zO; simp (discharger := decide) only [hq, hf]; exact hO
    · unfold zH; simp (discharger := decide) only [hq, hf]; exact hH
    · unfold zD; simp (discharger := decide) only [hq, hf]; exact hD
    · unfold zQ; simp (discharger := decide) only [hq, hf]; exact hQ
    · unfold KC; simp (discharger := decide) only [hq, hf]; exact hKC
  · have hle : ¬ nI (l + y) ≤ nI 120 := fun q => h2 ((nI_leI (by omega) (by omega)).mp q)
    exact bo (-4) σ σ (by rw [K_feed, if_neg h1, tN, nI_add, if_neg hle]) hK (by rw [M_feed, if_neg h1, tN', nI_add, if_neg hle]) (cX11_feed_ok κ b σ l tN' tl w _) hz
/-! choir: one more -/
theorem zL_add {σ υ : wg_S} {n m j r l kl K : Nat} {ms : List Nat} {tt fd ex : Int32} {D : Nat → Nat} (h : zL σ n m j r l kl ms) (hn : n < 16) (hK : K ≤ 5) (hD : ∀ v, v < 4 → D v ≤ 198 ∧ (K ≠ 5 → D v ≤ 99))
    (hF1 : K = 5 → ∃ x y, x < n ∧ y < n ∧ ex / nI 16 = nI x ∧ ex - ex / nI 16 * nI 16 = nI y ∧ ¬ σ 48 x = nI 5 ∧ ¬ σ 48 y = nI 5 ∧ fd = if σ 4 x < σ 4 y then σ 4 y else σ 4 x) (hF2 : K ≠ 5 → fd = if K = 4 then ex else 0)
    (e1 : υ 1 0 = nI (n + 1)) (e47 : υ 47 0 = nI (n + 1)) (e47' : ∀ f, f ≠ 0 → υ 47 f = σ 47 f) (e2 : υ 2 = upd (σ 2) n (nI K)) (e48 : υ 48 = upd (σ 48) n (nI K)) (e3 : υ 3 = upd (σ 3) n tt) (e49 : υ 49 = upd (σ 49) n tt)
    (e4 : υ 4 = upd (σ 4) n fd) (e51 : υ 51 = upd (σ 51) n ex) (e5 : ∀ c v, c < n → v < 4 → υ 5 (c * 4 + v) = σ 5 (c * 4 + v)) (e5n : ∀ v, v < 4 → υ 5 (n * 4 + v) = nI (D v)) (e50 : ∀ c v, c < n → v < 4 → υ 50 (4 * c + v) = σ 50 (4 * c + v)) (e50n : ∀ v, v < 4 → υ 50 (4 * n + v) = nI (D v))
    (e6 : ∀ c, c ≠ n → υ 6 c = σ 6 c) (e6n : υ 6 n = nI (D 0 + D 1 + D 2 + D 3)) (e7 : υ 7 = upd (σ 7) n (nI 5)) (e52 : υ 52 = upd (σ 52) n (nI 5)) (e8 : υ 8 = upd (σ 8) n (-1)) (e54 : υ 54 = upd (σ 54) n (-1)) (e53 : υ 53 = upd (σ 53) n (-1)) (e55 : υ 55 = upd (σ 55) n (-1)) (e56 : υ 56 = upd (σ 56) n (-1))
    (ep : ∀ p, p = 0 ∨ (8 < p ∧ p < 47) ∨ 56 < p → υ p = σ p) : zL υ (n + 1) m j r l kl ms := by
  obtain ⟨hC, hM, hJ, hT, hU, hB, hO, hH, hDd, hQ, hKC⟩ := h
  obtain ⟨⟨cN, cN', cn⟩, c2, c3, c4, c5, c6, c7, c8, c9, c10, c11⟩ := id hC
  have hK5 : nI K = nI 5 ↔ K = 5 := nI_eq (by omega) (by omega)
  have hK4 : nI K = nI 4 ↔ K = 4 := nI_eq (by omega) (by omega)
  refine ⟨⟨⟨e1, e47, by omega⟩, ?_, ?_, ?_, ?_, ?_, ⟨?_, ?_⟩, ?_, ?_, ?_, ?_⟩, ?_, ?_, ?_, ?_, ?_, ?_, ?_, ?_, ?_, ?_⟩
  · rw [e2, e48]; exact gE_s c2
  · intro c hc
    rw [e48]
    by_cases e : c = n
    · subst e; exact ⟨K, hK, pk_us⟩
    · rw [pk_un e]; exact c3 c (by omega)
  · rw [e3, e49]; exact gE_s c4
  · intro c hc
    rw [e48, e4, e51]
    by_cases e : c = n
    · subst e
      rw [pk_us, pk_us, pk_us]
      refine ⟨fun h5 => ?_, fun h5 => ?_⟩
      case refine_2 =>
        rw [hF2 (fun q => h5 (hK5.mpr q))]
        by_cases h4 : K = 4
        · rw [if_pos h4, if_pos (hK4.mpr h4)]
        · rw [if_neg h4, if_neg (fun q => h4 (hK4.mp q))]
      obtain ⟨x, y, hx, hy, g1, g2, g3, g4, g5⟩ := hF1 (hK5.mp h5)
      refine ⟨x, y, by omega, by omega, g1, g2, ?_, ?_, ?_⟩
      · rw [pk_un (by omega)]; exact g3
      · rw [pk_un (by omega)]; exact g4
      · rw [pk_un (by omega), pk_un (by omega)]; exact g5
    · rw [pk_un e, pk_un e, pk_un e]
      obtain ⟨f1, f2⟩ := c5 c (by omega)
      refine ⟨fun h5 => ?_, f2⟩
      obtain ⟨x, y, hx, hy, g1, g2, g3, g4, g5⟩ := f1 h5
      refine ⟨x, y, by omega, by omega, g1, g2, ?_, ?_, ?_⟩
      · rw [pk_un (by omega)]; exact g3
      · rw [pk_un (by omega)]; exact g4
      · rw [pk_un (by omega), pk_un (by omega)]; exact g5
  · intro c hc v hv
    by_cases e : c = n
    · subst e
      exact ⟨D v, (hD v hv).1, fun h5 => (hD v hv).2 (fun q => h5 (by rw [e48, pk_us, hK5]; exact q)), e50n v hv, e5n v hv⟩
    · rw [e5 c v (by omega) hv, e50 c v (by omega) hv, e48, pk_un e]
      exact c6 c (by omega) v hv
  · intro c hc
    by_cases e : c = n
    · subst e
      rw [show 4 * c = 4 * c + 0 from rfl, e50n 0 (by omega), e50n 1 (by omega), e50n 2 (by omega), e50n 3 (by omega), e6n, nI_add, nI_add, nI_add]
    · have f0 := e50 c 0 (by omega) (by omega)
      rw [Nat.add_zero] at f0
      rw [f0, e50 c 1 (by omega) (by omega), e50 c 2 (by omega) (by omega), e50 c 3 (by omega) (by omega), e6 c e]
      exact c7.1 c (by omega)
  · intro c hc
    rw [e6 c (by omega)]
    exact c7.2 c (by omega)
  · rw [e7, e52]; exact gE_s c8
  · rw [e8, e54]; exact gE_s c9
  · intro c hc
    rw [e54]
    by_cases e : c = n
    · subst e; rw [pk_us]; exact Or.inl rfl
    · rw [pk_un e]; exact c10 c (by omega)
  · rw [ep 0 (by omega), e47' 10 (by decide)]; exact c11
  · unfold zM; simp (discharger := decide) only [ep, e47']; exact hM
  · obtain ⟨j1, j2, j3⟩ := hJ
    refine ⟨?_, ?_, ?_⟩
    · simp (discharger := decide) only [ep, e47']; exact j1
    · simp (discharger := decide) only [ep, e47']; exact j2
    · simp (discharger := decide) only [ep, e47']
      intro i hi c hc
      obtain ⟨x, g1, g2, g3, g4⟩ := j3 i hi c hc
      exact ⟨x, g1, g2, g3, fun q => g4 (by omega)⟩
  · unfold zT; simp (discharger := decide) only [ep, e47']; exact hT
  · unfold zU; simp (discharger := decide) only [ep, e47']; exact hU
  · obtain ⟨b0, b2, b3, b4⟩ := hB
    refine ⟨?_, ?_, ?_, ?_⟩
    · simp (discharger := decide) only [ep, e47']; exact b0
    · rw [ep 30 (by omega), e55]
      intro c hc
      by_cases e : c = n
      · subst e; rw [pk_us]; exact (b4 c (by omega) (by omega)).1
      · rw [pk_un e]; exact b2 c (by omega)
    · rw [ep 31 (by omega), e56]
      intro c hc
      by_cases e : c = n
      · subst e; rw [pk_us]; exact (b4 c (by omega) (by omega)).2
      · rw [pk_un e]; exact b3 c (by omega)
    · rw [ep 30 (by omega), ep 31 (by omega)]
      exact fun c h1 h2 => b4 c (by omega) h2
  · unfold zO; simp (discharger := decide) only [ep, e47']; exact hO
  · unfold zH; simp (discharger := decide) only [ep, e47']; exact hH
  · obtain ⟨d1, d2, d3⟩ := hDd
    refine ⟨?_, ?_, ?_⟩
    · rw [ep 44 (by omega), ep 83 (by omega)]; exact d1
    · rw [ep 45 (by omega), e53]
      intro c hc
      by_cases e : c = n
      · subst e; rw [pk_us]; exact d3 c (by omega) (by omega)
      · rw [pk_un e]; exact d2 c (by omega)
    · rw [ep 45 (by omega)]
      exact fun c h1 h2 => d3 c (by omega) h2
  · obtain ⟨q0, q1, q2, q3, q4⟩ := hQ
    refine ⟨?_, q1, fun c hc => by have := q2 c hc; omega, ?_, ?_⟩
    · simp (discharger := decide) only [ep, e47']; exact q0
    · simp (discharger := decide) only [ep, e47']; exact q3
    · simp (discharger := decide) only [ep, e47']; exact q4
  · unfold KC; simp (discharger := decide) only [ep, e47']; exact hKC
theorem dg_n {S : Nat} (h : S ≤ 99999999) : dgt (nI S) (nI 0) = nI (S / 1000000) ∧ dgt (nI S) (nI 1) = nI (S / 10000 % 100) ∧ dgt (nI S) (nI 2) = nI (S / 100 % 100) ∧ dgt (nI S) (nI 3) = nI (S % 100) := by
  refine ⟨?_, ?_, ?_, ?_⟩
  · rw [dgt, if_pos (show nI 0 = 0 from rfl)]
    exact pk_div (d := 1000000) (by omega) (by omega) (by omega)
  · rw [dgt, if_neg (by decide), if_pos rfl, pk_div (by omega) (by omega) (by omega)]
    exact pk_rem (by omega) (by omega) (by omega)
  · rw [dgt, if_neg (by decide), if_neg (by decide), if_pos rfl, pk_div (by omega) (by omega) (by omega)]
    exact pk_rem (by omega) (by omega) (by omega)
  · rw [dgt, if_neg (by decide), if_neg (by decide), if_neg (by decide)]
    exact pk_rem (by omega) (by omega) (by omega)
theorem told_m {σ : wg_S} {k s x : Int32} (hk : ¬ k = nI 5) : told σ k s x = (wi k (nI 0) (nI 5) && msu k s x) := by
  rw [told, if_neg hk]
  by_cases h1 : wi k (nI 0) (nI 5) = false
  · rw [if_pos h1, h1]; rfl
  rw [if_neg h1, Bool.of_not_eq_false h1, Bool.true_and, msu, if_neg hk, decide_eq_false hk, Bool.false_or]
  by_cases h2 : wi s (nI 1) 99999999 = false
  · rw [if_pos h2, h2]; simp
  rw [if_neg h2, Bool.of_not_eq_false h2, Bool.true_and]
  obtain ⟨S, hS1, hS2, rfl⟩ := wi_n (lo := 1) (hi := 99999999) (by omega) h2 (by omega)
  obtain ⟨d0, d1, d2, d3⟩ := dg_n hS2
  by_cases h4 : k = nI 4
  · rw [if_pos h4, if_pos h4, h4, wi, decide_eq_false (show ¬ nI 4 = nI 1 by decide), decide_eq_false (show ¬ nI 4 = nI 2 by decide)]
    simp only [Bool.not_false, Bool.true_or, Bool.true_and]
    have h43 : nI 4 ≤ x ↔ nI 3 < x := by
      rw [fa_le, fa_lt, show (nI 4).toInt = 4 from rfl, show (nI 3).toInt = 3 from rfl]
      omega
    rw [decide_eq_decide.mpr h43]
    rfl
  · rw [if_neg h4, if_neg h4, d0, d1, d2, d3, nI_add, nI_add]
    have g1 : (!decide (nI 10000 ≤ nI S)) = decide (nI (S / 1000000 + S / 10000 % 100) = 0) := by
      rw [Bool.eq_iff_iff, Bool.not_eq_true', decide_eq_false_iff_not, decide_eq_true_eq, nI_leI (by omega) (by omega), nI_z (by omega)]
      omega
    have g2 : nI S - nI S / nI 10000 * nI 10000 = 0 ↔ nI (S / 100 % 100 + S % 100) = 0 := by
      rw [pk_rem (by omega) (by omega) (by omega), nI_z (by omega), nI_z (by omega)]
      omega
    rw [g1]
    congr 2
    rw [decide_eq_decide.mpr g2]
theorem rm_n {S : Nat} (h : S ≤ 99999999) : rm100 (nI S) = nI (S % 100) ∧ rm100 (nI S / nI 100) = nI (S / 100 % 100) ∧ rm100 (nI S / nI 100 / nI 100) = nI (S / 10000 % 100) ∧ rm100 (nI S / nI 100 / nI 100 / nI 100) = nI (S / 1000000) := by
  have e1 : nI S / nI 100 = nI (S / 100) := pk_div (by omega) (by omega) (by omega)
  have e2 : nI (S / 100) / nI 100 = nI (S / 10000) := by rw [pk_div (by omega) (by omega) (by omega), Nat.div_div_eq_div_mul]
  have e3 : nI (S / 10000) / nI 100 = nI (S / 1000000) := by rw [pk_div (by omega) (by omega) (by omega), Nat.div_div_eq_div_mul]
  rw [e1, e2, e3]
  refine ⟨pk_rem (by omega) (by omega) (by omega), pk_rem (by omega) (by omega) (by omega), pk_rem (by omega) (by omega) (by omega), ?_⟩
  rw [rm100, pk_rem (by omega) (by omega) (by omega)]
  congr 1
  omega
theorem x_neg {x : Int32} (h : x < 0) : x >>> (nI 4 &&& 31) < 0 := by
  rw [lt0_bt] at h ⊢
  rw [b_sshr 4 (by omega) x (by omega), if_neg (by omega)]
  exact h
theorem hs_neg {n x : Int32} (h : x < 0) : hs n x = false := by simp [hs, h]
theorem s_seat_p {σ : wg_S} {c v p : Nat} {x : Int32} (h : p ≠ 5) (h' : p ≠ 6) : s_seat σ c v x p = σ p := by rw [s_seat, us_p h', us_p h]
theorem s_open_p {σ : wg_S} {n p : Nat} {k t d : Int32} (h : p = 0 ∨ 8 < p ∨ p = 5 ∨ p = 6) : s_open σ n k t d p = σ p := by
  unfold s_open
  rw [us_p (by omega), us_p (by omega), us_p (by omega), us_p (by omega), us_p (by omega), us_p (by omega)]
/-- while voices are seated -/
def SE (τ σ : wg_S) (n : Nat) (D : Nat → Nat) (S : List Nat) (acc : Nat) : Prop := (∀ c v, c < n → v < 4 → τ 5 (c * 4 + v) = σ 5 (c * 4 + v)) ∧ (∀ v, v ∈ S → τ 5 (n * 4 + v) = nI (D v)) ∧ (∀ c, c ≠ n → τ 6 c = σ 6 c) ∧ τ 6 n = nI acc
theorem SE_s {τ σ : wg_S} {n v acc : Nat} {D : Nat → Nat} {S : List Nat} {x : Int32} (h : SE τ σ n D S acc) (hv : v < 4) (hx : x = nI (D v)) : SE (s_seat τ n v x) σ n D (v :: S) (acc + D v) := by
  obtain ⟨h1, h2, h3, h4⟩ := h
  have e5 : s_seat τ n v x 5 = upd (τ 5) (n * 4 + v) x := by rw [s_seat, us_p (by decide), us_e]
  have e6 : s_seat τ n v x 6 = upd (τ 6) n (τ 6 n + x) := by rw [s_seat, us_e, us_p (by decide)]
  rw [SE, e5, e6]
  refine ⟨fun c w hc hw => ?_, fun w hw => ?_, fun c hc => ?_, ?_⟩
  · rw [pk_un (by omega)]; exact h1 c w hc hw
  · by_cases e : w = v
    · subst e; rw [pk_us, hx]
    · rw [pk_un (by omega)]
      rcases List.mem_cons.mp hw with hw | hw
      · exact absurd hw e
      · exact h2 w hw
  · rw [pk_un hc]; exact h3 c hc
  · rw [pk_us, h4, hx, nI_add]
def SV (τ σ : wg_S) (n : Nat) (D : Nat → Nat) (S : List Nat) : Prop := (∀ c v, c < n → v < 4 → τ 50 (4 * c + v) = σ 50 (4 * c + v)) ∧ ∀ v, v ∈ S → τ 50 (4 * n + v) = nI (D v)
theorem SV_s {τ σ : wg_S} {n v : Nat} {D : Nat → Nat} {S : List Nat} {x : Int32} (h : SV τ σ n D S) (hv : v < 4) (hx : x = nI (D v)) : SV (us τ 50 (4 * n + v) x) σ n D (v :: S) := by
  obtain ⟨h1, h2⟩ := h
  rw [SV, us_e]
  refine ⟨fun c w hc hw => ?_, fun w hw => ?_⟩
  · rw [pk_un (by omega)]; exact h1 c w hc hw
  · by_cases e : w = v
    · subst e; rw [pk_us, hx]
    · rw [pk_un (by omega)]
      rcases List.mem_cons.mp hw with hw | hw
      · exact absurd hw e
      · exact h2 w hw
theorem s_mce_p {σ : wg_S} {n p : Nat} {x : Int32} (h : p ≠ 47) (h2 : p < 51 ∨ 56 < p) : s_mce σ n x p = σ p := by
  unfold s_mce
  rw [us_p (by omega), us_p (by omega), us_p (by omega), us_p (by omega), us_p (by omega), us_p (by omega), us_p (by omega)]
theorem s_mce_f {σ : wg_S} {n f : Nat} {x : Int32} (h : f ≠ 0) : s_mce σ n x 47 f = σ 47 f := by
  unfold s_mce
  rw [us_k h, us_p (by omega), us_p (by omega), us_p (by omega), us_p (by omega), us_p (by omega), us_p (by omega)]
theorem s_mce_r {σ : wg_S} {n : Nat} {x : Int32} : s_mce σ n x 47 0 = nI (n + 1) ∧ s_mce σ n x 51 = upd (σ 51) n x ∧ s_mce σ n x 52 = upd (σ 52) n (nI 5) ∧ s_mce σ n x 53 = upd (σ 53) n (-1) ∧ s_mce σ n x 54 = upd (σ 54) n (-1) ∧ s_mce σ n x 55 = upd (σ 55) n (-1) ∧ s_mce σ n x 56 = upd (σ 56) n (-1) := ⟨rfl, rfl, rfl, rfl, rfl, rfl, rfl⟩
theorem s_open_r {σ : wg_S} {n : Nat} {k t d : Int32} : s_open σ n k t d 1 0 = nI (n + 1) ∧ s_open σ n k t d 2 = upd (σ 2) n k ∧ s_open σ n k t d 3 = upd (σ 3) n t ∧ s_open σ n k t d 4 = upd (σ 4) n d ∧ s_open σ n k t d 7 = upd (σ 7) n (nI 5) ∧ s_open σ n k t d 8 = upd (σ 8) n (-1) := ⟨rfl, rfl, rfl, rfl, rfl, rfl⟩
theorem MI_fr {σ τ : wg_S} {n m j r : Nat} (h : MI σ n m j r) (hp : ∀ p, 47 ≤ p → τ p = σ p) : MI τ n m j r := by
  unfold MI mtn MX mxa mxb at h ⊢
  rw [hp 47 (by decide), hp 66 (by decide), hp 48 (by decide), hp 51 (by decide)]
  exact h
/-- both sides' new cells make the relation again -/
theorem ch_new {σ τ υ0 υ : wg_S} {n m j r l kl K : Nat} {ms : List Nat} {tt fd ex : Int32} {D : Nat → Nat} (h : zL σ n m j r l kl ms) (hn : n < 16) (hK : K ≤ 5) (hD : ∀ v, v < 4 → D v ≤ 198 ∧ (K ≠ 5 → D v ≤ 99))
    (hF1 : K = 5 → ∃ x y, x < n ∧ y < n ∧ ex / nI 16 = nI x ∧ ex - ex / nI 16 * nI 16 = nI y ∧ ¬ σ 48 x = nI 5 ∧ ¬ σ 48 y = nI 5 ∧ fd = if σ 4 x < σ 4 y then σ 4 y else σ 4 x) (hF2 : K ≠ 5 → fd = if K = 4 then ex else 0)
    (hτ : ∀ p, p ≠ 5 → p ≠ 6 → τ p = s_open σ n (nI K) tt fd p) (hE : SE τ σ n D [0, 1, 2, 3] (D 0 + D 1 + D 2 + D 3)) (hυ0 : ∀ p, p ≠ 50 → υ0 p = us (us τ 48 n (nI K)) 49 n tt p) (hV : SV υ0 σ n D [0, 1, 2, 3]) (hυ : υ = s_mce υ0 n ex) : zL υ (n + 1) m j r l kl ms := by
  subst hυ
  obtain ⟨o1, o2, o3, o4, o7, o8⟩ := s_open_r (σ := σ) (n := n) (k := nI K) (t := tt) (d := fd)
  obtain ⟨f47, f51, f52, f53, f54, f55, f56⟩ := s_mce_r (σ := υ0) (n := n) (x := ex)
  have hi : ∀ p, 8 < p → p ≠ 48 → p ≠ 49 → p ≠ 50 → υ0 p = σ p := fun p h1 h2 h3 h4 => by
    rw [hυ0 p h4, us_p h3, us_p h2, hτ p (by omega) (by omega), s_open_p (by omega)]
  have lo : ∀ p, p < 47 → υ0 p = τ p := fun p h1 => by rw [hυ0 p (by omega), us_p (by omega), us_p (by omega)]
  have g48 : υ0 48 = upd (σ 48) n (nI K) := by rw [hυ0 48 (by decide), us_p (by decide), us_e, hτ 48 (by decide) (by decide), s_open_p (by omega)]
  have g49 : υ0 49 = upd (σ 49) n tt := by rw [hυ0 49 (by decide), us_e, us_p (by decide), hτ 49 (by decide) (by decide), s_open_p (by omega)]
  have sl : ∀ p, p < 47 → s_mce υ0 n ex p = τ p := fun p h1 => by rw [s_mce_p (by omega) (by omega), lo p h1]
  have mem : ∀ v, v < 4 → v ∈ [0, 1, 2, 3] := fun v hv => by simp; omega
  refine zL_add (tt := tt) h hn hK hD hF1 hF2 ?_ f47 ?_ ?_ ?_ ?_ ?_ ?_ ?_ ?_ ?_ ?_ ?_ ?_ ?_ ?_ ?_ ?_ ?_ ?_ ?_ ?_ ?_
  · rw [sl 1 (by decide), hτ 1 (by decide) (by decide)]; exact o1
  · intro f hf
    rw [s_mce_f hf, hi 47 (by decide) (by decide) (by decide) (by decide)]
  · rw [sl 2 (by decide), hτ 2 (by decide) (by decide)]; exact o2
  · rw [s_mce_p (by decide) (by decide)]; exact g48
  · rw [sl 3 (by decide), hτ 3 (by decide) (by decide)]; exact o3
  · rw [s_mce_p (by decide) (by decide)]; exact g49
  · rw [sl 4 (by decide), hτ 4 (by decide) (by decide)]; exact o4
  · rw [f51, hi 51 (by decide) (by decide) (by decide) (by decide)]
  · rw [sl 5 (by decide)]; exact hE.1
  · rw [sl 5 (by decide)]; exact fun v hv => hE.2.1 v (mem v hv)
  · rw [s_mce_p (by decide) (by decide)]; exact hV.1
  · rw [s_mce_p (by decide) (by decide)]; exact fun v hv => hV.2 v (mem v hv)
  · rw [sl 6 (by decide)]; exact hE.2.2.1
  · rw [sl 6 (by decide)]; exact hE.2.2.2
  · rw [sl 7 (by decide), hτ 7 (by decide) (by decide)]; exact o7
  · rw [f52, hi 52 (by decide) (by decide) (by decide) (by decide)]
  · rw [sl 8 (by decide), hτ 8 (by decide) (by decide)]; exact o8
  · rw [f54, hi 54 (by decide) (by decide) (by decide) (by decide)]
  · rw [f53, hi 53 (by decide) (by decide) (by decide) (by decide)]
  · rw [f55, hi 55 (by decide) (by decide) (by decide) (by decide)]
  · rw [f56, hi 56 (by decide) (by decide) (by decide) (by decide)]
  · intro p hp
    by_cases h1 : p < 47
    · rw [sl p h1, hτ p (by omega) (by omega), s_open_p (by omega)]
    · rw [s_mce_p (by omega) (by omega), hi p (by omega) (by omega) (by omega) (by omega)]
theorem B_choir (κ : gm_K) (k t s x : Int32) : Both κ mX10_choir mX11_choir [.int k, .int t, .int s, .int x] := by
  refine both_fn (fun b σ n m j r l kl ms h => ?_)
  have hci := h.ci
  have hmi := h.mi
  have hz : zS σ := ⟨n, m, j, r, l, kl, ms, h⟩
  have hzl := id h
  obtain ⟨hC, hM, hJ, hT, hU, hB, hO, hH, hD, hQ, hKC⟩ := h
  obtain ⟨⟨cN, cN', cn⟩, c2, c3, c4, c5, c6, c7, c8, c9, c10, c11⟩ := id hC
  obtain ⟨⟨mN, mN', mn⟩, m2, m3, m4, m5⟩ := id hM
  obtain ⟨⟨jN, jN', jn⟩, j2, j3⟩ := id hJ
  obtain ⟨⟨tN, tN', tl⟩, t2⟩ := id hT
  obtain ⟨⟨uN, uN', un⟩, u2⟩ := id hU
  obtain ⟨⟨b0, b1, wd0, wd1, wd2⟩, b2, b3, b4⟩ := id hB
  obtain ⟨⟨oN, oN', on⟩, o2⟩ := id hO
  have hK := cX10_choir_ok κ b σ n m j r hci k t s x
  by_cases h1 : hs (nI 8) t = false
  · exact bo (-1) σ σ (by rw [K_choir, if_pos h1]) hK (by rw [M_choir, if_pos h1]) (cX11_choir_ok κ b σ n m j r hmi k t s x) hz
  have h16 : n = 16 ∨ n < 16 := by omega
  have hn16 : ¬ n = 16 → nI n < nI 16 := fun q => (nI_ltI (by omega) (by omega)).mpr (by omega)
  have hm16 : ¬ n = 16 → ¬ nI n = nI 16 := fun q z => q ((nI_eq (by omega) (by omega)).mp z)
  by_cases h5 : k = nI 5
  · subst h5
    by_cases hx : x < 0
    · exact bo (-1) σ σ (by rw [K_choir, if_neg h1, if_pos ⟨rfl, by rw [hs_neg (x_neg hx)]; rfl⟩]) hK (by rw [M_choir, if_neg h1, if_pos ⟨rfl, Or.inl hx⟩]) (cX11_choir_ok κ b σ n m j r hmi _ t s x) hz
    obtain ⟨u, hu, rfl⟩ := nI_of hx
    have ep : nI u >>> (nI 4 &&& 31) = nI (u / 16) := pk_shrN hu _ 4 (s_l 4 (by omega))
    have eq : nI u &&& nI 15 = nI (u % 16) := pk_andN (by omega) 4 (by decide)
    have ep' : nI u / nI 16 = nI (u / 16) := pk_div hu (by omega) (by omega)
    have eq' : rm16 (nI u) = nI (u % 16) := pk_rem hu (by omega) (by omega)
    have eq2 : nI u - nI u / nI 16 * nI 16 = nI (u % 16) := pk_rem hu (by omega) (by omega)
    by_cases h2 : (hs (nI n) (nI (u / 16)) && hs (nI n) (nI (u % 16))) = false
    · have h2' := Bool.and_eq_false_iff.mp h2
      exact bo (-1) σ σ (by rw [K_choir, if_neg h1, cN, ep, eq, if_pos ⟨rfl, h2⟩]) hK (by rw [M_choir, if_neg h1, cN', ep', eq', if_pos ⟨rfl, Or.inr h2'⟩]) (cX11_choir_ok κ b σ n m j r hmi _ t s _) hz
    have h2' := Bool.of_not_eq_false h2
    rw [Bool.and_eq_true] at h2'
    have hP : u / 16 < n := by
      obtain ⟨y, hy, e⟩ := hs_ix (by omega) h2'.1
      have := (nI_eq (by omega) (by omega)).mp e
      omega
    have hQ' : u % 16 < n := by
      obtain ⟨y, hy, e⟩ := hs_ix (by omega) h2'.2
      have := (nI_eq (by omega) (by omega)).mp e
      omega
    have eP := nI_clamp (show u / 16 < 2 ^ 31 by omega)
    have eQ := nI_clamp (show u % 16 < 2 ^ 31 by omega)
    have hc1 : ∀ A : wg_S → Prop, ¬ (nI 5 = nI 5 ∧ (hs (nI n) (nI (u / 16)) && hs (nI n) (nI (u % 16))) = false) := fun _ q => h2 q.2
    have hc2 : ¬ (nI 5 = nI 5 ∧ (nI u < 0 ∨ hs (nI n) (nI (u / 16)) = false ∨ hs (nI n) (nI (u % 16)) = false)) := by
      rintro ⟨-, q | q | q⟩
      · exact hx q
      · rw [h2'.1] at q; exact absurd q (by decide)
      · rw [h2'.2] at q; exact absurd q (by decide)
    by_cases h3 : s = 0
    · subst h3
      have em : msu (nI 5) 0 (nI u) = true := by rw [msu, if_pos rfl]; simp +decide
      have et : told σ (nI 5) 0 (nI u) = (!decide (nI (u / 16) = nI (u % 16)) && !decide (σ 48 (u / 16) = nI 5) && !decide (σ 48 (u % 16) = nI 5)) := by
        rw [told, if_pos rfl, ep, eq, cj, cN, h2'.1, h2'.2, eP, eQ, c2 _ hP, c2 _ hQ']
        simp
      by_cases h4 : nI (u / 16) = nI (u % 16) ∨ σ 48 (u / 16) = nI 5 ∨ σ 48 (u % 16) = nI 5
      · refine bo (-2) σ σ ?_ hK ?_ (cX11_choir_ok κ b σ n m j r hmi _ t _ _) hz
        · rw [K_choir, if_neg h1, cN, ep, eq, if_neg (hc1 (fun _ => True)), et, if_pos (by rcases h4 with q | q | q <;> simp [q])]
        · rw [M_choir, if_neg h1, cN', ep', eq', if_neg hc2, if_neg (by decide), em, if_neg (by decide), eP, eQ, if_pos ⟨rfl, h4⟩]
      have h4a : ¬ nI (u / 16) = nI (u % 16) := fun q => h4 (Or.inl q)
      have h4b : ¬ σ 48 (u / 16) = nI 5 := fun q => h4 (Or.inr (Or.inl q))
      have h4c : ¬ σ 48 (u % 16) = nI 5 := fun q => h4 (Or.inr (Or.inr q))
      have et' : told σ (nI 5) 0 (nI u) = true := by rw [et, decide_eq_false h4a, decide_eq_false h4b, decide_eq_false h4c]; rfl
      by_cases h6 : n = 16
      · refine bo (-4) σ σ ?_ hK ?_ (cX11_choir_ok κ b σ n m j r hmi _ t _ _) hz
        · rw [K_choir, if_neg h1, cN, ep, eq, if_neg (hc1 (fun _ => True)), et', if_neg (by decide), if_pos (by rw [h6]; decide)]
        · rw [M_choir, if_neg h1, cN', ep', eq', if_neg hc2, if_neg (by decide), em, if_neg (by decide), eP, eQ, if_neg (fun q => h4 q.2), if_pos (by rw [h6])]
      have hjs : ∀ p, p ≠ 5 → p ≠ 6 → s_join σ n (u / 16) (u % 16) p = s_open σ n (nI 5) (σ 3 (u / 16)) (if σ 4 (u / 16) < σ 4 (u % 16) then σ 4 (u % 16) else σ 4 (u / 16)) p := fun p h7 h8 => by
        rw [s_join, js, s_seat_p h7 h8, js, s_seat_p h7 h8, js, s_seat_p h7 h8, js, s_seat_p h7 h8]
      have hhi : ∀ p, 47 ≤ p → s_join σ n (u / 16) (u % 16) p = σ p := fun p hp => by rw [hjs p (by omega) (by omega), s_open_p (by omega)]
      have hDx : ∀ c, c < n → ¬ σ 48 c = nI 5 → ∃ d : Nat → Nat, ∀ v, v < 4 → d v ≤ 99 ∧ σ 5 (c * 4 + v) = nI (d v) ∧ σ 50 (4 * c + v) = nI (d v) := fun c hc h5 => by
        refine ⟨fun v => (σ 50 (4 * c + v)).toNatClampNeg, fun v hv => ?_⟩
        obtain ⟨y, hy, hy2, g1, g2⟩ := c6 c hc v hv
        have := hy2 h5
        show (σ 50 (4 * c + v)).toNatClampNeg ≤ 99 ∧ σ 5 (c * 4 + v) = nI (σ 50 (4 * c + v)).toNatClampNeg ∧ σ 50 (4 * c + v) = nI (σ 50 (4 * c + v)).toNatClampNeg
        rw [g1, g2, nI_clamp (by omega)]
        exact ⟨this, rfl, rfl⟩
      obtain ⟨d1, hd1⟩ := hDx _ hP h4b
      obtain ⟨d2, hd2⟩ := hDx _ hQ' h4c
      have hSE0 : SE (s_open σ n (nI 5) (σ 3 (u / 16)) (if σ 4 (u / 16) < σ 4 (u % 16) then σ 4 (u % 16) else σ 4 (u / 16))) σ n (fun v => d1 v + d2 v) [] 0 := by
        rw [SE, s_open_p (p := 5) (by omega), s_open_p (p := 6) (by omega)]
        exact ⟨fun c v _ _ => rfl, fun v hv => absurd hv List.not_mem_nil, fun c _ => rfl, c7.2 n (Nat.le_refl _)⟩
      have hstep : ∀ (τ : wg_S) (S : List Nat) (acc v : Nat), SE τ σ n (fun v => d1 v + d2 v) S acc → v < 4 → SE (js τ n (u / 16) (u % 16) v) σ n (fun v => d1 v + d2 v) (v :: S) (acc + (d1 v + d2 v)) := fun τ S acc v hS hv => by
        rw [js]
        refine SE_s hS hv ?_
        rw [hS.1 _ v hP hv, hS.1 _ v hQ' hv, (hd1 v hv).2.1, (hd2 v hv).2.1, nI_add]
      have hSE : SE (s_join σ n (u / 16) (u % 16)) σ n (fun v => d1 v + d2 v) [3, 2, 1, 0] (0 + (d1 0 + d2 0) + (d1 1 + d2 1) + (d1 2 + d2 2) + (d1 3 + d2 3)) := by
        rw [s_join]
        exact hstep _ _ _ 3 (hstep _ _ _ 2 (hstep _ _ _ 1 (hstep _ _ _ 0 hSE0 (by omega)) (by omega)) (by omega)) (by omega)
      generalize hτ : s_join σ n (u / 16) (u % 16) = τ at hjs hhi hSE
      have hSV0 : SV (us (us τ 48 n (nI 5)) 49 n (us τ 48 n (nI 5) 49 (u / 16))) σ n (fun v => d1 v + d2 v) [] := by
        rw [SV, us_p (by decide), us_p (by decide), hhi 50 (by decide)]
        exact ⟨fun c v _ _ => rfl, fun v hv => absurd hv List.not_mem_nil⟩
      have hstepV : ∀ (υ : wg_S) (S : List Nat) (v : Nat), SV υ σ n (fun v => d1 v + d2 v) S → v < 4 → SV (mjs υ n (u / 16) (u % 16) v) σ n (fun v => d1 v + d2 v) (v :: S) := fun υ S v hS hv => by
        rw [mjs]
        refine SV_s hS hv ?_
        rw [hS.1 _ v hP hv, hS.1 _ v hQ' hv, (hd1 v hv).2.2, (hd2 v hv).2.2, nI_add]
      have hSV := hstepV _ _ 3 (hstepV _ _ 2 (hstepV _ _ 1 (hstepV _ _ 0 hSV0 (by omega)) (by omega)) (by omega)) (by omega)
      have hgz : zL (s_mjo τ n (u / 16) (u % 16) (nI u)) (n + 1) m j r l kl ms := by
        refine ch_new (σ := σ) (τ := τ) (υ0 := mjs (mjs (mjs (mjs (us (us τ 48 n (nI 5)) 49 n (us τ 48 n (nI 5) 49 (u / 16))) n (u / 16) (u % 16) 0) n (u / 16) (u % 16) 1) n (u / 16) (u % 16) 2) n (u / 16) (u % 16) 3) (K := 5) (tt := σ 3 (u / 16)) (fd := if σ 4 (u / 16) < σ 4 (u % 16) then σ 4 (u % 16) else σ 4 (u / 16)) (ex := nI u) (D := fun v => d1 v + d2 v) hzl (by omega) (by omega) (fun v hv => ?_) (fun _ => ⟨u / 16, u % 16, hP, hQ', ep', eq2, h4b, h4c, rfl⟩) (fun q => absurd rfl q) hjs ?_ ?_ ?_ rfl
        · have a1 := (hd1 v hv).1
          have a2 := (hd2 v hv).1
          show d1 v + d2 v ≤ 198 ∧ _
          exact ⟨by omega, fun q => absurd rfl q⟩
        · obtain ⟨g1, g2, g3, g4⟩ := hSE
          refine ⟨g1, fun v hv => g2 v (by simp at hv ⊢; omega), g3, ?_⟩
          rw [g4, Nat.zero_add]
        · intro p hp
          have e49 : us τ 48 n (nI 5) 49 (u / 16) = σ 3 (u / 16) := by rw [us_p (by decide), hhi 49 (by decide), c4 _ hP]
          rw [mjs, us_p hp, mjs, us_p hp, mjs, us_p hp, mjs, us_p hp, e49]
        · obtain ⟨g1, g2⟩ := hSV
          exact ⟨g1, fun v hv => g2 v (by simp at hv ⊢; omega)⟩
      refine bo (nI n) τ (s_mjo τ n (u / 16) (u % 16) (nI u)) ?_ hK ?_ (cX11_choir_ok κ b τ n m j r (MI_fr hmi hhi) _ t _ _) ⟨n + 1, m, j, r, l, kl, ms, hgz⟩
      · rw [K_choir, if_neg h1, cN, ep, eq, if_neg (hc1 (fun _ => True)), et', if_neg (by decide), if_neg (fun q => q (hn16 h6)), if_pos rfl, eP, eQ, hτ]
      · rw [M_choir, if_neg h1, hhi 47 (by decide), hhi 48 (by decide), cN', ep', eq', if_neg hc2, if_neg (by decide), em, if_neg (by decide), eP, eQ, if_neg (fun q => h4 q.2), if_neg (hm16 h6), if_pos rfl]
    · refine bo (-2) σ σ ?_ hK ?_ (cX11_choir_ok κ b σ n m j r hmi _ t _ _) hz
      · rw [K_choir, if_neg h1, cN, ep, eq, if_neg (hc1 (fun _ => True)), if_pos (by rw [told, if_pos rfl, decide_eq_false h3]; rfl)]
      · rw [M_choir, if_neg h1, cN', ep', eq', if_neg hc2, if_neg (by decide), if_pos (by rw [msu, if_pos rfl, decide_eq_false h3]; rfl)]
  · have hk1 : ¬ (k = nI 5 ∧ (hs (nI n) (x >>> (nI 4 &&& 31)) && hs (nI n) (x &&& nI 15)) = false) := fun q => h5 q.1
    have hk2 : ∀ A : Prop, ¬ (k = nI 5 ∧ A) := fun _ q => h5 q.1
    by_cases h2 : wi k (nI 0) (nI 5) = false
    · exact bo (-2) σ σ (by rw [K_choir, if_neg h1, cN, if_neg hk1, told_m h5, h2, if_pos (by rfl)]) hK (by rw [M_choir, if_neg h1, if_neg (hk2 _), if_pos h2]) (cX11_choir_ok κ b σ n m j r hmi _ t _ _) hz
    by_cases h3 : msu k s x = false
    · exact bo (-2) σ σ (by rw [K_choir, if_neg h1, cN, if_neg hk1, told_m h5, h3, if_pos (Bool.and_false _)]) hK (by rw [M_choir, if_neg h1, if_neg (hk2 _), if_neg h2, if_pos h3]) (cX11_choir_ok κ b σ n m j r hmi _ t _ _) hz
    have et : told σ k s x = true := by rw [told_m h5, Bool.of_not_eq_false h2, Bool.of_not_eq_false h3]; rfl
    by_cases h6 : n = 16
    · exact bo (-4) σ σ (by rw [K_choir, if_neg h1, cN, if_neg hk1, et, if_neg (by decide), if_pos (by rw [h6]; decide)]) hK (by rw [M_choir, if_neg h1, if_neg (hk2 _), if_neg h2, if_neg h3, if_neg (hk2 _), cN', if_pos (by rw [h6])]) (cX11_choir_ok κ b σ n m j r hmi _ t _ _) hz
    obtain ⟨K, -, hK5, rfl⟩ := wi_n (by omega) h2 (by omega)
    have hms := Bool.of_not_eq_false h3
    rw [msu, if_neg h5, decide_eq_false h5, Bool.false_or, Bool.and_eq_true, Bool.and_eq_true, Bool.and_eq_true] at hms
    obtain ⟨⟨⟨hms1, -⟩, -⟩, hms4⟩ := hms
    obtain ⟨S, hS1, hS2, rfl⟩ := wi_n (lo := 1) (hi := 99999999) (by omega) (show ¬ wi s (nI 1) 99999999 = false by rw [hms1]; decide) (by omega)
    obtain ⟨d0, d1, d2, d3⟩ := dg_n hS2
    obtain ⟨r3, r2, r1, r0⟩ := rm_n hS2
    have hK5' : K ≠ 5 := fun q => h5 (by rw [q])
    have hfd : K ≠ 5 → x = if K = 4 then x else 0 := fun _ => by
      by_cases h4 : K = 4
      · rw [if_pos h4]
      · rw [if_neg h4]
        rw [if_neg (fun q => h4 ((nI_eq (by omega) (by omega)).mp q)), decide_eq_true_eq] at hms4
        exact hms4
    have hD : ∃ D : Nat → Nat, D 0 = S / 1000000 ∧ D 1 = S / 10000 % 100 ∧ D 2 = S / 100 % 100 ∧ D 3 = S % 100 := ⟨fun v => if v = 0 then S / 1000000 else if v = 1 then S / 10000 % 100 else if v = 2 then S / 100 % 100 else S % 100, rfl, rfl, rfl, rfl⟩
    obtain ⟨D, D0, D1, D2, D3⟩ := hD
    have hSE0 : SE (s_open σ n (nI K) t x) σ n D [] 0 := by
      rw [SE, s_open_p (p := 5) (by omega), s_open_p (p := 6) (by omega)]
      exact ⟨fun c v _ _ => rfl, fun v hv => absurd hv List.not_mem_nil, fun c _ => rfl, c7.2 n (Nat.le_refl _)⟩
    have hSE : SE (s_add σ n (nI K) t (nI S) x) σ n D [0, 1, 2, 3] (0 + D 3 + D 2 + D 1 + D 0) := by
      rw [s_add]
      exact SE_s (SE_s (SE_s (SE_s hSE0 (by omega) (by rw [r3, D3])) (by omega) (by rw [r2, D2])) (by omega) (by rw [r1, D1])) (by omega) (by rw [r0, D0])
    have hjs : ∀ p, p ≠ 5 → p ≠ 6 → s_add σ n (nI K) t (nI S) x p = s_open σ n (nI K) t x p := fun p h7 h8 => by
      rw [s_add, s_seat_p h7 h8, s_seat_p h7 h8, s_seat_p h7 h8, s_seat_p h7 h8]
    have hhi : ∀ p, 47 ≤ p → s_add σ n (nI K) t (nI S) x p = σ p := fun p hp => by rw [hjs p (by omega) (by omega), s_open_p (by omega)]
    generalize hτ : s_add σ n (nI K) t (nI S) x = τ at hjs hhi hSE
    have hSV0 : SV (us (us τ 48 n (nI K)) 49 n t) σ n D [] := by
      rw [SV, us_p (by decide), us_p (by decide), hhi 50 (by decide)]
      exact ⟨fun c v _ _ => rfl, fun v hv => absurd hv List.not_mem_nil⟩
    have hSV : SV (mds (mds (mds (mds (us (us τ 48 n (nI K)) 49 n t) n (nI S) 0) n (nI S) 1) n (nI S) 2) n (nI S) 3) σ n D [3, 2, 1, 0] := by
      rw [mds, mds, mds, mds]
      exact SV_s (SV_s (SV_s (SV_s hSV0 (by omega) (by rw [d0, D0])) (by omega) (by rw [d1, D1])) (by omega) (by rw [d2, D2])) (by omega) (by rw [d3, D3])
    have hgz : zL (s_mad τ n (nI K) t (nI S) x) (n + 1) m j r l kl ms := by
      refine ch_new (σ := σ) (τ := τ) (υ0 := mds (mds (mds (mds (us (us τ 48 n (nI K)) 49 n t) n (nI S) 0) n (nI S) 1) n (nI S) 2) n (nI S) 3) (K := K) (tt := t) (fd := x) (ex := x) (D := D) hzl (by omega) (by omega) (fun v hv => ?_) (fun q => absurd q hK5') hfd hjs ?_ ?_ ?_ rfl
      · have : v = 0 ∨ v = 1 ∨ v = 2 ∨ v = 3 := by omega
        rcases this with rfl | rfl | rfl | rfl
        · rw [D0]; exact ⟨by omega, fun _ => by omega⟩
        · rw [D1]; exact ⟨by omega, fun _ => by omega⟩
        · rw [D2]; exact ⟨by omega, fun _ => by omega⟩
        · rw [D3]; exact ⟨by omega, fun _ => by omega⟩
      · obtain ⟨g1, g2, g3, g4⟩ := hSE
        refine ⟨g1, g2, g3, ?_⟩
        rw [g4]
        congr 1
        omega
      · intro p hp
        rw [mds, us_p hp, mds, us_p hp, mds, us_p hp, mds, us_p hp]
      · obtain ⟨g1, g2⟩ := hSV
        exact ⟨g1, fun v hv => g2 v (by simp at hv ⊢; omega)⟩
    refine bo (nI n) τ (s_mad τ n (nI K) t (nI S) x) ?_ hK ?_ (cX11_choir_ok κ b τ n m j r (MI_fr hmi hhi) _ t _ _) ⟨n + 1, m, j, r, l, kl, ms, hgz⟩
    · rw [K_choir, if_neg h1, cN, if_neg hk1, et, if_neg (by decide), if_neg (fun q => q (hn16 h6)), if_neg h5, hτ]
    · rw [M_choir, if_neg h1, if_neg (hk2 _), if_neg h2, if_neg h3, if_neg (hk2 _), hhi 47 (by decide), cN', if_neg (hm16 h6), if_neg h5]
