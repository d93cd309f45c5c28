theorem bo {κ : gm_K} {μ₁ μ₂ : gm_M} {a₁ a₂ : List Value} {b : Bool} {σ : wg_S} {K M : Int32 × wg_S} (x : Int32) (τ υ : wg_S) (eK : K = (x, τ)) (hK : Fn κ μ₁ a₁ (gg b) σ (some (.int K.1)) (gg b) K.2) (eM : M = (x, υ)) (hM : Fn κ μ₂ a₂ (gg b) τ (some (.int M.1)) (gg b) M.2) (h : zS υ) : ∃ (x : Int32) (τ υ : wg_S), Fn κ μ₁ a₁ (gg b) σ (some (.int x)) (gg b) τ ∧ Fn κ μ₂ a₂ (gg b) τ (some (.int x)) (gg b) υ ∧ zS υ := by
  subst eK
  subst eM
  exact ⟨x, τ, υ, hK, hM, h⟩
/-- calls that change nothing -/
theorem bq {κ : gm_K} {μ₁ μ₂ : gm_M} {a₁ a₂ : List Value} {b : Bool} {σ : wg_S} {K M : Int32} (e : K = M) (hK : Fn κ μ₁ a₁ (gg b) σ (some (.int K)) (gg b) σ) (hM : Fn κ μ₂ a₂ (gg b) σ (some (.int M)) (gg b) σ) (h : zS σ) : ∃ (x : Int32) (τ υ : wg_S), Fn κ μ₁ a₁ (gg b) σ (some (.int x)) (gg b) τ ∧ Fn κ μ₂ a₂ (gg b) τ (some (.int x)) (gg b) υ ∧ zS υ := by
  subst e
  exact ⟨K, σ, σ, hK, hM, h⟩
theorem gE_u {n i : Nat} {f g : Nat → Int32} {v : Int32} (h : gE n f g) : gE n (upd f i v) (upd g i v) := by
  intro c hc
  by_cases e : c = i
  · subst e; rw [pk_us, pk_us]
  · rw [pk_un e, pk_un e]; exact h c hc
theorem gE_s {n : Nat} {f g : Nat → Int32} {v : Int32} (h : gE n f g) : gE (n + 1) (upd f n v) (upd g n v) := by
  intro c hc
  by_cases e : c = n
  · subst e; rw [pk_us, pk_us]
  · rw [pk_un e, pk_un e]; exact h c (by omega)
theorem gE_s2 {n : Nat} {f g : Nat → Int32} {v w : Int32} (h : gE n f g) (hv : v = w) : gE (n + 1) (upd f n v) (upd g n w) := by subst hv; exact gE_s h
theorem up_lt {n i c : Nat} {f : Nat → Int32} {v : Int32} (h : c < i) : upd f i v c = f c := pk_un (by omega)
theorem wi_t {x lo hi : Int32} (h : ¬ wi x lo hi = false) : lo ≤ x ∧ x ≤ hi := by
  have h1 : wi x lo hi = true := Bool.of_not_eq_false h
  rw [wi, Bool.and_eq_true, Bool.not_eq_true', Bool.not_eq_true', decide_eq_false_iff_not, decide_eq_false_iff_not] at h1
  exact ⟨fa_of_nlt h1.1, fa_of_nlt h1.2⟩
theorem wi_n {x : Int32} {lo hi : Nat} (hl : hi < 2 ^ 31) (h : ¬ wi x (nI lo) (nI hi) = false) (h2 : lo < 2 ^ 31) : ∃ y, lo ≤ y ∧ y ≤ hi ∧ x = nI y := by
  obtain ⟨h3, h4⟩ := wi_t h
  rw [fa_le, nI_toInt h2] at h3
  rw [fa_le, nI_toInt hl] at h4
  have h5 : ¬ x < 0 := by rw [fa_lt, show (0 : Int32).toInt = 0 from rfl]; omega
  obtain ⟨y, hy, rfl⟩ := nI_of h5
  rw [nI_toInt hy] at h3 h4
  exact ⟨y, by omega, by omega, rfl⟩
theorem hs_t {n : Nat} {c : Int32} (hn : n < 2 ^ 31) (h : ¬ hs (nI n) c = false) : ∃ j, j < n ∧ c = nI j := hs_ix hn (Bool.of_not_eq_false h)
theorem B_day (κ : gm_K) (d : Int32) : Both κ mX10_day mX11_day [.int d] := by
  refine both_fn (fun b σ n m j r l kl ms h => ?_)
  have hci := h.ci
  have hmi := h.mi
  have hz : zS σ := ⟨n, m, j, r, l, kl, ms, h⟩
  obtain ⟨hC, hM, hJ, hT, hU, hB, hO, hH, hD, hQ, hKC⟩ := h
  obtain ⟨⟨cN, cN', cn⟩, c2, c3, c4, c5, c6, c7, c8, c9, c10, c11⟩ := id hC
  obtain ⟨⟨mN, mN', mn⟩, m2, m3, m4, m5⟩ := id hM
  obtain ⟨⟨jN, jN', jn⟩, j2, j3⟩ := id hJ
  obtain ⟨⟨tN, tN', tl⟩, t2⟩ := id hT
  obtain ⟨⟨uN, uN', un⟩, u2⟩ := id hU
  obtain ⟨⟨b0, b1, wd0, wd1, wd2⟩, b2, b3, b4⟩ := id hB
  obtain ⟨⟨oN, oN', on⟩, o2⟩ := id hO
  have hK := cX10_day_ok κ b σ d
  obtain ⟨e0, d0, hd0, hd1⟩ := id c11
  have hwi : wi d (σ 47 10) (nI 3) = (!decide (d < σ 0 10) && decide (d < nI 4)) := by
    rw [wi, e0]
    congr 1
    rw [Bool.eq_iff_iff, Bool.not_eq_true', decide_eq_false_iff_not, decide_eq_true_eq, fa_lt, fa_lt, show (nI 3).toInt = 3 from rfl, show (nI 4).toInt = 4 from rfl]
    omega
  by_cases h1 : d < σ 0 10
  · exact bo (-2) σ σ (by rw [K_day, if_pos h1]) hK (by rw [M_day, hwi, if_pos (by simp [h1])]) (cX11_day_ok κ b σ d) hz
  by_cases h2 : d < nI 4
  · refine bo (σ 0 10) (us σ 0 10 d) (us (us σ 0 10 d) 47 10 d) (by rw [K_day, if_neg h1, if_pos h2]) hK (by rw [M_day, show us σ 0 10 d 47 10 = σ 47 10 from rfl, hwi, if_neg (by simp [h1, h2]), e0]) (cX11_day_ok κ b (us σ 0 10 d) d) ⟨n, m, j, r, l, kl, ms, ⟨⟨cN, cN', cn⟩, c2, c3, c4, c5, c6, c7, c8, c9, c10, ?_⟩, hM, hJ, hT, hU, hB, hO, hH, hD, hQ, hKC⟩
    have h3 : ¬ d < 0 := by
      rw [e0, hd1] at h1
      rw [fa_lt, nI_toInt (by omega)] at h1
      rw [fa_lt, show (0 : Int32).toInt = 0 from rfl]
      omega
    obtain ⟨y, hy, rfl⟩ := nI_of h3
    exact ⟨rfl, y, by have := (nI_ltI hy (by omega)).mp h2; omega, rfl⟩
  · exact bo (-2) σ σ (by rw [K_day, if_neg h1, if_neg h2]) hK (by rw [M_day, hwi, if_pos (by simp [h2])]) (cX11_day_ok κ b σ d) hz
theorem B_song (κ : gm_K) (k v h q : Int32) : Both κ mX10_song mX11_song [.int k, .int v, .int h, .int q] := by
  refine both_fn (fun b σ n m j r l kl ms h => ?_)
  have hci := h.ci
  have hmi := h.mi
  have hz : zS σ := ⟨n, m, j, r, l, kl, ms, h⟩
  obtain ⟨hC, hM, hJ, hT, hU, hB, hO, hH, hD, hQ, hKC⟩ := h
  obtain ⟨⟨cN, cN', cn⟩, c2, c3, c4, c5, c6, c7, c8, c9, c10, c11⟩ := id hC
  obtain ⟨⟨mN, mN', mn⟩, m2, m3, m4, m5⟩ := id hM
  obtain ⟨⟨jN, jN', jn⟩, j2, j3⟩ := id hJ
  obtain ⟨⟨tN, tN', tl⟩, t2⟩ := id hT
  obtain ⟨⟨uN, uN', un⟩, u2⟩ := id hU
  obtain ⟨⟨b0, b1, wd0, wd1, wd2⟩, b2, b3, b4⟩ := id hB
  obtain ⟨⟨oN, oN', on⟩, o2⟩ := id hO
  have hK := cX10_song_ok κ b σ n m j r hci k v h q
  by_cases h1 : wi k (nI 1) (nI 63) = false
  · exact bo (-2) σ σ (by rw [K_song, if_pos h1]) hK (by rw [M_song, if_pos h1]) (cX11_song_ok κ b σ n m j r hmi k v h q) hz
  by_cases h2 : wi v (nI 1) (nI 15) = false
  · exact bo (-2) σ σ (by rw [K_song, if_neg h1, if_pos h2]) hK (by rw [M_song, if_neg h1, if_pos h2]) (cX11_song_ok κ b σ n m j r hmi k v h q) hz
  by_cases h3 : wi h (nI 0) (nI 9) = false
  · exact bo (-2) σ σ (by rw [K_song, if_neg h1, if_neg h2, if_pos h3]) hK (by rw [M_song, if_neg h1, if_neg h2, if_pos h3]) (cX11_song_ok κ b σ n m j r hmi k v h q) hz
  by_cases h4 : wi q (nI 1) (nI 30) = false
  · exact bo (-2) σ σ (by rw [K_song, if_neg h1, if_neg h2, if_neg h3, if_pos h4]) hK (by rw [M_song, if_neg h1, if_neg h2, if_neg h3, if_pos h4]) (cX11_song_ok κ b σ n m j r hmi k v h q) hz
  by_cases h5 : m = 9
  · exact bo (-4) σ σ (by rw [K_song, if_neg h1, if_neg h2, if_neg h3, if_neg h4, mN, h5, if_neg (by decide)]) hK (by rw [M_song, if_neg h1, if_neg h2, if_neg h3, if_neg h4, mN', h5, if_pos rfl]) (cX11_song_ok κ b σ n m j r hmi k v h q) hz
  obtain ⟨y, -, hy, rfl⟩ := wi_n (by omega) h2 (by omega)
  have e : us (us (us (us σ 10 m k) 11 m (nI y)) 12 m h) 9 0 (nI (m + 1)) 47 11 = nI m := mN'
  refine bo (nI m) (s_song σ m k (nI y) h) (s_mso (s_song σ m k (nI y) h) m k (nI y) h q) (by rw [K_song, if_neg h1, if_neg h2, if_neg h3, if_neg h4, mN, if_pos (nI_lt (by omega) (by omega))]) hK (by rw [M_song, if_neg h1, if_neg h2, if_neg h3, if_neg h4, s_song, e, if_neg (fun z => h5 ((nI_eq (by omega) (by omega)).mp z))]) (cX11_song_ok κ b (s_song σ m k (nI y) h) n m j r hmi k _ h q) ⟨n, m + 1, j, r, l, kl, ms, hC, ?_, hJ, hT, hU, hB, hO, hH, hD, hQ, hKC⟩
  refine ⟨⟨rfl, rfl, by omega⟩, gE_s m2, gE_s m3, ?_, gE_s m5⟩
  intro s hs
  by_cases e : s = m
  · subst e; exact ⟨y, by omega, pk_us⟩
  · obtain ⟨z, hz, h⟩ := m4 s (by omega)
    exact ⟨z, hz, (pk_un e).trans h⟩
theorem B_judge (κ : gm_K) (t : Int32) : Both κ mX10_judge mX11_judge [.int t] := by
  refine both_fn (fun b σ n m j r l kl ms h => ?_)
  have hci := h.ci
  have hmi := h.mi
  have hz : zS σ := ⟨n, m, j, r, l, kl, ms, h⟩
  obtain ⟨hC, hM, hJ, hT, hU, hB, hO, hH, hD, hQ, hKC⟩ := h
  obtain ⟨⟨cN, cN', cn⟩, c2, c3, c4, c5, c6, c7, c8, c9, c10, c11⟩ := id hC
  obtain ⟨⟨mN, mN', mn⟩, m2, m3, m4, m5⟩ := id hM
  obtain ⟨⟨jN, jN', jn⟩, j2, j3⟩ := id hJ
  obtain ⟨⟨tN, tN', tl⟩, t2⟩ := id hT
  obtain ⟨⟨uN, uN', un⟩, u2⟩ := id hU
  obtain ⟨⟨b0, b1, wd0, wd1, wd2⟩, b2, b3, b4⟩ := id hB
  obtain ⟨⟨oN, oN', on⟩, o2⟩ := id hO
  have hK := cX10_judge_ok κ b σ n m j r hci t
  by_cases h1 : hs (nI 8) t = false
  · exact bo (-1) σ σ (by rw [K_judge, if_pos h1]) hK (by rw [M_judge, if_pos h1]) (cX11_judge_ok κ b σ n m j r hmi t) hz
  by_cases h5 : j = 6
  · exact bo (-4) σ σ (by rw [K_judge, if_neg h1, jN, h5, if_neg (by decide)]) hK (by rw [M_judge, if_neg h1, jN', h5, if_pos rfl]) (cX11_judge_ok κ b σ n m j r hmi t) hz
  have e : us (us σ 15 j t) 14 0 (nI (j + 1)) 47 16 = nI j := jN'
  exact bo (nI j) (s_judge σ j t) (s_mju (s_judge σ j t) j t) (by rw [K_judge, if_neg h1, jN, if_pos (nI_lt (by omega) (by omega))]) hK (by rw [M_judge, if_neg h1, s_judge, e, if_neg (fun z => h5 ((nI_eq (by omega) (by omega)).mp z))]) (cX11_judge_ok κ b (s_judge σ j t) n m j r hmi t) ⟨n, m, j + 1, r, l, kl, ms, hC, hM, ⟨⟨rfl, rfl, by omega⟩, gE_s j2, j3⟩, hT, hU, hB, hO, hH, hD, hQ, hKC⟩
theorem B_mark (κ : gm_K) (q c v : Int32) : Both κ mX10_mark mX11_mark [.int q, .int c, .int v] := by
  refine both_fn (fun b σ n m j r l kl ms h => ?_)
  have hci := h.ci
  have hmi := h.mi
  have hz : zS σ := ⟨n, m, j, r, l, kl, ms, h⟩
  obtain ⟨hC, hM, hJ, hT, hU, hB, hO, hH, hD, hQ, hKC⟩ := h
  obtain ⟨⟨cN, cN', cn⟩, c2, c3, c4, c5, c6, c7, c8, c9, c10, c11⟩ := id hC
  obtain ⟨⟨mN, mN', mn⟩, m2, m3, m4, m5⟩ := id hM
  obtain ⟨⟨jN, jN', jn⟩, j2, j3⟩ := id hJ
  obtain ⟨⟨tN, tN', tl⟩, t2⟩ := id hT
  obtain ⟨⟨uN, uN', un⟩, u2⟩ := id hU
  obtain ⟨⟨b0, b1, wd0, wd1, wd2⟩, b2, b3, b4⟩ := id hB
  obtain ⟨⟨oN, oN', on⟩, o2⟩ := id hO
  have hK := cX10_mark_ok κ b σ n m j r hci q c v
  by_cases h1 : hs (nI j) q = false
  · exact bo (-5) σ σ (by rw [K_mark, jN, if_pos h1]) hK (by rw [M_mark, jN', if_pos h1]) (cX11_mark_ok κ b σ n m j r hmi q c v) hz
  by_cases h2 : hs (nI n) c = false
  · exact bo (-5) σ σ (by rw [K_mark, jN, if_neg h1, cN, if_pos h2]) hK (by rw [M_mark, jN', if_neg h1, cN', if_pos h2]) (cX11_mark_ok κ b σ n m j r hmi q c v) hz
  by_cases h3 : wi v (nI 0) (nI 100) = false
  · exact bo (-2) σ σ (by rw [K_mark, jN, if_neg h1, cN, if_neg h2, if_pos h3]) hK (by rw [M_mark, jN', if_neg h1, cN', if_neg h2, if_pos h3]) (cX11_mark_ok κ b σ n m j r hmi q c v) hz
  obtain ⟨y, hy, rfl⟩ := hs_t (by omega) h1
  obtain ⟨x, hx, rfl⟩ := hs_t (by omega) h2
  obtain ⟨w, -, hw, rfl⟩ := wi_n (by omega) h3 (by omega)
  have ex := nI_clamp (show x < 2 ^ 31 by omega)
  have ey := nI_clamp (show y < 2 ^ 31 by omega)
  by_cases h4 : σ 15 y = σ 3 x
  · exact bo (-3) σ σ (by rw [K_mark, jN, if_neg h1, cN, if_neg h2, if_neg h3, ex, ey, if_pos h4]) hK (by rw [M_mark, jN', if_neg h1, cN', if_neg h2, if_neg h3, ex, ey, ← j2 y hy, ← c4 x hx, if_pos h4]) (cX11_mark_ok κ b σ n m j r hmi _ _ _) hz
  obtain ⟨z, hz1, hz2, hz3, -⟩ := j3 y (by omega) x (by omega)
  refine bo (σ 16 (y * 16 + x)) (us σ 16 (y * 16 + x) (nI w)) (us (us σ 16 (y * 16 + x) (nI w)) 62 (16 * y + x) (nI w + nI 1)) (by rw [K_mark, jN, if_neg h1, cN, if_neg h2, if_neg h3, ex, ey, if_neg h4]) hK ?_ (cX11_mark_ok κ b (us σ 16 (y * 16 + x) (nI w)) n m j r hmi _ _ _) ⟨n, m, j, r, l, kl, ms, hC, hM, ?_, hT, hU, hB, hO, hH, hD, hQ, hKC⟩
  · have e1 : us σ 16 (y * 16 + x) (nI w) 47 16 = nI j := jN'
    have e2 : us σ 16 (y * 16 + x) (nI w) 47 0 = nI n := cN'
    have e3 : us σ 16 (y * 16 + x) (nI w) 61 y = σ 15 y := (j2 y hy).symm
    have e4 : us σ 16 (y * 16 + x) (nI w) 49 x = σ 3 x := (c4 x hx).symm
    have e5 : us σ 16 (y * 16 + x) (nI w) 62 (16 * y + x) = nI z := hz2
    rw [M_mark, e1, if_neg h1, e2, if_neg h2, if_neg h3, ex, ey, e3, e4, if_neg h4, e5, hz3]
  · refine ⟨⟨jN, jN', jn⟩, j2, fun i hi c hc => ?_⟩
    by_cases e : i = y ∧ c = x
    · obtain ⟨rfl, rfl⟩ := e
      refine ⟨w + 1, by omega, ?_, ?_, fun q => absurd q (by omega)⟩
      · show upd (σ 62) (16 * i + c) (nI w + nI 1) (16 * i + c) = _
        rw [pk_us, nI_add]
      · show upd (σ 16) (i * 16 + c) (nI w) (i * 16 + c) = _
        rw [pk_us, pk_sub (by omega)]
        rfl
    · obtain ⟨z', g1, g2, g3, g4⟩ := j3 i hi c hc
      refine ⟨z', g1, ?_, ?_, g4⟩
      · show upd (σ 62) (16 * y + x) (nI w + nI 1) (16 * i + c) = _
        rw [pk_un (by omega), g2]
      · show upd (σ 16) (y * 16 + x) (nI w) (i * 16 + c) = _
        rw [pk_un (by omega), g3]
theorem B_mean (κ : gm_K) (c : Int32) : Both κ mX10_mean mX11_mean [.int c] := by
  refine both_fn (fun b σ n m j r l kl ms h => ?_)
  have hci := h.ci
  have hmi := h.mi
  have hz : zS σ := ⟨n, m, j, r, l, kl, ms, h⟩
  obtain ⟨hC, hM, hJ, hT, hU, hB, hO, hH, hD, hQ, hKC⟩ := h
  obtain ⟨⟨cN, cN', cn⟩, c2, c3, c4, c5, c6, c7, c8, c9, c10, c11⟩ := id hC
  obtain ⟨⟨mN, mN', mn⟩, m2, m3, m4, m5⟩ := id hM
  obtain ⟨⟨jN, jN', jn⟩, j2, j3⟩ := id hJ
  obtain ⟨⟨tN, tN', tl⟩, t2⟩ := id hT
  obtain ⟨⟨uN, uN', un⟩, u2⟩ := id hU
  obtain ⟨⟨b0, b1, wd0, wd1, wd2⟩, b2, b3, b4⟩ := id hB
  obtain ⟨⟨oN, oN', on⟩, o2⟩ := id hO
  refine bq (K := K_mean σ j c) (M := M_mean σ j c) ?_ (cX10_mean_ok κ b σ n m j r hci c) (cX11_mean_ok κ b σ n m j r hmi c) hz
  rw [K_mean, M_mean, cN, cN']
  by_cases h1 : hs (nI n) c = false
  · rw [if_pos h1, if_pos h1]
  · rw [if_neg h1, if_neg h1]
    obtain ⟨x, hx, rfl⟩ := hs_t (by omega) h1
    rw [nI_clamp (by omega)]
    exact R_mean j3 jn (by omega)
theorem B_about (κ : gm_K) (c w : Int32) : Both κ mX10_about mX11_about [.int c, .int w] := by
  refine both_fn (fun b σ n m j r l kl ms h => ?_)
  have hci := h.ci
  have hmi := h.mi
  have hz : zS σ := ⟨n, m, j, r, l, kl, ms, h⟩
  obtain ⟨hC, hM, hJ, hT, hU, hB, hO, hH, hD, hQ, hKC⟩ := h
  obtain ⟨⟨cN, cN', cn⟩, c2, c3, c4, c5, c6, c7, c8, c9, c10, c11⟩ := id hC
  obtain ⟨⟨mN, mN', mn⟩, m2, m3, m4, m5⟩ := id hM
  obtain ⟨⟨jN, jN', jn⟩, j2, j3⟩ := id hJ
  obtain ⟨⟨tN, tN', tl⟩, t2⟩ := id hT
  obtain ⟨⟨uN, uN', un⟩, u2⟩ := id hU
  obtain ⟨⟨b0, b1, wd0, wd1, wd2⟩, b2, b3, b4⟩ := id hB
  obtain ⟨⟨oN, oN', on⟩, o2⟩ := id hO
  refine bq (K := K_about σ c w) (M := M_about σ c w) ?_ (cX10_about_ok κ b σ n m j r hci c w) (cX11_about_ok κ b σ n m j r hmi c w) hz
  rw [K_about, M_about, cN, cN']
  by_cases h1 : hs (nI n) c = false
  · rw [if_pos h1, if_pos h1]
  · rw [if_neg h1, if_neg h1]
    obtain ⟨x, hx, rfl⟩ := hs_t (by omega) h1
    rw [nI_clamp (by omega), c2 x hx, c4 x hx, R_sz c7 hx, R_th cn c5 c11 hx, c8 x hx, hD.2.1 x hx, b2 x hx, b3 x hx, c9 x hx]
theorem B_voice (κ : gm_K) (c v : Int32) : Both κ mX10_voice mX11_voice [.int c, .int v] := by
  refine both_fn (fun b σ n m j r l kl ms h => ?_)
  have hci := h.ci
  have hmi := h.mi
  have hz : zS σ := ⟨n, m, j, r, l, kl, ms, h⟩
  obtain ⟨hC, hM, hJ, hT, hU, hB, hO, hH, hD, hQ, hKC⟩ := h
  obtain ⟨⟨cN, cN', cn⟩, c2, c3, c4, c5, c6, c7, c8, c9, c10, c11⟩ := id hC
  obtain ⟨⟨mN, mN', mn⟩, m2, m3, m4, m5⟩ := id hM
  obtain ⟨⟨jN, jN', jn⟩, j2, j3⟩ := id hJ
  obtain ⟨⟨tN, tN', tl⟩, t2⟩ := id hT
  obtain ⟨⟨uN, uN', un⟩, u2⟩ := id hU
  obtain ⟨⟨b0, b1, wd0, wd1, wd2⟩, b2, b3, b4⟩ := id hB
  obtain ⟨⟨oN, oN', on⟩, o2⟩ := id hO
  refine bq (K := K_voice σ c v) (M := M_voice σ c v) ?_ (cX10_voice_ok κ b σ n m j r hci c v) (cX11_voice_ok κ b σ n m j r hmi c v) hz
  rw [K_voice, M_voice, cN, cN']
  by_cases h1 : hs (nI n) c = false
  · rw [if_pos h1, if_pos h1]
  · rw [if_neg h1, if_neg h1]
    obtain ⟨x, hx, rfl⟩ := hs_t (by omega) h1
    rw [nI_clamp (by omega)]
    by_cases h2 : wi v (nI 0) (nI 3) = false
    · rw [if_pos h2]
      by_cases h3 : v < 0
      · rw [if_pos h3]
      · rw [if_neg h3]
        by_cases h4 : v < nI 4
        · exfalso
          obtain ⟨y, hy, rfl⟩ := nI_of h3
          have h5 := (nI_ltI hy (by omega)).mp h4
          have h6 : ∀ y, y < 4 → ¬ wi (nI y) (nI 0) (nI 3) = false := by decide
          exact h6 y h5 h2
        · rw [if_neg h4]
    · rw [if_neg h2]
      obtain ⟨y, -, hy, rfl⟩ := wi_n (by omega) h2 (by omega)
      rw [if_neg (nI_pos (by omega)), if_pos (nI_lt (by omega) (by omega)), nI_clamp (by omega)]
      obtain ⟨z, -, -, e1, e2⟩ := c6 x hx y (by omega)
      rw [e1, e2]
theorem B_may (κ : gm_K) (c s : Int32) : Both κ mX10_may mX11_may [.int c, .int s] := by
  refine both_fn (fun b σ n m j r l kl ms h => ?_)
  have hci := h.ci
  have hmi := h.mi
  have hz : zS σ := ⟨n, m, j, r, l, kl, ms, h⟩
  obtain ⟨hC, hM, hJ, hT, hU, hB, hO, hH, hD, hQ, hKC⟩ := h
  obtain ⟨⟨cN, cN', cn⟩, c2, c3, c4, c5, c6, c7, c8, c9, c10, c11⟩ := id hC
  obtain ⟨⟨mN, mN', mn⟩, m2, m3, m4, m5⟩ := id hM
  obtain ⟨⟨jN, jN', jn⟩, j2, j3⟩ := id hJ
  obtain ⟨⟨tN, tN', tl⟩, t2⟩ := id hT
  obtain ⟨⟨uN, uN', un⟩, u2⟩ := id hU
  obtain ⟨⟨b0, b1, wd0, wd1, wd2⟩, b2, b3, b4⟩ := id hB
  obtain ⟨⟨oN, oN', on⟩, o2⟩ := id hO
  refine bq (K := K_may σ j r c s) (M := M_may σ j r c s) ?_ (cX10_may_ok κ b σ n m j r hci c s) (cX11_may_ok κ b σ n m j r hmi c s) hz
  rw [K_may, M_may, cN, cN', mN, mN']
  by_cases h1 : hs (nI n) c = false
  · rw [if_pos h1, if_pos h1]
  · rw [if_neg h1, if_neg h1]
    by_cases h2 : hs (nI m) s = false
    · rw [if_pos h2, if_pos h2]
    · rw [if_neg h2, if_neg h2]
      obtain ⟨x, hx, rfl⟩ := hs_t (by omega) h1
      obtain ⟨y, hy, rfl⟩ := hs_t (by omega) h2
      rw [nI_clamp (by omega), nI_clamp (by omega)]
      exact R_vd hC hM hJ hU hx hy
theorem B_why (κ : gm_K) (c s : Int32) : Both κ mX10_why mX11_why [.int c, .int s] := by
  refine both_fn (fun b σ n m j r l kl ms h => ?_)
  have hci := h.ci
  have hmi := h.mi
  have hz : zS σ := ⟨n, m, j, r, l, kl, ms, h⟩
  obtain ⟨hC, hM, hJ, hT, hU, hB, hO, hH, hD, hQ, hKC⟩ := h
  obtain ⟨⟨cN, cN', cn⟩, c2, c3, c4, c5, c6, c7, c8, c9, c10, c11⟩ := id hC
  obtain ⟨⟨mN, mN', mn⟩, m2, m3, m4, m5⟩ := id hM
  obtain ⟨⟨jN, jN', jn⟩, j2, j3⟩ := id hJ
  obtain ⟨⟨tN, tN', tl⟩, t2⟩ := id hT
  obtain ⟨⟨uN, uN', un⟩, u2⟩ := id hU
  obtain ⟨⟨b0, b1, wd0, wd1, wd2⟩, b2, b3, b4⟩ := id hB
  obtain ⟨⟨oN, oN', on⟩, o2⟩ := id hO
  refine bq (K := K_why σ j r c s) (M := M_why σ j r c s) ?_ (cX10_why_ok κ b σ n m j r hci c s) (cX11_why_ok κ b σ n m j r hmi c s) hz
  rw [K_why, M_why, cN, cN', mN, mN']
  by_cases h1 : hs (nI n) c = false
  · rw [if_pos h1, if_pos h1]
  · rw [if_neg h1, if_neg h1]
    by_cases h2 : hs (nI m) s = false
    · rw [if_pos h2, if_pos h2]
    · rw [if_neg h2, if_neg h2]
      obtain ⟨x, hx, rfl⟩ := hs_t (by omega) h1
      obtain ⟨y, hy, rfl⟩ := hs_t (by omega) h2
      rw [nI_clamp (by omega), nI_clamp (by omega)]
      exact congrArg oI (R_rule hC hM hJ hU hx hy)
theorem B_vote (κ : gm_K) (c w : Int32) : Both κ mX10_vote mX11_vote [.int c, .int w] := by
  refine both_fn (fun b σ n m j r l kl ms h => ?_)
  have hci := h.ci
  have hmi := h.mi
  have hz : zS σ := ⟨n, m, j, r, l, kl, ms, h⟩
  obtain ⟨hC, hM, hJ, hT, hU, hB, hO, hH, hD, hQ, hKC⟩ := h
  obtain ⟨⟨cN, cN', cn⟩, c2, c3, c4, c5, c6, c7, c8, c9, c10, c11⟩ := id hC
  obtain ⟨⟨mN, mN', mn⟩, m2, m3, m4, m5⟩ := id hM
  obtain ⟨⟨jN, jN', jn⟩, j2, j3⟩ := id hJ
  obtain ⟨⟨tN, tN', tl⟩, t2⟩ := id hT
  obtain ⟨⟨uN, uN', un⟩, u2⟩ := id hU
  obtain ⟨⟨b0, b1, wd0, wd1, wd2⟩, b2, b3, b4⟩ := id hB
  obtain ⟨⟨oN, oN', on⟩, o2⟩ := id hO
  have hK := cX10_vote_ok κ b σ n m j r hci c w
  by_cases h1 : hs (nI n) c = false
  · exact bo (-5) σ σ (by rw [K_vote, cN, if_pos h1]) hK (by rw [M_vote, cN', if_pos h1]) (cX11_vote_ok κ b σ n m j r hmi c w) hz
  by_cases h2 : wi w (-1) (nI 7) = false
  · exact bo (-5) σ σ (by rw [K_vote, cN, if_neg h1, if_pos h2]) hK (by rw [M_vote, cN', if_neg h1, if_pos h2]) (cX11_vote_ok κ b σ n m j r hmi c w) hz
  obtain ⟨x, hx, rfl⟩ := hs_t (by omega) h1
  have ex := nI_clamp (show x < 2 ^ 31 by omega)
  refine bo (σ 8 x) (us σ 8 x w) (us (us σ 8 x w) 54 x w) (by rw [K_vote, cN, if_neg h1, if_neg h2, ex]) hK ?_ (cX11_vote_ok κ b (us σ 8 x w) n m j r hmi _ w) ⟨n, m, j, r, l, kl, ms, ⟨⟨cN, cN', cn⟩, c2, c3, c4, c5, c6, c7, c8, gE_u c9, ?_, c11⟩, hM, hJ, hT, hU, hB, hO, hH, hD, hQ, hKC⟩
  · have e1 : us σ 8 x w 47 0 = nI n := cN'
    have e2 : us σ 8 x w 54 x = σ 8 x := (c9 x hx).symm
    rw [M_vote, e1, if_neg h1, if_neg h2, ex, e2]
  · intro c hc
    by_cases e : c = x
    · subst e
      show upd (σ 54) c w c = -1 ∨ ∃ v, v < 8 ∧ upd (σ 54) c w c = nI v
      rw [pk_us]
      obtain ⟨g1, g2⟩ := wi_t h2
      by_cases h3 : w < 0
      · refine Or.inl ?_
        rw [fa_le, show (-1 : Int32).toInt = -1 from rfl] at g1
        rw [fa_lt, show (0 : Int32).toInt = 0 from rfl] at h3
        rw [fa_eq, show (-1 : Int32).toInt = -1 from rfl]
        omega
      · obtain ⟨y, hy, rfl⟩ := nI_of h3
        exact Or.inr ⟨y, by have := (nI_leI hy (by omega)).mp g2; omega, rfl⟩
    · show upd (σ 54) x w c = -1 ∨ ∃ v, v < 8 ∧ upd (σ 54) x w c = nI v
      rw [pk_un e]
      exact c10 c hc
theorem B_stage (κ : gm_K) (p w : Int32) : Both κ mX10_stage mX11_stage [.int p, .int w] := by
  refine both_fn (fun b σ n m j r l kl ms h => ?_)
  have hci := h.ci
  have hmi := h.mi
  have hz : zS σ := ⟨n, m, j, r, l, kl, ms, h⟩
  obtain ⟨hC, hM, hJ, hT, hU, hB, hO, hH, hD, hQ, hKC⟩ := h
  obtain ⟨⟨cN, cN', cn⟩, c2, c3, c4, c5, c6, c7, c8, c9, c10, c11⟩ := id hC
  obtain ⟨⟨mN, mN', mn⟩, m2, m3, m4, m5⟩ := id hM
  obtain ⟨⟨jN, jN', jn⟩, j2, j3⟩ := id hJ
  obtain ⟨⟨tN, tN', tl⟩, t2⟩ := id hT
  obtain ⟨⟨uN, uN', un⟩, u2⟩ := id hU
  obtain ⟨⟨b0, b1, wd0, wd1, wd2⟩, b2, b3, b4⟩ := id hB
  obtain ⟨⟨oN, oN', on⟩, o2⟩ := id hO
  have hK := cX10_stage_ok κ b σ n m j r hci p w
  have eb : sm (fun i => if σ 55 i = -1 then nI 0 else nI 1) n = sm (fun i => if σ 30 i = -1 then nI 0 else nI 1) n := sm_congr (fun i hi => by show (if σ 55 i = -1 then nI 0 else nI 1) = if σ 30 i = -1 then nI 0 else nI 1; rw [b2 i hi])
  by_cases h1 : wi p (nI 1) (nI 8) = false
  · exact bo (-2) σ σ (by rw [K_stage, if_pos h1]) hK (by rw [M_stage, if_pos h1]) (cX11_stage_ok κ b σ n m j r hmi p w) hz
  by_cases h2 : wi w (nI 1) (nI 60) = false
  · exact bo (-2) σ σ (by rw [K_stage, if_neg h1, if_pos h2]) hK (by rw [M_stage, if_neg h1, if_pos h2]) (cX11_stage_ok κ b σ n m j r hmi p w) hz
  by_cases h3 : sm (fun i => if σ 30 i = -1 then nI 0 else nI 1) n ≤ 0
  · refine bo (nI 0) (us (us σ 29 0 p) 29 1 w) (us (us (us (us σ 29 0 p) 29 1 w) 47 34 p) 47 35 w) (by rw [K_stage, if_neg h1, if_neg h2, if_pos h3]) hK ?_ (cX11_stage_ok κ b (us (us σ 29 0 p) 29 1 w) n m j r hmi p w) ⟨n, m, j, r, l, kl, ms, hC, hM, hJ, hT, hU, ?_, hO, hH, hD, hQ, hKC⟩
    · have e : sm (fun i => if us (us σ 29 0 p) 29 1 w 55 i = -1 then nI 0 else nI 1) n ≤ 0 := by
        have h4 : sm (fun i => if σ 55 i = -1 then nI 0 else nI 1) n ≤ 0 := eb ▸ h3
        exact h4
      rw [M_stage, if_neg h1, if_neg h2, if_pos e]
    · obtain ⟨y, -, hy, rfl⟩ := wi_n (by omega) h2 (by omega)
      exact ⟨⟨rfl, rfl, y, hy, rfl⟩, b2, b3, b4⟩
  · exact bo (-3) σ σ (by rw [K_stage, if_neg h1, if_neg h2, if_neg h3]) hK (by rw [M_stage, if_neg h1, if_neg h2, eb, if_neg h3]) (cX11_stage_ok κ b σ n m j r hmi p w) hz
theorem B_tall (κ : gm_K) (c t : Int32) : Both κ mX10_tall mX11_tall [.int c, .int t] := by
  refine both_fn (fun b σ n m j r l kl ms h => ?_)
  have hci := h.ci
  have hmi := h.mi
  have hz : zS σ := ⟨n, m, j, r, l, kl, ms, h⟩
  obtain ⟨hC, hM, hJ, hT, hU, hB, hO, hH, hD, hQ, hKC⟩ := h
  obtain ⟨⟨cN, cN', cn⟩, c2, c3, c4, c5, c6, c7, c8, c9, c10, c11⟩ := id hC
  obtain ⟨⟨mN, mN', mn⟩, m2, m3, m4, m5⟩ := id hM
  obtain ⟨⟨jN, jN', jn⟩, j2, j3⟩ := id hJ
  obtain ⟨⟨tN, tN', tl⟩, t2⟩ := id hT
  obtain ⟨⟨uN, uN', un⟩, u2⟩ := id hU
  obtain ⟨⟨b0, b1, wd0, wd1, wd2⟩, b2, b3, b4⟩ := id hB
  obtain ⟨⟨oN, oN', on⟩, o2⟩ := id hO
  have hK := cX10_tall_ok κ b σ n m j r hci c t
  by_cases h1 : hs (nI n) c = false
  · exact bo (-1) σ σ (by rw [K_tall, cN, if_pos h1]) hK (by rw [M_tall, cN', if_pos h1]) (cX11_tall_ok κ b σ n m j r hmi c t) hz
  by_cases h2 : wi t (nI 0) (nI 9) = false
  · exact bo (-2) σ σ (by rw [K_tall, cN, if_neg h1, if_pos h2]) hK (by rw [M_tall, cN', if_neg h1, if_pos h2]) (cX11_tall_ok κ b σ n m j r hmi c t) hz
  obtain ⟨x, hx, rfl⟩ := hs_t (by omega) h1
  have ex := nI_clamp (show x < 2 ^ 31 by omega)
  refine bo (σ 7 x) (us σ 7 x t) (us (us σ 7 x t) 52 x t) (by rw [K_tall, cN, if_neg h1, if_neg h2, ex]) hK ?_ (cX11_tall_ok κ b (us σ 7 x t) n m j r hmi _ t) ⟨n, m, j, r, l, kl, ms, ⟨⟨cN, cN', cn⟩, c2, c3, c4, c5, c6, c7, gE_u c8, c9, c10, c11⟩, hM, hJ, hT, hU, hB, hO, hH, hD, hQ, hKC⟩
  have e1 : us σ 7 x t 47 0 = nI n := cN'
  have e2 : us σ 7 x t 52 x = σ 7 x := (c8 x hx).symm
  rw [M_tall, e1, if_neg h1, if_neg h2, ex, e2]
theorem B_stand (κ : gm_K) (c p q : Int32) : Both κ mX10_stand mX11_stand [.int c, .int p, .int q] := by
  refine both_fn (fun b σ n m j r l kl ms h => ?_)
  have hci := h.ci
  have hmi := h.mi
  have hz : zS σ := ⟨n, m, j, r, l, kl, ms, h⟩
  obtain ⟨hC, hM, hJ, hT, hU, hB, hO, hH, hD, hQ, hKC⟩ := h
  obtain ⟨⟨cN, cN', cn⟩, c2, c3, c4, c5, c6, c7, c8, c9, c10, c11⟩ := id hC
  obtain ⟨⟨mN, mN', mn⟩, m2, m3, m4, m5⟩ := id hM
  obtain ⟨⟨jN, jN', jn⟩, j2, j3⟩ := id hJ
  obtain ⟨⟨tN, tN', tl⟩, t2⟩ := id hT
  obtain ⟨⟨uN, uN', un⟩, u2⟩ := id hU
  obtain ⟨⟨b0, b1, wd0, wd1, wd2⟩, b2, b3, b4⟩ := id hB
  obtain ⟨⟨oN, oN', on⟩, o2⟩ := id hO
  have hK := cX10_stand_ok κ b σ n m j r hci c p q
  by_cases h1 : hs (nI n) c = false
  · exact bo (-1) σ σ (by rw [K_stand, cN, if_pos h1]) hK (by rw [M_stand, cN', if_pos h1]) (cX11_stand_ok κ b σ n m j r hmi c p q) hz
  by_cases h2 : p < 0
  · exact bo (-1) σ σ (by rw [K_stand, cN, if_neg h1, if_pos (by simp [hs, h2])]) hK (by rw [M_stand, cN', if_neg h1, if_pos h2]) (cX11_stand_ok κ b σ n m j r hmi c p q) hz
  by_cases h3 : σ 29 0 ≤ p
  · exact bo (-1) σ σ (by rw [K_stand, cN, if_neg h1, if_pos (by simp [hs, h3])]) hK (by rw [M_stand, cN', if_neg h1, if_neg h2, ← b0, if_pos h3]) (cX11_stand_ok κ b σ n m j r hmi c p q) hz
  have h23 : ¬ hs (σ 29 0) p = false := by simp [hs, h2, h3]
  by_cases h4 : q < 0
  · exact bo (-1) σ σ (by rw [K_stand, cN, if_neg h1, if_neg h23, if_pos h4]) hK (by rw [M_stand, cN', if_neg h1, if_neg h2, ← b0, if_neg h3, if_pos h4]) (cX11_stand_ok κ b σ n m j r hmi c p q) hz
  by_cases h5 : ¬ q < σ 29 1
  · exact bo (-1) σ σ (by rw [K_stand, cN, if_neg h1, if_neg h23, if_neg h4, if_pos h5]) hK (by rw [M_stand, cN', if_neg h1, if_neg h2, ← b0, if_neg h3, if_neg h4, ← b1, if_pos h5]) (cX11_stand_ok κ b σ n m j r hmi c p q) hz
  obtain ⟨x, hx, rfl⟩ := hs_t (by omega) h1
  have ex := nI_clamp (show x < 2 ^ 31 by omega)
  have esz := R_sz c7 hx
  have eth := R_th cn c5 c11 hx
  have efr : alb (mfr σ p q (q + σ 6 x)) n = alb (aps σ p q (σ 6 x)) n := alb_congr (fun i hi => by rw [mfr, aps, b2 i hi, b3 i hi, R_sz c7 hi])
  by_cases h6 : ¬ σ 30 x = -1
  · exact bo (-3) σ σ (by rw [K_stand, cN, if_neg h1, if_neg h23, if_neg h4, if_neg h5, ex, if_pos h6]) hK (by rw [M_stand, cN', if_neg h1, if_neg h2, ← b0, if_neg h3, if_neg h4, ← b1, if_neg h5, ex, ← b2 x hx, if_pos h6]) (cX11_stand_ok κ b σ n m j r hmi _ p q) hz
  by_cases h7 : there σ x = false
  · exact bo (-3) σ σ (by rw [K_stand, cN, if_neg h1, if_neg h23, if_neg h4, if_neg h5, ex, if_neg h6, if_pos h7]) hK (by rw [M_stand, cN', if_neg h1, if_neg h2, ← b0, if_neg h3, if_neg h4, ← b1, if_neg h5, ex, ← b2 x hx, if_neg h6, eth, if_pos h7]) (cX11_stand_ok κ b σ n m j r hmi _ p q) hz
  by_cases h8 : ¬ q + σ 6 x ≤ σ 29 1
  · exact bo (-3) σ σ (by rw [K_stand, cN, if_neg h1, if_neg h23, if_neg h4, if_neg h5, ex, if_neg h6, if_neg h7, if_pos (by simp [hrm, h8])]) hK (by rw [M_stand, cN', if_neg h1, if_neg h2, ← b0, if_neg h3, if_neg h4, ← b1, if_neg h5, ex, ← b2 x hx, if_neg h6, eth, if_neg h7, esz, if_pos h8]) (cX11_stand_ok κ b σ n m j r hmi _ p q) hz
  by_cases h9 : alb (aps σ p q (σ 6 x)) n = false
  · exact bo (-3) σ σ (by rw [K_stand, cN, if_neg h1, if_neg h23, if_neg h4, if_neg h5, ex, if_neg h6, if_neg h7, if_pos (by simp [hrm, h9])]) hK (by rw [M_stand, cN', if_neg h1, if_neg h2, ← b0, if_neg h3, if_neg h4, ← b1, if_neg h5, ex, ← b2 x hx, if_neg h6, eth, if_neg h7, esz, if_neg h8, efr, if_pos h9]) (cX11_stand_ok κ b σ n m j r hmi _ p q) hz
  refine bo (nI 0) (s_put σ x p q) (us (us (s_put σ x p q) 55 x p) 56 x q) (by rw [K_stand, cN, if_neg h1, if_neg h23, if_neg h4, if_neg h5, ex, if_neg h6, if_neg h7, if_neg (by simp [hrm, Decidable.not_not.mp h8, h9])]) hK ?_ (cX11_stand_ok κ b (s_put σ x p q) n m j r hmi _ p q) ⟨n, m, j, r, l, kl, ms, hC, hM, hJ, hT, hU, ?_, hO, hH, hD, hQ, hKC⟩
  · have eM : M_stand σ n (nI x) p q = (nI 0, us (us σ 55 x p) 56 x q) := by
      rw [M_stand, cN', if_neg h1, if_neg h2, ← b0, if_neg h3, if_neg h4, ← b1, if_neg h5, ex, ← b2 x hx, if_neg h6, eth, if_neg h7, esz, if_neg h8, efr, if_neg h9]
    have g0 : s_put σ x p q 47 0 = nI n := cN'
    have g1 : s_put σ x p q 47 34 = σ 29 0 := b0.symm
    have g2 : s_put σ x p q 47 35 = σ 29 1 := b1.symm
    have g3 : s_put σ x p q 55 x = σ 30 x := (b2 x hx).symm
    have g4 : mth (s_put σ x p q) x = there σ x := eth
    have g5 : msz (s_put σ x p q) x = σ 6 x := esz
    have g6 : alb (mfr (s_put σ x p q) p q (q + σ 6 x)) n = alb (aps σ p q (σ 6 x)) n := efr
    rw [M_stand, g0, if_neg h1, if_neg h2, g1, if_neg h3, if_neg h4, g2, if_neg h5, ex, g3, if_neg h6, g4, if_neg h7, g5, if_neg h8, g6, if_neg h9]
  · refine ⟨⟨b0, b1, wd0, wd1, wd2⟩, gE_u b2, gE_u b3, fun c h10 h11 => ?_⟩
    have e : c ≠ x := by omega
    show upd (σ 30) x p c = -1 ∧ upd (σ 31) x q c = -1
    rw [pk_un e, pk_un e]
    exact b4 c h10 h11
theorem sec_m (w p s : Int32) : sec w p s = msc w p s := by
  rw [sec, msc, mgl]
  by_cases h : w - p - s < p
  · rw [if_pos h, if_neg (by simpa using (fa_of_lt h).2.1)]
  · rw [if_neg h, if_pos (by simpa using fa_of_nlt h)]
theorem gol_m (w p s : Int32) : gol w p s = if mgl w p s then msc w p s else nI 0 := by
  rw [gol, mgl, sec_m]
  by_cases h : w - p - s < p
  · rw [if_pos h, if_neg (by simpa using (fa_of_lt h).2.1)]; rfl
  · rw [if_neg h, if_pos (by simpa using fa_of_nlt h)]
theorem gor_m (w p s : Int32) : gor w p s = if mgl w p s then nI 0 else msc w p s := by
  rw [gor, mgl, sec_m]
  by_cases h : w - p - s < p
  · rw [if_pos h, if_neg (by simpa using (fa_of_lt h).2.1)]
  · rw [if_neg h, if_pos (by simpa using fa_of_nlt h)]; rfl
theorem mx_le (p q : Int32) : (if p < q then q else p) = if p ≤ q then q else p := by
  by_cases h : p < q
  · rw [if_pos h, if_pos (fa_of_lt h).1]
  · rw [if_neg h]
    by_cases h2 : p ≤ q
    · rw [if_pos h2]
      rw [fa_lt] at h
      rw [fa_le] at h2
      rw [fa_eq]
      omega
    · rw [if_neg h2]
theorem B_off (κ : gm_K) (c : Int32) : Both κ mX10_off mX11_off [.int c] := by
  refine both_fn (fun b σ n m j r l kl ms h => ?_)
  have hci := h.ci
  have hmi := h.mi
  have hz : zS σ := ⟨n, m, j, r, l, kl, ms, h⟩
  obtain ⟨hC, hM, hJ, hT, hU, hB, hO, hH, hD, hQ, hKC⟩ := h
  obtain ⟨⟨cN, cN', cn⟩, c2, c3, c4, c5, c6, c7, c8, c9, c10, c11⟩ := id hC
  obtain ⟨⟨mN, mN', mn⟩, m2, m3, m4, m5⟩ := id hM
  obtain ⟨⟨jN, jN', jn⟩, j2, j3⟩ := id hJ
  obtain ⟨⟨tN, tN', tl⟩, t2⟩ := id hT
  obtain ⟨⟨uN, uN', un⟩, u2⟩ := id hU
  obtain ⟨⟨b0, b1, wd0, wd1, wd2⟩, b2, b3, b4⟩ := id hB
  obtain ⟨⟨oN, oN', on⟩, o2⟩ := id hO
  have hK := cX10_off_ok κ b σ n m j r hci c
  by_cases h1 : hs (nI n) c = false
  · exact bo (-1) σ σ (by rw [K_off, cN, if_pos h1]) hK (by rw [M_off, cN', if_pos h1]) (cX11_off_ok κ b σ n m j r hmi c) hz
  obtain ⟨x, hx, rfl⟩ := hs_t (by omega) h1
  have ex := nI_clamp (show x < 2 ^ 31 by omega)
  by_cases h2 : σ 30 x = -1
  · exact bo (-3) σ σ (by rw [K_off, cN, if_neg h1, ex, if_pos h2]) hK (by rw [M_off, cN', if_neg h1, ex, ← b2 x hx, if_pos h2]) (cX11_off_ok κ b σ n m j r hmi _) hz
  refine bo (sec (σ 29 1) (σ 31 x) (σ 6 x)) (s_put σ x (-1) (-1)) (us (us (s_put σ x (-1) (-1)) 55 x (-1)) 56 x (-1)) (by rw [K_off, cN, if_neg h1, ex, if_neg h2]) hK ?_ (cX11_off_ok κ b (s_put σ x (-1) (-1)) n m j r hmi _) ⟨n, m, j, r, l, kl, ms, hC, hM, hJ, hT, hU, ?_, hO, hH, hD, hQ, hKC⟩
  · have g0 : s_put σ x (-1) (-1) 47 0 = nI n := cN'
    have g2 : s_put σ x (-1) (-1) 47 35 = σ 29 1 := b1.symm
    have g3 : s_put σ x (-1) (-1) 55 x = σ 30 x := (b2 x hx).symm
    have g4 : s_put σ x (-1) (-1) 56 x = σ 31 x := (b3 x hx).symm
    have g5 : msz (s_put σ x (-1) (-1)) x = σ 6 x := R_sz c7 hx
    rw [M_off, g0, if_neg h1, ex, g3, if_neg h2, g2, g4, g5, sec_m]
  · refine ⟨⟨b0, b1, wd0, wd1, wd2⟩, gE_u b2, gE_u b3, fun c h10 h11 => ?_⟩
    have e : c ≠ x := by omega
    show upd (σ 30) x (-1) c = -1 ∧ upd (σ 31) x (-1) c = -1
    rw [pk_un e, pk_un e]
    exact b4 c h10 h11
theorem B_well (κ : gm_K) (c : Int32) : Both κ mX10_well mX11_well [.int c] := by
  refine both_fn (fun b σ n m j r l kl ms h => ?_)
  have hci := h.ci
  have hmi := h.mi
  have hz : zS σ := ⟨n, m, j, r, l, kl, ms, h⟩
  obtain ⟨hC, hM, hJ, hT, hU, hB, hO, hH, hD, hQ, hKC⟩ := h
  obtain ⟨⟨cN, cN', cn⟩, c2, c3, c4, c5, c6, c7, c8, c9, c10, c11⟩ := id hC
  obtain ⟨⟨mN, mN', mn⟩, m2, m3, m4, m5⟩ := id hM
  obtain ⟨⟨jN, jN', jn⟩, j2, j3⟩ := id hJ
  obtain ⟨⟨tN, tN', tl⟩, t2⟩ := id hT
  obtain ⟨⟨uN, uN', un⟩, u2⟩ := id hU
  obtain ⟨⟨b0, b1, wd0, wd1, wd2⟩, b2, b3, b4⟩ := id hB
  obtain ⟨⟨oN, oN', on⟩, o2⟩ := id hO
  refine bq (K := K_well σ n c) (M := M_well σ n c) ?_ (cX10_well_ok κ b σ n m j r hci c) (cX11_well_ok κ b σ n m j r hmi c) hz
  rw [K_well, M_well, cN, cN']
  by_cases h1 : hs (nI n) c = false
  · rw [if_pos h1, if_pos h1]
  · rw [if_neg h1, if_neg h1]
    obtain ⟨x, hx, rfl⟩ := hs_t (by omega) h1
    rw [nI_clamp (by omega), b2 x hx]
    congr 2
    refine alb_congr (fun i hi => ?_)
    rw [nhd, mwl, b2 x hx, b2 i hi, c8 i hi, c8 x hx]
    congr 1
    rw [Bool.eq_iff_iff, Bool.not_eq_true', decide_eq_false_iff_not, decide_eq_true_eq, fa_lt, fa_le]
    omega
theorem B_clear (κ : gm_K) : Both κ mX10_clear mX11_clear [] := by
  refine both_fn (fun b σ n m j r l kl ms h => ?_)
  have hci := h.ci
  have hmi := h.mi
  have hz : zS σ := ⟨n, m, j, r, l, kl, ms, h⟩
  obtain ⟨hC, hM, hJ, hT, hU, hB, hO, hH, hD, hQ, hKC⟩ := h
  obtain ⟨⟨cN, cN', cn⟩, c2, c3, c4, c5, c6, c7, c8, c9, c10, c11⟩ := id hC
  obtain ⟨⟨mN, mN', mn⟩, m2, m3, m4, m5⟩ := id hM
  obtain ⟨⟨jN, jN', jn⟩, j2, j3⟩ := id hJ
  obtain ⟨⟨tN, tN', tl⟩, t2⟩ := id hT
  obtain ⟨⟨uN, uN', un⟩, u2⟩ := id hU
  obtain ⟨⟨b0, b1, wd0, wd1, wd2⟩, b2, b3, b4⟩ := id hB
  obtain ⟨⟨oN, oN', on⟩, o2⟩ := id hO
  have hK := cX10_clear_ok κ b σ n m j r hci
  have eL : M_clL σ n = K_clL σ n := sm_congr (fun i hi => by
    show (if σ 55 i = -1 then nI 0 else if mgl (σ 47 35) (σ 56 i) (msz σ i) then msc (σ 47 35) (σ 56 i) (msz σ i) else nI 0) = if σ 30 i = -1 then 0 else gol (σ 29 1) (σ 31 i) (σ 6 i)
    rw [R_sz c7 hi, ← b1, ← b2 i hi, ← b3 i hi, ← gol_m]; rfl)
  have eR : M_clR σ n = K_clR σ n := sm_congr (fun i hi => by
    show (if σ 55 i = -1 then nI 0 else if mgl (σ 47 35) (σ 56 i) (msz σ i) then nI 0 else msc (σ 47 35) (σ 56 i) (msz σ i)) = if σ 30 i = -1 then 0 else gor (σ 29 1) (σ 31 i) (σ 6 i)
    rw [R_sz c7 hi, ← b1, ← b2 i hi, ← b3 i hi, ← gor_m]; rfl)
  have e : M_clear (sdo σ (K_clL σ n) (K_clR σ n)) n = (K_clear σ n).1 := by
    show M_clear σ n = _
    rw [M_clear, eL, eR, K_clear, mx_le]
  have hM := cX11_clear_ok κ b (sdo σ (K_clL σ n) (K_clR σ n)) n cn cN'
  rw [e] at hM
  exact ⟨(K_clear σ n).1, sdo σ (K_clL σ n) (K_clR σ n), sdo σ (K_clL σ n) (K_clR σ n), hK, hM, ⟨n, m, j, r, l, kl, ms, hC, ‹zM σ m›, hJ, hT, hU, hB, hO, hH, hD, hQ, hKC⟩⟩
theorem B_ordered (κ : gm_K) (i : Int32) : Both κ mX10_ordered mX11_ordered [.int i] := by
  refine both_fn (fun b σ n m j r l kl ms h => ?_)
  have hci := h.ci
  have hmi := h.mi
  have hz : zS σ := ⟨n, m, j, r, l, kl, ms, h⟩
  obtain ⟨hC, hM, hJ, hT, hU, hB, hO, hH, hD, hQ, hKC⟩ := h
  obtain ⟨⟨cN, cN', cn⟩, c2, c3, c4, c5, c6, c7, c8, c9, c10, c11⟩ := id hC
  obtain ⟨⟨mN, mN', mn⟩, m2, m3, m4, m5⟩ := id hM
  obtain ⟨⟨jN, jN', jn⟩, j2, j3⟩ := id hJ
  obtain ⟨⟨tN, tN', tl⟩, t2⟩ := id hT
  obtain ⟨⟨uN, uN', un⟩, u2⟩ := id hU
  obtain ⟨⟨b0, b1, wd0, wd1, wd2⟩, b2, b3, b4⟩ := id hB
  obtain ⟨⟨oN, oN', on⟩, o2⟩ := id hO
  refine bq (K := K_ordered σ i) (M := M_ordered σ i) ?_ (cX10_ordered_ok κ b σ kl ⟨oN, on⟩ i) (cX11_ordered_ok κ b σ kl ⟨oN', on⟩ i) hz
  rw [K_ordered, M_ordered, oN, oN']
  by_cases h1 : i < 0
  · rw [if_pos h1, if_pos h1]
  · rw [if_neg h1, if_neg h1]
    by_cases h2 : nI kl ≤ i
    · rw [if_pos h2, if_pos h2]
    · rw [if_neg h2, if_neg h2]
      obtain ⟨y, hy, rfl⟩ := nI_of h1
      rw [nI_clamp hy]
      refine o2 y (Nat.not_le.mp (fun z => h2 (nI_le z (by omega))))
theorem B_hall (κ : gm_K) (p q : Int32) : Both κ mX10_hall mX11_hall [.int p, .int q] := by
  refine both_fn (fun b σ n m j r l kl ms h => ?_)
  have hci := h.ci
  have hmi := h.mi
  have hz : zS σ := ⟨n, m, j, r, l, kl, ms, h⟩
  obtain ⟨hC, hM, hJ, hT, hU, hB, hO, hH, hD, hQ, hKC⟩ := h
  obtain ⟨⟨cN, cN', cn⟩, c2, c3, c4, c5, c6, c7, c8, c9, c10, c11⟩ := id hC
  obtain ⟨⟨mN, mN', mn⟩, m2, m3, m4, m5⟩ := id hM
  obtain ⟨⟨jN, jN', jn⟩, j2, j3⟩ := id hJ
  obtain ⟨⟨tN, tN', tl⟩, t2⟩ := id hT
  obtain ⟨⟨uN, uN', un⟩, u2⟩ := id hU
  obtain ⟨⟨b0, b1, wd0, wd1, wd2⟩, b2, b3, b4⟩ := id hB
  obtain ⟨⟨oN, oN', on⟩, o2⟩ := id hO
  refine bq (K := K_hall σ p q) (M := M_hall σ p q) ?_ (cX10_hall_ok κ b σ p q) (cX11_hall_ok κ b σ p q) hz
  rw [K_hall, M_hall, wi_hs _ 3 (by decide), wi_hs _ 23 (by decide)]
  by_cases h1 : hs (nI (3 + 1)) p = false
  · rw [if_pos h1, if_pos (by rw [show hs (nI 4) p = false from h1]; rfl)]
  · rw [if_neg h1]
    by_cases h2 : hs (nI (23 + 1)) q = false
    · rw [if_pos h2, if_pos (by rw [show hs (nI 24) q = false from h2, Bool.and_false])]
    · rw [if_neg h2, if_neg (by rw [show hs (nI 4) p = true from Bool.of_not_eq_false h1, show hs (nI 24) q = true from Bool.of_not_eq_false h2]; decide)]
      obtain ⟨x, hx, rfl⟩ := hs_t (by decide) h1
      obtain ⟨y, hy, rfl⟩ := hs_t (by decide) h2
      rw [nI_clamp (by omega), nI_clamp (by omega), (hH.1 (x * 24 + y) (by omega)).1, Nat.mul_comm]
theorem B_beds (κ : gm_K) (t v : Int32) : Both κ mX10_beds mX11_beds [.int t, .int v] := by
  refine both_fn (fun b σ n m j r l kl ms h => ?_)
  have hci := h.ci
  have hmi := h.mi
  have hz : zS σ := ⟨n, m, j, r, l, kl, ms, h⟩
  obtain ⟨hC, hM, hJ, hT, hU, hB, hO, hH, hD, hQ, hKC⟩ := h
  obtain ⟨⟨cN, cN', cn⟩, c2, c3, c4, c5, c6, c7, c8, c9, c10, c11⟩ := id hC
  obtain ⟨⟨mN, mN', mn⟩, m2, m3, m4, m5⟩ := id hM
  obtain ⟨⟨jN, jN', jn⟩, j2, j3⟩ := id hJ
  obtain ⟨⟨tN, tN', tl⟩, t2⟩ := id hT
  obtain ⟨⟨uN, uN', un⟩, u2⟩ := id hU
  obtain ⟨⟨b0, b1, wd0, wd1, wd2⟩, b2, b3, b4⟩ := id hB
  obtain ⟨⟨oN, oN', on⟩, o2⟩ := id hO
  have hK := cX10_beds_ok κ b σ n m j r hci t v
  have et : mtk σ n t = tkn σ n t := sm_congr (fun i hi => by
    show (if σ 53 i = t then msz σ i else nI 0) = if σ 45 i = t then σ 6 i else 0
    rw [R_sz c7 hi, hD.2.1 i hi]; rfl)
  by_cases h1 : hs (nI 8) t = false
  · exact bo (-1) σ σ (by rw [K_beds, if_pos h1]) hK (by rw [M_beds, if_pos h1]) (cX11_beds_ok κ b σ n m j r hmi t v) hz
  by_cases h2 : wi v (nI 0) (nI 999) = false
  · exact bo (-2) σ σ (by rw [K_beds, if_neg h1, if_pos h2]) hK (by rw [M_beds, if_neg h1, if_pos h2]) (cX11_beds_ok κ b σ n m j r hmi t v) hz
  by_cases h3 : ¬ tkn σ n t ≤ v
  · exact bo (-3) σ σ (by rw [K_beds, if_neg h1, if_neg h2, if_pos h3]) hK (by rw [M_beds, if_neg h1, if_neg h2, et, if_pos h3]) (cX11_beds_ok κ b σ n m j r hmi t v) hz
  obtain ⟨x, hx, rfl⟩ := hs_t (by omega) h1
  have ex := nI_clamp (show x < 2 ^ 31 by omega)
  refine bo (σ 44 x) (us σ 44 x v) (us (us σ 44 x v) 83 x v) (by rw [K_beds, if_neg h1, if_neg h2, if_neg h3, ex]) hK ?_ (cX11_beds_ok κ b (us σ 44 x v) n m j r hmi _ v) ⟨n, m, j, r, l, kl, ms, hC, hM, hJ, hT, hU, hB, hO, hH, ⟨gE_u hD.1, hD.2⟩, hQ, hKC⟩
  have g1 : mtk (us σ 44 x v) n (nI x) = tkn σ n (nI x) := et
  have g2 : us σ 44 x v 83 x = σ 44 x := (hD.1 x hx).symm
  rw [M_beds, if_neg h1, if_neg h2, g1, if_neg h3, ex, g2]
theorem B_gap (κ : gm_K) (v : Int32) : Both κ mX10_gap mX11_gap [.int v] := by
  refine both_fn (fun b σ n m j r l kl ms h => ?_)
  have hci := h.ci
  have hmi := h.mi
  have hz : zS σ := ⟨n, m, j, r, l, kl, ms, h⟩
  obtain ⟨hC, hM, hJ, hT, hU, hB, hO, hH, hD, hQ, hKC⟩ := h
  obtain ⟨⟨cN, cN', cn⟩, c2, c3, c4, c5, c6, c7, c8, c9, c10, c11⟩ := id hC
  obtain ⟨⟨mN, mN', mn⟩, m2, m3, m4, m5⟩ := id hM
  obtain ⟨⟨jN, jN', jn⟩, j2, j3⟩ := id hJ
  obtain ⟨⟨tN, tN', tl⟩, t2⟩ := id hT
  obtain ⟨⟨uN, uN', un⟩, u2⟩ := id hU
  obtain ⟨⟨b0, b1, wd0, wd1, wd2⟩, b2, b3, b4⟩ := id hB
  obtain ⟨⟨oN, oN', on⟩, o2⟩ := id hO
  have hK := cX10_gap_ok κ b σ v
  by_cases h1 : wi v (nI 0) (nI 9) = false
  · exact bo (-2) σ σ (by rw [K_gap, if_pos h1]) hK (by rw [M_gap, if_pos h1]) (cX11_gap_ok κ b σ v) hz
  have g1 : us σ 46 0 v 47 49 = σ 46 0 := hQ.1.symm
  exact bo (σ 46 0) (us σ 46 0 v) (us (us σ 46 0 v) 47 49 v) (by rw [K_gap, if_neg h1]) hK (by rw [M_gap, if_neg h1, g1]) (cX11_gap_ok κ b (us σ 46 0 v) v) ⟨n, m, j, r, l, kl, ms, hC, hM, hJ, hT, hU, hB, hO, hH, hD, ⟨rfl, hQ.2⟩, hKC⟩
