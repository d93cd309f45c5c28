/-! sums -/
theorem sm_z {f : Nat → Int32} {n : Nat} : ∀ {m : Nat}, (∀ c, n ≤ c → c < n + m → f c = 0) → sm f (n + m) = sm f n
  | 0, _ => rfl
  | m + 1, h => by
    rw [← Nat.add_assoc, sm, sm_z (m := m) (fun c h1 h2 => h c h1 (by omega)), h (n + m) (by omega) (by omega)]
    exact Int32.add_zero _
theorem sm_up {f : Nat → Int32} {n m : Nat} (hm : n ≤ m) (h : ∀ c, n ≤ c → c < m → f c = 0) : sm f m = sm f n := by
  have := sm_z (f := f) (n := n) (m := m - n) (fun c h1 h2 => h c h1 (by omega))
  rwa [show n + (m - n) = m by omega] at this
theorem sm_one {f g : Nat → Int32} {c : Nat} (h : ∀ i, i ≠ c → g i = f i) : ∀ {n : Nat}, c < n → sm g n + f c = sm f n + g c
  | 0, hc => absurd hc (by omega)
  | n + 1, hc => by
    rw [sm, sm]
    by_cases e : c = n
    · subst e
      rw [sm_congr (f := g) (g := f) (fun i hi => h i (by omega))]
      grind
    · have ih := sm_one h (n := n) (by omega)
      rw [h n (fun z => e z.symm)]
      grind
theorem ofI_nI (x : Nat) : Int32.ofInt (x : Int) = nI x := Int32.ofInt_eq_ofNat
theorem sm_int {f : Nat → Int32} {c : Int} (hc : 0 ≤ c) : ∀ {n : Nat}, (∀ i, i < n → ∃ z : Int, -c ≤ z ∧ z ≤ c ∧ f i = Int32.ofInt z) → ∃ s : Int, -(n * c) ≤ s ∧ s ≤ n * c ∧ sm f n = Int32.ofInt s
  | 0, _ => ⟨0, by omega, by omega, rfl⟩
  | n + 1, h => by
    obtain ⟨s, h1, h2, e⟩ := sm_int hc (n := n) (fun i hi => h i (by omega))
    obtain ⟨z, h3, h4, e2⟩ := h n (by omega)
    refine ⟨s + z, ?_, ?_, ?_⟩
    · rw [Int.natCast_add, Int.add_mul]; omega
    · rw [Int.natCast_add, Int.add_mul]; omega
    · rw [sm, e, e2, Int32.ofInt_add]
theorem lt0_bt (x : Int32) : x < 0 ↔ bt x 31 = true := by
  rw [fa_lt, show (0 : Int32).toInt = 0 from rfl]
  show x.toBitVec.toInt < 0 ↔ x.toBitVec.getLsbD 31 = true
  rw [← BitVec.msb_eq_getLsbD_last x.toBitVec, BitVec.msb_eq_toInt, decide_eq_true_eq]
theorem xor_sg (x y : Int32) : 0 ≤ x ^^^ y ↔ (x < 0 ↔ y < 0) := by
  have h1 : 0 ≤ x ^^^ y ↔ ¬ (x ^^^ y) < 0 := by rw [fa_le, fa_lt]; omega
  rw [h1, lt0_bt, lt0_bt, lt0_bt, b_xor]
  cases bt x 31 <;> cases bt y 31 <;> decide
theorem dv_neg {p k : Nat} (hp : p < 2 ^ 30) (hk : 0 < k) (hk2 : k < 2 ^ 30) : -(nI p) / nI k = -(nI (p / k)) := by
  have hd : p / k ≤ p := Nat.div_le_self _ _
  have h1 : (-(nI p)).toInt = -(p : Int) := by rw [fb_negI (by rw [nI_toInt (by omega)]; omega), nI_toInt (by omega)]
  have h2 : ∀ d : Nat, d ≤ p → (-(nI d)).toInt = -(d : Int) := by
    intro d hd
    rw [fb_negI (by rw [nI_toInt (by omega)]; omega), nI_toInt (by omega)]
  apply Int32.toInt_inj.mp
  rw [Int32.toInt_div, h1, h2 _ hd, nI_toInt (by omega), Int.neg_tdiv, ← Int.ofNat_tdiv]
  generalize p / k = d at hd ⊢
  exact fb_bmod (by omega) (by omega)
theorem R_fdv {s : Int} {g : Nat} (h1 : -5000 ≤ s) (h2 : s ≤ 5000) (hg : 0 < g) (hg2 : g ≤ 16) : fdv (Int32.ofInt s) (nI g) = if Int32.ofInt s < 0 then -((-(Int32.ofInt s) + nI g - nI 1) / nI g) else Int32.ofInt s / nI g := by
  have hgp : ¬ nI g < 0 := nI_pos (by omega)
  by_cases hs : s < 0
  · obtain ⟨p, rfl⟩ : ∃ p : Nat, s = -(p : Int) := ⟨s.natAbs, by omega⟩
    have hp0 : 0 < p := by omega
    have e : Int32.ofInt (-(p : Int)) = -(nI p) := by rw [Int32.ofInt_neg, ofI_nI]
    rw [e]
    have hn : -(nI p) < 0 := by rw [fa_lt, fb_negI (by rw [nI_toInt (by omega)]; omega), nI_toInt (by omega), show (0 : Int32).toInt = 0 from rfl]; omega
    rw [if_pos hn, fdv, if_neg (fun q => hgp (((xor_sg _ _).mp q).mp hn)), dv_neg (by omega) hg (by omega), Int32.neg_neg, nI_add, pk_sub (by omega), pk_div (by omega) hg (by omega)]
    have hm : -(nI (p / g)) * nI g = -(nI (p / g * g)) := by rw [← pk_mul]; grind
    rw [hm]
    have hinj : -(nI (p / g * g)) = -(nI p) ↔ p / g * g = p := by
      constructor
      · intro q
        have q2 : nI (p / g * g) = nI p := by
          have q3 := congrArg (fun z : Int32 => -z) q
          simp only [Int32.neg_neg] at q3
          exact q3
        exact (nI_eq (by have := Nat.div_mul_le_self p g; omega) (by omega)).mp q2
      · intro q; rw [q]
    by_cases hd : p / g * g = p
    · rw [if_pos (hinj.mpr hd)]
      congr 2
      have e3 : p + g - 1 = (g - 1) + (p / g) * g := by rw [hd]; omega
      rw [e3, Nat.add_mul_div_right _ _ hg, Nat.div_eq_of_lt (show g - 1 < g by omega), Nat.zero_add]
    · rw [if_neg (fun q => hd (hinj.mp q))]
      have h3 := Nat.div_add_mod p g
      have h4 := Nat.mod_lt p hg
      have h5 : p % g ≠ 0 := fun q => hd (by rw [Nat.mul_comm]; omega)
      have e2 : (p + g - 1) / g = p / g + 1 := by
        rw [show p + g - 1 = (p % g - 1) + (p / g + 1) * g by rw [Nat.add_mul, Nat.mul_comm (p / g) g]; omega, Nat.add_mul_div_right _ _ hg, Nat.div_eq_of_lt (by omega)]
        omega
      rw [e2, ← nI_add]
      grind
  · obtain ⟨p, rfl⟩ : ∃ p : Nat, s = (p : Int) := ⟨s.natAbs, by omega⟩
    rw [ofI_nI, if_neg (nI_pos (by omega)), fdv, if_pos ((xor_sg _ _).mpr ⟨fun q => absurd q (nI_pos (by omega)), fun q => absurd q hgp⟩)]
theorem B_scale (κ : gm_K) (p q : Int32) : Both κ mX10_scale mX11_scale [.int p, .int q] := by
  refine both_fn (fun b σ n m j r l kl ms h => ?_)
  have hci := h.ci
  have hmi := h.mi
  have hz : zS σ := ⟨n, m, j, r, l, kl, ms, h⟩
  obtain ⟨hC, hM, hJ, hT, hU, hB, hO, hH, hD, hQ, hKC⟩ := h
  obtain ⟨⟨cN, cN', cn⟩, c2, c3, c4, c5, c6, c7, c8, c9, c10, c11⟩ := id hC
  obtain ⟨⟨mN, mN', mn⟩, m2, m3, m4, m5⟩ := id hM
  obtain ⟨⟨jN, jN', jn⟩, j2, j3⟩ := id hJ
  obtain ⟨⟨tN, tN', tl⟩, t2⟩ := id hT
  obtain ⟨⟨uN, uN', un⟩, u2⟩ := id hU
  obtain ⟨⟨b0, b1, wd0, wd1, wd2⟩, b2, b3, b4⟩ := id hB
  obtain ⟨⟨oN, oN', on⟩, o2⟩ := id hO
  refine bq (K := K_scale σ p q) (M := M_scale σ n p q) ?_ (cX10_scale_ok κ b σ n m j r hci p q) (cX11_scale_ok κ b σ n m j r hmi p q) hz
  rw [K_scale, M_scale, jN, jN']
  by_cases h1 : hs (nI j) p = false
  · rw [if_pos h1, if_pos h1]
  by_cases h2 : hs (nI j) q = false
  · rw [if_neg h1, if_neg h1, if_pos h2, if_pos h2]
  by_cases h3 : p = q
  · rw [if_neg h1, if_neg h1, if_neg h2, if_neg h2, if_pos h3, if_pos h3]
  rw [if_neg h1, if_neg h1, if_neg h2, if_neg h2, if_neg h3, if_neg h3]
  obtain ⟨x, hx, rfl⟩ := hs_t (by omega) h1
  obtain ⟨y, hy, rfl⟩ := hs_t (by omega) h2
  rw [nI_clamp (by omega), nI_clamp (by omega), scv, msv]
  have es : scs (fun c => σ 16 (x * 16 + c)) (fun c => σ 16 (y * 16 + c)) 16 = mss (fun c => σ 62 (16 * x + c)) (fun c => σ 62 (16 * y + c)) n := by
    rw [scs, sm_up (n := n) cn (fun c h4 h5 => ?_)]
    · refine sm_congr (fun c hc => ?_)
      obtain ⟨u, hu, g1, g2, -⟩ := j3 x (by omega) c (by omega)
      obtain ⟨v, hv, g3, g4, -⟩ := j3 y (by omega) c (by omega)
      show (if σ 16 (x * 16 + c) = -1 then 0 else if σ 16 (y * 16 + c) = -1 then 0 else σ 16 (x * 16 + c) - σ 16 (y * 16 + c)) = if σ 62 (16 * x + c) ≤ 0 then 0 else if σ 62 (16 * y + c) ≤ 0 then 0 else σ 62 (16 * x + c) - σ 62 (16 * y + c)
      rw [g1, g2, g3, g4]
      by_cases k1 : nI u ≤ 0
      · rw [if_pos k1, if_pos ((mk_one hu).mpr k1)]
      · rw [if_neg k1, if_neg (fun q => k1 ((mk_one hu).mp q))]
        by_cases k2 : nI v ≤ 0
        · rw [if_pos k2, if_pos ((mk_one hv).mpr k2)]
        · rw [if_neg k2, if_neg (fun q => k2 ((mk_one hv).mp q))]
          grind
    · obtain ⟨u, hu, g1, g2, g3⟩ := j3 x (by omega) c (by omega)
      show (if σ 16 (x * 16 + c) = -1 then 0 else _) = 0
      rw [if_pos (by rw [g2, g3 h4]; decide)]
  have eg : scg (fun c => σ 16 (x * 16 + c)) (fun c => σ 16 (y * 16 + c)) 16 = msg (fun c => σ 62 (16 * x + c)) (fun c => σ 62 (16 * y + c)) n := by
    rw [scg, sm_up (n := n) cn (fun c h4 h5 => ?_)]
    · refine sm_congr (fun c hc => ?_)
      obtain ⟨u, hu, g1, g2, -⟩ := j3 x (by omega) c (by omega)
      obtain ⟨v, hv, g3, g4, -⟩ := j3 y (by omega) c (by omega)
      show (if σ 16 (x * 16 + c) = -1 then 0 else if σ 16 (y * 16 + c) = -1 then 0 else nI 1) = if σ 62 (16 * x + c) ≤ 0 then 0 else if σ 62 (16 * y + c) ≤ 0 then 0 else nI 1
      rw [g1, g2, g3, g4]
      by_cases k1 : nI u ≤ 0
      · rw [if_pos k1, if_pos ((mk_one hu).mpr k1)]
      · rw [if_neg k1, if_neg (fun q => k1 ((mk_one hu).mp q))]
        by_cases k2 : nI v ≤ 0
        · rw [if_pos k2, if_pos ((mk_one hv).mpr k2)]
        · rw [if_neg k2, if_neg (fun q => k2 ((mk_one hv).mp q))]
    · obtain ⟨u, hu, g1, g2, g3⟩ := j3 x (by omega) c (by omega)
      show (if σ 16 (x * 16 + c) = -1 then 0 else _) = 0
      rw [if_pos (by rw [g2, g3 h4]; decide)]
  rw [es, eg]
  obtain ⟨g, hg, e2⟩ := sm_nat (f := fun c => if (fun c => σ 62 (16 * x + c)) c ≤ 0 then 0 else if (fun c => σ 62 (16 * y + c)) c ≤ 0 then 0 else nI 1) (c := 1) (n := n) (fun c hc => by
    show ∃ z, z ≤ 1 ∧ (if σ 62 (16 * x + c) ≤ 0 then 0 else if σ 62 (16 * y + c) ≤ 0 then 0 else nI 1) = nI z
    by_cases k1 : σ 62 (16 * x + c) ≤ 0
    · rw [if_pos k1]; exact ⟨0, by omega, rfl⟩
    · rw [if_neg k1]
      by_cases k2 : σ 62 (16 * y + c) ≤ 0
      · rw [if_pos k2]; exact ⟨0, by omega, rfl⟩
      · rw [if_neg k2]; exact ⟨1, by omega, rfl⟩)
  have e2 : msg (fun c => σ 62 (16 * x + c)) (fun c => σ 62 (16 * y + c)) n = nI g := e2
  rw [e2]
  by_cases hg0 : g = 0
  · subst hg0; rw [show nI 0 = (0 : Int32) from rfl, if_pos rfl, if_pos rfl]
  · rw [if_neg (nI_ne0 (by omega) (by omega)), if_neg (nI_ne0 (by omega) (by omega))]
    obtain ⟨s, hs1, hs2, e1⟩ := sm_int (c := 101) (by omega) (f := fun c => if (fun c => σ 62 (16 * x + c)) c ≤ 0 then 0 else if (fun c => σ 62 (16 * y + c)) c ≤ 0 then 0 else (fun c => σ 62 (16 * x + c)) c - (fun c => σ 62 (16 * y + c)) c) (n := n) (fun c hc => by
      show ∃ z : Int, -101 ≤ z ∧ z ≤ 101 ∧ (if σ 62 (16 * x + c) ≤ 0 then 0 else if σ 62 (16 * y + c) ≤ 0 then 0 else σ 62 (16 * x + c) - σ 62 (16 * y + c)) = Int32.ofInt z
      obtain ⟨u, hu, g1, g2, -⟩ := j3 x (by omega) c (by omega)
      obtain ⟨v, hv, g3, g4, -⟩ := j3 y (by omega) c (by omega)
      rw [g1, g3]
      by_cases k1 : nI u ≤ 0
      · rw [if_pos k1]; exact ⟨0, by omega, by omega, rfl⟩
      · rw [if_neg k1]
        by_cases k2 : nI v ≤ 0
        · rw [if_pos k2]; exact ⟨0, by omega, by omega, rfl⟩
        · rw [if_neg k2]
          exact ⟨(u : Int) - v, by omega, by omega, by rw [Int32.ofInt_sub, ofI_nI, ofI_nI]⟩)
    have e1 : mss (fun c => σ 62 (16 * x + c)) (fun c => σ 62 (16 * y + c)) n = Int32.ofInt s := e1
    rw [e1]
    exact R_fdv (by omega) (by omega) (by omega) (by omega)
theorem B_sleep (κ : gm_K) (c t : Int32) : Both κ mX10_sleep mX11_sleep [.int c, .int t] := by
  refine both_fn (fun b σ n m j r l kl ms h => ?_)
  have hci := h.ci
  have hmi := h.mi
  have hz : zS σ := ⟨n, m, j, r, l, kl, ms, h⟩
  obtain ⟨hC, hM, hJ, hT, hU, hB, hO, hH, hD, hQ, hKC⟩ := h
  obtain ⟨⟨cN, cN', cn⟩, c2, c3, c4, c5, c6, c7, c8, c9, c10, c11⟩ := id hC
  obtain ⟨⟨mN, mN', mn⟩, m2, m3, m4, m5⟩ := id hM
  obtain ⟨⟨jN, jN', jn⟩, j2, j3⟩ := id hJ
  obtain ⟨⟨tN, tN', tl⟩, t2⟩ := id hT
  obtain ⟨⟨uN, uN', un⟩, u2⟩ := id hU
  obtain ⟨⟨b0, b1, wd0, wd1, wd2⟩, b2, b3, b4⟩ := id hB
  obtain ⟨⟨oN, oN', on⟩, o2⟩ := id hO
  have hK := cX10_sleep_ok κ b σ n m j r hci c t
  by_cases h1 : hs (nI n) c = false
  · exact bo (-5) σ σ (by rw [K_sleep, cN, if_pos h1]) hK (by rw [M_sleep, cN', if_pos h1]) (cX11_sleep_ok κ b σ n m j r hmi c t) hz
  obtain ⟨x, hx, rfl⟩ := hs_t (by omega) h1
  have ex := nI_clamp (show x < 2 ^ 31 by omega)
  have hL : ∀ t, gL n (upd (σ 45) x t) (upd (σ 53) x t) := fun t => ⟨gE_u hD.2.1, fun c g1 g2 => by rw [pk_un (by omega)]; exact hD.2.2 c g1 g2⟩
  by_cases h2 : t = -1
  · refine bo (σ 45 x) (us σ 45 x (-1)) (us (us σ 45 x (-1)) 53 x (-1)) (by rw [K_sleep, cN, if_neg h1, if_pos h2, ex]) hK ?_ (cX11_sleep_ok κ b (us σ 45 x (-1)) n m j r hmi _ t) ⟨n, m, j, r, l, kl, ms, hC, hM, hJ, hT, hU, hB, hO, hH, ⟨hD.1, hL _⟩, hQ, hKC⟩
    have e1 : us σ 45 x (-1) 47 0 = nI n := cN'
    have e2 : us σ 45 x (-1) 53 x = σ 45 x := (hD.2.1 x hx).symm
    rw [M_sleep, e1, if_neg h1, if_pos h2, ex, e2]
  by_cases h3 : hs (nI 8) t = false
  · exact bo (-5) σ σ (by rw [K_sleep, cN, if_neg h1, if_neg h2, if_pos h3]) hK (by rw [M_sleep, cN', if_neg h1, if_neg h2, if_pos h3]) (cX11_sleep_ok κ b σ n m j r hmi _ t) hz
  obtain ⟨y, hy, rfl⟩ := hs_t (by omega) h3
  have ey := nI_clamp (show y < 2 ^ 31 by omega)
  have et : mtk (us σ 53 x (-1)) n (nI y) + (if σ 45 x = nI y then σ 6 x else nI 0) = tkn σ n (nI y) := by
    have h4 : sm (fun i => if σ 45 i = nI y then σ 6 i else 0) n = sm (fun i => if σ 53 i = nI y then msz σ i else nI 0) n := sm_congr (fun i hi => by
      show (if σ 45 i = nI y then σ 6 i else 0) = if σ 53 i = nI y then msz σ i else nI 0
      rw [R_sz c7 hi, hD.2.1 i hi]; rfl)
    have h5 := sm_one (f := fun i => if σ 53 i = nI y then msz σ i else nI 0) (g := fun i => if us σ 53 x (-1) 53 i = nI y then msz (us σ 53 x (-1)) i else nI 0) (c := x) (fun i hi => by
      show (if upd (σ 53) x (-1) i = nI y then msz σ i else nI 0) = if σ 53 i = nI y then msz σ i else nI 0
      rw [pk_un hi]) hx
    have h6 : (if us σ 53 x (-1) 53 x = nI y then msz (us σ 53 x (-1)) x else nI 0) = nI 0 := by
      show (if upd (σ 53) x (-1) x = nI y then msz σ x else nI 0) = nI 0
      rw [pk_us, if_neg (fun q => nI_m1 (show y < 2 ^ 31 by omega) q.symm)]
    have h7 : (if σ 53 x = nI y then msz σ x else nI 0) = if σ 45 x = nI y then σ 6 x else nI 0 := by rw [R_sz c7 hx, hD.2.1 x hx]
    rw [h6, h7] at h5
    show sm (fun i => if us σ 53 x (-1) 53 i = nI y then msz (us σ 53 x (-1)) i else nI 0) n + _ = sm (fun i => if σ 45 i = nI y then σ 6 i else 0) n
    rw [h4, h5]
    exact Int32.add_zero _
  have ec : ctk σ n y x = false ↔ (nI y = σ 49 x ∨ ¬ msz σ x ≤ σ 83 y - mtk (us σ 53 x (-1)) n (nI y)) := by
    have e3 : bfr σ n x y = σ 83 y - mtk (us σ 53 x (-1)) n (nI y) := by
      rw [bfr, fbd, ← et, hD.1 y hy]
      grind
    have h9 : ∀ p q : Int32, p < q ↔ ¬ q ≤ p := fun p q => by rw [fa_le, fa_lt]; omega
    rw [ctk, e3, R_sz c7 hx, c4 x hx, Bool.and_eq_false_iff, Bool.not_eq_false', Bool.not_eq_false', decide_eq_true_eq, decide_eq_true_eq, h9]
  by_cases h4 : nI y = σ 49 x
  · exact bo (-3) σ σ (by rw [K_sleep, cN, if_neg h1, if_neg h2, if_neg h3, ex, ey, if_pos (ec.mpr (Or.inl h4))]) hK (by rw [M_sleep, cN', if_neg h1, if_neg h2, if_neg h3, ex, ey, if_pos h4]) (cX11_sleep_ok κ b σ n m j r hmi _ _) hz
  by_cases h5 : ¬ msz σ x ≤ σ 83 y - mtk (us σ 53 x (-1)) n (nI y)
  · exact bo (-3) σ σ (by rw [K_sleep, cN, if_neg h1, if_neg h2, if_neg h3, ex, ey, if_pos (ec.mpr (Or.inr h5))]) hK (by rw [M_sleep, cN', if_neg h1, if_neg h2, if_neg h3, ex, ey, if_neg h4, if_pos h5]) (cX11_sleep_ok κ b σ n m j r hmi _ _) hz
  refine bo (σ 45 x) (us σ 45 x (nI y)) (us (us σ 45 x (nI y)) 53 x (nI y)) (by rw [K_sleep, cN, if_neg h1, if_neg h2, if_neg h3, ex, ey, if_neg (fun q => by rcases ec.mp q with q | q; exact h4 q; exact h5 q)]) hK ?_ (cX11_sleep_ok κ b (us σ 45 x (nI y)) n m j r hmi _ _) ⟨n, m, j, r, l, kl, ms, hC, hM, hJ, hT, hU, hB, hO, hH, ⟨hD.1, hL _⟩, hQ, hKC⟩
  have e1 : us σ 45 x (nI y) 47 0 = nI n := cN'
  have e2 : us σ 45 x (nI y) 53 x = σ 45 x := (hD.2.1 x hx).symm
  have e3 : us σ 45 x (nI y) 49 x = σ 49 x := rfl
  have e4 : us σ 45 x (nI y) 83 y = σ 83 y := rfl
  have e5 : mtk (us (us σ 45 x (nI y)) 53 x (-1)) n (nI y) = mtk (us σ 53 x (-1)) n (nI y) := rfl
  have e6 : msz (us σ 45 x (nI y)) x = msz σ x := rfl
  rw [M_sleep, e1, if_neg h1, if_neg h2, if_neg h3, ex, ey, e3, if_neg h4, e4, e5, e6, if_neg h5, e2]
/-! bed: town by town, choir by choir -/
theorem R_ttn {σ τ : wg_S} {n i : Nat} (h44 : ∀ t, t < 8 → σ 44 t = τ 83 t) (hs : ∀ c, c < n → σ 45 c = τ 53 c) (hz : ∀ c, c < n → msz τ c = σ 6 c) (h3 : σ 3 i = τ 49 i) (hi : i < n) (h45 : σ 45 i = -1) : ∀ t, t ≤ 8 → ttn σ n i t = mbt τ n i t
  | 0, _ => rfl
  | t + 1, ht => by
    have ih := R_ttn h44 hs hz h3 hi h45 t (by omega)
    have hf : ∀ t, t < 8 → fbd σ n t = mfb τ n t := by
      intro t ht
      rw [fbd, mfb, h44 t ht]
      congr 1
      exact sm_congr (fun c hc => by
        show (if σ 45 c = nI t then σ 6 c else 0) = if τ 53 c = nI t then msz τ c else nI 0
        rw [hs c hc, hz c hc]; rfl)
    have hc : ctk σ n t i = mft τ n i t := by
      rw [ctk, mft, bfr, h45, if_neg (fun q => nI_m1 (show t < 2 ^ 31 by omega) q.symm), h3, hf t (by omega), hz i hi]
      congr 3
      rw [show mfb τ n t + nI 0 = mfb τ n t from Int32.add_zero _]
    rw [ttn, mbt, ih, hc, Bool.and_comm]
    cases hm : mbt τ n i t with
    | none => rfl
    | some u =>
      have hu : u < 8 := by
        have := ttn_lt σ n i t u (ih.trans hm)
        omega
      simp only [hf u hu, hf t (show t < 8 by omega)]
theorem R_bed1 {X Y : Int32 × wg_S} {σ : wg_S} {n i : Nat} {set d d' : Int32} {w w' : Option Nat} (hi : i < n) (e1 : X.1 = Y.1) (e2 : ∀ c, c < n → X.2 45 c = Y.2 53 c) (e3 : ∀ c, i ≤ c → X.2 45 c = σ 45 c) (hw : bv set i = nI 1 ∧ X.2 45 i = -1 → d = d' ∧ w = w') :
    (if bv set i = nI 1 ∧ X.2 45 i = -1 then (X.1 + d, us X.2 45 i (oI w)) else X).1 = (if bv set i = nI 1 ∧ Y.2 53 i = -1 then (Y.1 + d', us Y.2 53 i (oI w')) else Y).1
    ∧ (∀ c, c < n → (if bv set i = nI 1 ∧ X.2 45 i = -1 then (X.1 + d, us X.2 45 i (oI w)) else X).2 45 c = (if bv set i = nI 1 ∧ Y.2 53 i = -1 then (Y.1 + d', us Y.2 53 i (oI w')) else Y).2 53 c)
    ∧ ∀ c, i + 1 ≤ c → (if bv set i = nI 1 ∧ X.2 45 i = -1 then (X.1 + d, us X.2 45 i (oI w)) else X).2 45 c = σ 45 c := by
  by_cases hc : bv set i = nI 1 ∧ X.2 45 i = -1
  · have hc' : bv set i = nI 1 ∧ Y.2 53 i = -1 := ⟨hc.1, (e2 i hi).symm.trans hc.2⟩
    obtain ⟨rfl, rfl⟩ := hw hc
    rw [if_pos hc, if_pos hc']
    refine ⟨?_, fun c hcn => ?_, fun c hci => ?_⟩
    · show X.1 + _ = Y.1 + _
      rw [e1]
    · show us X.2 45 i (oI w) 45 c = us Y.2 53 i (oI w) 53 c
      rw [us_e, us_e]
      by_cases e : c = i
      · subst e; rw [pk_us, pk_us]
      · rw [pk_un e, pk_un e]; exact e2 c hcn
    · show us X.2 45 i (oI w) 45 c = σ 45 c
      rw [us_e, pk_un (by omega)]
      exact e3 c (by omega)
  · have hc' : ¬ (bv set i = nI 1 ∧ Y.2 53 i = -1) := fun q => hc ⟨q.1, (e2 i hi).trans q.2⟩
    rw [if_neg hc, if_neg hc']
    exact ⟨e1, e2, fun c hci => e3 c (by omega)⟩
theorem R_bed {σ τ : wg_S} {n : Nat} {set : Int32} (h44 : ∀ t, t < 8 → σ 44 t = τ 83 t) (hs : ∀ c, c < n → σ 45 c = τ 53 c) (hz : ∀ c, c < n → msz τ c = σ 6 c) (h3 : ∀ c, c < n → σ 3 c = τ 49 c) : ∀ i, i ≤ n → (bdl σ n set i).1 = (mbl τ n set i).1 ∧ (∀ c, c < n → (bdl σ n set i).2 45 c = (mbl τ n set i).2 53 c) ∧ ∀ c, i ≤ c → (bdl σ n set i).2 45 c = σ 45 c
  | 0, _ => ⟨rfl, hs, fun c _ => rfl⟩
  | i + 1, hi => by
    obtain ⟨e1, e2, e3⟩ := R_bed h44 hs hz h3 i (by omega)
    have p44 : (bdl σ n set i).2 44 = σ 44 := bdl_p (p := 44) (by decide) i
    have p6 : (bdl σ n set i).2 6 = σ 6 := bdl_p (p := 6) (by decide) i
    have p3 : (bdl σ n set i).2 3 = σ 3 := bdl_p (p := 3) (by decide) i
    have q83 : (mbl τ n set i).2 83 = τ 83 := mbl_p (p := 83) (by decide) i
    have q50 : (mbl τ n set i).2 50 = τ 50 := mbl_p (p := 50) (by decide) i
    have q49 : (mbl τ n set i).2 49 = τ 49 := mbl_p (p := 49) (by decide) i
    rw [bdl_s, mbl_s]
    refine R_bed1 (by omega) e1 e2 e3 (fun hc => ?_)
    have ht : ttn (bdl σ n set i).2 n i 8 = mbt (mbl τ n set i).2 n i 8 := by
      refine R_ttn (fun t ht => ?_) e2 (fun c hc => ?_) ?_ (by omega) hc.2 8 (Nat.le_refl _)
      · rw [p44, q83]; exact h44 t ht
      · rw [p6, ← hz c hc]
        simp only [msz, q50]
      · rw [p3, q49]; exact h3 i (by omega)
    refine ⟨?_, ht⟩
    rw [ht]
    generalize mbt (mbl τ n set i).2 n i 8 = w
    cases w <;> rfl
theorem B_bed (κ : gm_K) (set : Int32) : Both κ mX10_bed mX11_bed [.int set] := by
  refine both_fn (fun b σ n m j r l kl ms h => ?_)
  have hci := h.ci
  have hmi := h.mi
  have hz : zS σ := ⟨n, m, j, r, l, kl, ms, h⟩
  obtain ⟨hC, hM, hJ, hT, hU, hB, hO, hH, hD, hQ, hKC⟩ := h
  obtain ⟨⟨cN, cN', cn⟩, c2, c3, c4, c5, c6, c7, c8, c9, c10, c11⟩ := id hC
  obtain ⟨⟨mN, mN', mn⟩, m2, m3, m4, m5⟩ := id hM
  obtain ⟨⟨jN, jN', jn⟩, j2, j3⟩ := id hJ
  obtain ⟨⟨tN, tN', tl⟩, t2⟩ := id hT
  obtain ⟨⟨uN, uN', un⟩, u2⟩ := id hU
  obtain ⟨⟨b0, b1, wd0, wd1, wd2⟩, b2, b3, b4⟩ := id hB
  obtain ⟨⟨oN, oN', on⟩, o2⟩ := id hO
  have hK := cX10_bed_ok κ b σ n m j r hci set
  by_cases h1 : ∃ u, u < 2 ^ n ∧ set = nI u
  · have hm := (set_m cn).mpr h1
    have h2 := (set_in cn).mpr h1
    have eK : K_bed σ n set = bdl σ n set n := by rw [K_bed, cN, if_pos h2]
    rw [eK] at hK
    have hp : ∀ p, p ≠ 45 → (bdl σ n set n).2 p = σ p := fun p hp => bdl_p hp n
    have hmi2 : MI (bdl σ n set n).2 n m j r := by
      unfold MI mtn MX mxa mxb at hmi ⊢
      rw [hp 47 (by decide), hp 66 (by decide), hp 48 (by decide), hp 51 (by decide)]
      exact hmi
    have hMk := cX11_bed_ok κ b (bdl σ n set n).2 n m j r hmi2 set
    have eM : M_bed (bdl σ n set n).2 n set = mbl (bdl σ n set n).2 n set n := by rw [M_bed, hp 47 (by decide), cN', if_neg hm.1, if_neg (fun q => q hm.2)]
    rw [eM] at hMk
    obtain ⟨e1, e2, e3⟩ := R_bed (σ := σ) (τ := (bdl σ n set n).2) (set := set) (n := n) (fun t ht => by rw [hp 83 (by decide)]; exact hD.1 t ht) (fun c hc => by rw [hp 53 (by decide)]; exact hD.2.1 c hc) (fun c hc => by unfold msz; rw [hp 50 (by decide)]; exact R_sz c7 hc) (fun c hc => by rw [hp 49 (by decide)]; exact c4 c hc) n (Nat.le_refl _)
    refine ⟨(bdl σ n set n).1, (bdl σ n set n).2, (mbl (bdl σ n set n).2 n set n).2, hK, ?_, ?_⟩
    · rw [e1]; exact hMk
    · have hq : ∀ p, p ≠ 45 → p ≠ 53 → (mbl (bdl σ n set n).2 n set n).2 p = σ p := fun p h3 h4 => by rw [mbl_p h4 n, hp p h3]
      refine ⟨n, m, j, r, l, kl, ms, ?_, ?_, ?_, ?_, ?_, ?_, ?_, ?_, ?_, ?_, ?_⟩
      · unfold zC; simp (discharger := decide) only [hq]; exact hC
      · unfold zM; simp (discharger := decide) only [hq]; exact hM
      · unfold zJ; simp (discharger := decide) only [hq]; exact hJ
      · unfold zT; simp (discharger := decide) only [hq]; exact hT
      · unfold zU; simp (discharger := decide) only [hq]; exact hU
      · unfold zB; simp (discharger := decide) only [hq]; exact hB
      · unfold zO; simp (discharger := decide) only [hq]; exact hO
      · unfold zH; simp (discharger := decide) only [hq]; exact hH
      · refine ⟨?_, ?_, ?_⟩
        · simp (discharger := decide) only [hq]; exact hD.1
        · intro c hc
          rw [mbl_p (p := 45) (by decide) n]
          exact e2 c hc
        · intro c h3 h4
          rw [mbl_p (p := 45) (by decide) n, e3 c h3]
          exact hD.2.2 c h3 h4
      · unfold zQ; simp (discharger := decide) only [hq]; exact hQ
      · unfold KC; simp (discharger := decide) only [hq]; exact hKC
  · have h2 : ¬ set &&& -(nI 1 <<< (nI n &&& 31)) = 0 := fun q => h1 ((set_in cn).mp q)
    have h3 : ¬ (¬ set < 0 ∧ set < nI 1 <<< (nI n &&& 31)) := fun q => h1 ((set_m cn).mp q)
    refine bo (-2) σ σ (by rw [K_bed, cN, if_neg h2]) hK ?_ (cX11_bed_ok κ b σ n m j r hmi set) hz
    rw [M_bed, cN']
    by_cases h4 : set < 0
    · rw [if_pos h4]
    · rw [if_neg h4, if_pos (fun q => h3 ⟨h4, q⟩)]
def md70 (τ σ : wg_S) : Prop := ∀ p, 47 ≤ p → p < 70 → τ p = σ p
theorem msz_md {τ σ : wg_S} (h : md70 τ σ) (c : Nat) : msz τ c = msz σ c := by simp only [msz, h 50 (by decide) (by decide)]
theorem mth_md {τ σ : wg_S} (h : md70 τ σ) (c : Nat) : mth τ c = mth σ c := by
  unfold mth mhc mxa mxb
  rw [h 47 (by decide) (by decide), h 48 (by decide) (by decide), h 51 (by decide) (by decide)]
theorem mhl_md {τ σ : wg_S} (h : md70 τ σ) (j k c s : Nat) : mhl τ j k c s = mhl σ j k c s := by
  have e : mht τ j k c s = mht σ j k c s := by
    unfold mht mts mvl mmc
    rw [msz_md h, h 47 (by decide) (by decide), h 49 (by decide) (by decide), h 59 (by decide) (by decide), h 62 (by decide) (by decide), h 67 (by decide) (by decide), h 68 (by decide) (by decide), h 69 (by decide) (by decide)]
  unfold mhl mhk mtn
  rw [e, h 48 (by decide) (by decide), h 65 (by decide) (by decide), h 66 (by decide) (by decide)]
theorem mrl_md {τ σ : wg_S} (h : md70 τ σ) (j c s : Nat) : ∀ k, mrl τ j c s k = mrl σ j c s k
  | 0 => rfl
  | k + 1 => by rw [mrl, mrl, mhl_md h, mrl_md h j c s k]
theorem mvd_md {τ σ : wg_S} (h : md70 τ σ) (j r c s : Nat) : mvd τ j r c s = mvd σ j r c s := by
  have e : mvo τ c s = mvo σ c s := by
    unfold mvo
    rw [h 50 (by decide) (by decide), h 58 (by decide) (by decide)]
  unfold mvd
  rw [mth_md h, mrl_md h, e, h 48 (by decide) (by decide), h 57 (by decide) (by decide), h 64 (by decide) (by decide)]
/-! who may sing -/
theorem bt_ctm {σ : wg_S} {n m j r s i : Nat} (hC : zC σ n) (hM : zM σ m) (hJ : zJ σ n j) (hU : zU σ r) (hs : s < m) (hi : i < 32) : bt (ctm σ n j r s) i = (decide (i < n) && decide (mvd σ j r i s = 0)) := by
  have hn := hC.1.2.2
  rw [ctm, bt_om _ n (by omega) i hi]
  by_cases h : i < n
  · rw [R_vd hC hM hJ hU h hs]
  · rw [decide_eq_false h]; rfl
theorem po_m (x : Int32) {e : Nat} (h0 : 0 < e) (h1 : e < 2 ^ 31) : po x (nI e) = mup x (nI e) := by
  rw [po, mup, if_neg (nI_nle h0 h1)]
/-- a set of choirs, as class and reference ask -/
theorem set_k {set : Int32} {n : Nat} (hn : n ≤ 16) : (!decide (set = 0) && decide (set &&& -(nI 1 <<< (nI n &&& 31)) = 0)) = true ↔ ∃ u, 0 < u ∧ u < 2 ^ n ∧ set = nI u := by
  have h2 := p2_16 hn
  rw [Bool.and_eq_true, Bool.not_eq_true', decide_eq_false_iff_not, decide_eq_true_eq, set_in hn]
  constructor
  · rintro ⟨h, u, hu, rfl⟩
    exact ⟨u, Nat.pos_of_ne_zero (fun q => h (by rw [q]; rfl)), hu, rfl⟩
  · rintro ⟨u, h0, hu, rfl⟩
    exact ⟨nI_ne0 h0 (by omega), u, hu, rfl⟩
theorem set_l {set : Int32} {n : Nat} (hn : n ≤ 16) : (¬ set ≤ 0 ∧ set < nI 1 <<< (nI n &&& 31)) ↔ ∃ u, 0 < u ∧ u < 2 ^ n ∧ set = nI u := by
  have h2 := p2_16 hn
  constructor
  · rintro ⟨h, h3⟩
    obtain ⟨u, hu, rfl⟩ := (set_m hn).mp ⟨fun q => h (fa_of_lt q).1, h3⟩
    exact ⟨u, Nat.pos_of_ne_zero (fun q => h (by rw [q]; decide)), hu, rfl⟩
  · rintro ⟨u, h0, hu, rfl⟩
    exact ⟨nI_nle h0 (by omega), ((set_m hn).mpr ⟨u, hu, rfl⟩).2⟩
theorem tb_hi {u n i : Nat} (hu : u < 2 ^ n) (h : n ≤ i) : u.testBit i = false := Nat.testBit_lt_two_pow (Nat.lt_of_lt_of_le hu (Nat.pow_le_pow_right (by decide) h))
theorem B_rehearse (κ : gm_K) (p q s set : Int32) : Both κ mX10_rehearse mX11_rehearse [.int p, .int q, .int s, .int set] := by
  refine both_fn (fun b σ n m j r l kl ms h => ?_)
  have hci := h.ci
  have hmi := h.mi
  have hz : zS σ := ⟨n, m, j, r, l, kl, ms, h⟩
  obtain ⟨hC, hM, hJ, hT, hU, hB, hO, hH, hD, hQ, hKC⟩ := h
  obtain ⟨⟨cN, cN', cn⟩, c2, c3, c4, c5, c6, c7, c8, c9, c10, c11⟩ := id hC
  obtain ⟨⟨mN, mN', mn⟩, m2, m3, m4, m5⟩ := id hM
  obtain ⟨⟨jN, jN', jn⟩, j2, j3⟩ := id hJ
  obtain ⟨⟨tN, tN', tl⟩, t2⟩ := id hT
  obtain ⟨⟨uN, uN', un⟩, u2⟩ := id hU
  obtain ⟨⟨b0, b1, wd0, wd1, wd2⟩, b2, b3, b4⟩ := id hB
  obtain ⟨⟨oN, oN', on⟩, o2⟩ := id hO
  have hK := cX10_rehearse_ok κ b σ n m j r hci p q s set
  by_cases h1 : hs (nI 4) p = false
  · exact bo (-1) σ σ (by rw [K_rehearse, h1, if_pos (by rfl)]) hK (by rw [M_rehearse, wi_hs _ 3 (by decide), if_pos h1]) (cX11_rehearse_ok κ b σ n m j r hmi p q s set) hz
  have h1' : hs (nI 4) p = true := Bool.of_not_eq_false h1
  by_cases h2 : hs (nI 24) q = false
  · exact bo (-1) σ σ (by rw [K_rehearse, h1', h2, if_pos (by rfl)]) hK (by rw [M_rehearse, wi_hs _ 3 (by decide), if_neg h1, wi_hs _ 23 (by decide), if_pos h2]) (cX11_rehearse_ok κ b σ n m j r hmi p q s set) hz
  have h2' : hs (nI 24) q = true := Bool.of_not_eq_false h2
  by_cases h3 : hs (nI m) s = false
  · exact bo (-1) σ σ (by rw [K_rehearse, h1', h2', if_neg (by decide), mN, if_pos h3]) hK (by rw [M_rehearse, wi_hs _ 3 (by decide), if_neg h1, wi_hs _ 23 (by decide), if_neg h2, mN', if_pos h3]) (cX11_rehearse_ok κ b σ n m j r hmi p q s set) hz
  by_cases h4 : ¬ ∃ u, 0 < u ∧ u < 2 ^ n ∧ set = nI u
  · have k1 : (!decide (set = 0) && decide (set &&& -(nI 1 <<< (nI n &&& 31)) = 0)) = false := Bool.eq_false_iff.mpr (fun z => h4 ((set_k cn).mp z))
    have k2 : ¬ (¬ set ≤ 0 ∧ set < nI 1 <<< (nI n &&& 31)) := fun z => h4 ((set_l cn).mp z)
    refine bo (-2) σ σ (by rw [K_rehearse, h1', h2', if_neg (by decide), mN, if_neg h3, cN, if_pos k1]) hK ?_ (cX11_rehearse_ok κ b σ n m j r hmi p q s set) hz
    rw [M_rehearse, wi_hs _ 3 (by decide), if_neg h1, wi_hs _ 23 (by decide), if_neg h2, mN', if_neg h3, cN']
    by_cases k3 : set ≤ 0
    · rw [if_pos k3]
    · rw [if_neg k3, if_pos (fun z => k2 ⟨k3, z⟩)]
  have h4 := Classical.not_not.mp h4
  have k1 := (set_k cn).mpr h4
  have k2 := (set_l cn).mpr h4
  obtain ⟨x, hx, rfl⟩ := hs_t (by omega) h1
  obtain ⟨y, hy, rfl⟩ := hs_t (by omega) h2
  obtain ⟨z, hz', rfl⟩ := hs_t (by omega) h3
  obtain ⟨u, hu0, hu, rfl⟩ := h4
  have hp2 := p2_16 cn
  have ex := nI_clamp (show x < 2 ^ 31 by omega)
  have ey := nI_clamp (show y < 2 ^ 31 by omega)
  have ez := nI_clamp (show z < 2 ^ 31 by omega)
  have e24 : x * 24 + y = 24 * x + y := by omega
  have hk96 : 24 * x + y < 96 := by omega
  obtain ⟨f1, f2, w, hw, f3⟩ := hH.1 (24 * x + y) hk96
  have g1 : nI u &&& (ctm σ n j r z ^^^ -1) = 0 ↔ alb (fun c => decide (bv (nI u) c = 0) || decide (mvd σ j r c z = 0)) n = true := by
    rw [bt_sub, alb_iff]
    constructor
    · intro h c hc
      by_cases hb : bt (nI u) c = true
      · have := h c (by omega) hb
        rw [bt_ctm hC hM hJ hU hz' (by omega), Bool.and_eq_true] at this
        rw [this.2, Bool.or_true]
      · rw [decide_eq_true ((bv_0 (by omega)).mpr (Bool.eq_false_iff.mpr hb)), Bool.true_or]
    · intro h i hi hb
      have hin : i < n := by
        apply Nat.not_le.mp
        intro h5
        rw [bt_nI hi, tb_hi hu h5] at hb
        exact absurd hb (by decide)
      have := h i hin
      rw [decide_eq_false (fun q => by rw [(bv_0 hi).mp q] at hb; exact absurd hb (by decide)), Bool.false_or] at this
      rw [bt_ctm hC hM hJ hU hz' hi, this, decide_eq_true hin]; rfl
  have g2 : σ 41 (24 * x + y) = -1 ↔ σ 81 (24 * x + y) = 0 := by
    rw [f1, f3]
    by_cases h0 : w = 0
    · subst h0; decide
    · rw [pk_sub (by omega)]
      exact ⟨fun q => absurd q (nI_m1 (by omega)), fun q => absurd q (nI_ne0 (by omega) (by omega))⟩
  have g3 : orf (fun x => σ 42 (x * 24 + y)) 4 &&& nI u = 0 ↔ alb (fun h => decide (σ 82 (24 * h + y) &&& nI u = 0)) 4 = true := by
    rw [bt_disj, alb_iff]
    constructor
    · intro h k hk
      rw [decide_eq_true_eq, bt_disj]
      intro i hi hb
      refine h i hi ((bt_orf _ i 4).mpr ⟨k, hk, ?_⟩)
      show bt (σ 42 (k * 24 + y)) i = true
      rw [Nat.mul_comm, (hH.1 (24 * k + y) (by omega)).2.1]
      exact hb
    · intro h i hi hb
      obtain ⟨k, hk, hb⟩ := (bt_orf _ i 4).mp hb
      have hb : bt (σ 42 (k * 24 + y)) i = true := hb
      rw [Nat.mul_comm, (hH.1 (24 * k + y) (by omega)).2.1] at hb
      have := h k hk
      rw [decide_eq_true_eq, bt_disj] at this
      exact this i hi hb
  have g4 : rg2 σ j r x y z (nI u) n = true ↔ (σ 81 (24 * x + y) = 0 ∧ alb (fun h => decide (σ 82 (24 * h + y) &&& nI u = 0)) 4 = true) ∧ alb (fun c => decide (bv (nI u) c = 0) || decide (mvd σ j r c z = 0)) n = true := by
    rw [rg2, rg1, Bool.and_eq_true, Bool.and_eq_true, decide_eq_true_eq]
  have hKr : ∀ a, K_rehearse σ n j r (nI x) (nI y) (nI z) (nI u) = a ↔ (if ¬ nI u &&& (ctm σ n j r z ^^^ -1) = 0 then (-3, σ) else if ¬ σ 41 (24 * x + y) = -1 then (-3, σ) else if ¬ orf (fun x => σ 42 (x * 24 + y)) 4 &&& nI u = 0 then (-3, σ)
      else (bct (nI u), us (us (us σ 41 (24 * x + y) (nI z)) 42 (24 * x + y) (nI u)) 13 z (σ 13 z ||| nI u))) = a := by
    intro a
    rw [K_rehearse, h1', h2', if_neg (by decide), mN, if_neg h3, cN, k1, if_neg (by decide), ex, ey, ez, e24]
  have hMr : ∀ τ : wg_S, τ 47 = σ 47 → M_rehearse τ n j r (nI x) (nI y) (nI z) (nI u) = if rg2 τ j r x y z (nI u) n = false then (-3, τ) else (sm (bv (nI u)) 31, us (us τ 81 (24 * x + y) (nI (z + 1))) 82 (24 * x + y) (nI u)) := by
    intro τ hτ
    rw [M_rehearse, wi_hs _ 3 (by decide), if_neg h1, wi_hs _ 23 (by decide), if_neg h2, hτ, mN', if_neg h3, cN', if_neg k2.1, if_neg (fun q => q k2.2), ex, ey, ez]
  by_cases h5 : rg2 σ j r x y z (nI u) n = true
  · obtain ⟨⟨a1, a2⟩, a3⟩ := g4.mp h5
    refine bo (bct (nI u)) (us (us (us σ 41 (24 * x + y) (nI z)) 42 (24 * x + y) (nI u)) 13 z (σ 13 z ||| nI u)) (us (us (us (us (us σ 41 (24 * x + y) (nI z)) 42 (24 * x + y) (nI u)) 13 z (σ 13 z ||| nI u)) 81 (24 * x + y) (nI (z + 1))) 82 (24 * x + y) (nI u)) ?_ hK ?_ (cX11_rehearse_ok κ b (us (us (us σ 41 (24 * x + y) (nI z)) 42 (24 * x + y) (nI u)) 13 z (σ 13 z ||| nI u)) n m j r hmi _ _ _ _) ⟨n, m, j, r, l, kl, ms, hC, hM, hJ, hT, hU, hB, hO, ⟨?_, ?_⟩, hD, hQ, hKC⟩
    · rw [hKr, if_neg (fun q => q (g1.mpr a3)), if_neg (fun q => q (g2.mpr a1)), if_neg (fun q => q (g3.mpr a2))]
    · have hmd : md70 (us (us (us σ 41 (24 * x + y) (nI z)) 42 (24 * x + y) (nI u)) 13 z (σ 13 z ||| nI u)) σ := fun p h8 h9 => by rw [us_p (by omega), us_p (by omega), us_p (by omega)]
      have h6 : rg2 (us (us (us σ 41 (24 * x + y) (nI z)) 42 (24 * x + y) (nI u)) 13 z (σ 13 z ||| nI u)) j r x y z (nI u) n = true := by
        rw [← h5]
        unfold rg2 rg1
        simp only [mvd_md hmd]
        rfl
      rw [hMr (us (us (us σ 41 (24 * x + y) (nI z)) 42 (24 * x + y) (nI u)) 13 z (σ 13 z ||| nI u)) rfl, h6, if_neg (by decide), bct_sm cn hu]
    · intro k hk
      show upd (σ 41) (24 * x + y) (nI z) k = upd (σ 81) (24 * x + y) (nI (z + 1)) k - nI 1 ∧ upd (σ 42) (24 * x + y) (nI u) k = upd (σ 82) (24 * x + y) (nI u) k ∧ ∃ w, w ≤ 9 ∧ upd (σ 81) (24 * x + y) (nI (z + 1)) k = nI w
      by_cases e : k = 24 * x + y
      · rw [e, pk_us, pk_us, pk_us, pk_us]
        exact ⟨by rw [pk_sub (by omega)]; rfl, rfl, z + 1, by omega, rfl⟩
      · rw [pk_un e, pk_un e, pk_un e, pk_un e]
        exact hH.1 k hk
    · intro s hs
      show upd (σ 13) z (σ 13 z ||| nI u) s = orf (fun k => if upd (σ 81) (24 * x + y) (nI (z + 1)) k = nI (s + 1) then upd (σ 82) (24 * x + y) (nI u) k else nI 0) 96
      have hold := hH.2 s hs
      refine b_ext (fun i hi => ?_)
      rw [Bool.eq_iff_iff, bt_orf]
      have hb0 : ∀ i, ¬ bt (nI 0) i = true := fun i => by rw [show nI 0 = 0 from rfl, b_0]; decide
      constructor
      · intro hb
        by_cases e : s = z
        · subst e
          rw [pk_us, b_or, Bool.or_eq_true] at hb
          rcases hb with hb | hb
          · rw [hold] at hb
            obtain ⟨k, hk, hb⟩ := (bt_orf _ i 96).mp hb
            try dsimp only at hb
            have hne : k ≠ 24 * x + y := by
              rintro rfl
              rw [a1, if_neg (fun q => nI_ne0 (by omega) (by omega) q.symm)] at hb
              exact hb0 i hb
            refine ⟨k, hk, ?_⟩
            try dsimp only
            rw [pk_un hne, pk_un hne]
            exact hb
          · refine ⟨24 * x + y, hk96, ?_⟩
            try dsimp only
            rw [pk_us, pk_us, if_pos rfl]
            exact hb
        · rw [pk_un e, hold] at hb
          obtain ⟨k, hk, hb⟩ := (bt_orf _ i 96).mp hb
          try dsimp only at hb
          have hne : k ≠ 24 * x + y := by
            rintro rfl
            rw [a1, if_neg (fun q => nI_ne0 (by omega) (by omega) q.symm)] at hb
            exact hb0 i hb
          refine ⟨k, hk, ?_⟩
          try dsimp only
          rw [pk_un hne, pk_un hne]
          exact hb
      · rintro ⟨k, hk, hb⟩
        try dsimp only at hb
        by_cases e2 : k = 24 * x + y
        · rw [e2, pk_us, pk_us] at hb
          by_cases e : s = z
          · subst e
            rw [if_pos rfl] at hb
            rw [pk_us, b_or, hb, Bool.or_true]
          · rw [if_neg (fun q => e (by have := (nI_eq (by omega) (by omega)).mp q; omega))] at hb
            exact absurd hb (hb0 i)
        · rw [pk_un e2, pk_un e2] at hb
          have h7 : bt (σ 13 s) i = true := by rw [hold]; exact (bt_orf _ i 96).mpr ⟨k, hk, hb⟩
          by_cases e : s = z
          · subst e; rw [pk_us, b_or, h7, Bool.true_or]
          · rw [pk_un e]; exact h7
  · have h6 : rg2 σ j r x y z (nI u) n = false := Bool.eq_false_iff.mpr h5
    refine bo (-3) σ σ ?_ hK (by rw [hMr σ rfl, if_pos h6]) (cX11_rehearse_ok κ b σ n m j r hmi _ _ _ _) hz
    rw [hKr]
    by_cases a1 : ¬ nI u &&& (ctm σ n j r z ^^^ -1) = 0
    · rw [if_pos a1]
    · rw [if_neg a1]
      by_cases a2 : ¬ σ 41 (24 * x + y) = -1
      · rw [if_pos a2]
      · rw [if_neg a2]
        by_cases a3 : ¬ orf (fun x => σ 42 (x * 24 + y)) 4 &&& nI u = 0
        · rw [if_pos a3]
        · exact absurd (g4.mpr ⟨⟨g2.mp (Decidable.not_not.mp a2), g3.mp (Decidable.not_not.mp a3)⟩, g1.mp (Decidable.not_not.mp a1)⟩) h5
theorem anb_iff {f : Nat → Bool} : ∀ {n : Nat}, anb f n = true ↔ ∃ i, i < n ∧ f i = true
  | 0 => ⟨fun h => by simp [anb] at h, fun ⟨i, hi, _⟩ => absurd hi (by omega)⟩
  | n + 1 => by
    rw [anb, Bool.or_eq_true, anb_iff (n := n)]
    constructor
    · rintro (⟨i, hi, h⟩ | h)
      · exact ⟨i, by omega, h⟩
      · exact ⟨n, by omega, h⟩
    · rintro ⟨i, hi, h⟩
      by_cases e : i = n
      · subst e; exact Or.inr h
      · exact Or.inl ⟨i, by omega, h⟩
theorem B_whole (κ : gm_K) (s : Int32) : Both κ mX10_whole mX11_whole [.int s] := by
  refine both_fn (fun b σ n m j r l kl ms h => ?_)
  have hci := h.ci
  have hmi := h.mi
  have hz : zS σ := ⟨n, m, j, r, l, kl, ms, h⟩
  obtain ⟨hC, hM, hJ, hT, hU, hB, hO, hH, hD, hQ, hKC⟩ := h
  obtain ⟨⟨cN, cN', cn⟩, c2, c3, c4, c5, c6, c7, c8, c9, c10, c11⟩ := id hC
  obtain ⟨⟨mN, mN', mn⟩, m2, m3, m4, m5⟩ := id hM
  obtain ⟨⟨jN, jN', jn⟩, j2, j3⟩ := id hJ
  obtain ⟨⟨tN, tN', tl⟩, t2⟩ := id hT
  obtain ⟨⟨uN, uN', un⟩, u2⟩ := id hU
  obtain ⟨⟨b0, b1, wd0, wd1, wd2⟩, b2, b3, b4⟩ := id hB
  obtain ⟨⟨oN, oN', on⟩, o2⟩ := id hO
  refine bq (K := K_whole σ n j r s) (M := M_whole σ n j r s) ?_ (cX10_whole_ok κ b σ n m j r hci s) (cX11_whole_ok κ b σ n m j r hmi s) hz
  rw [K_whole, M_whole, mN, mN']
  by_cases h1 : hs (nI m) s = false
  · rw [if_pos h1, if_pos h1]
  rw [if_neg h1, if_neg h1]
  obtain ⟨x, hx, rfl⟩ := hs_t (by omega) h1
  rw [nI_clamp (by omega), show mwo σ x 96 = σ 13 x from (hH.2 x (by omega)).symm]
  have g1 : ctm σ n j r x = 0 ↔ ¬ anb (mwa σ j r x) n = true := by
    rw [anb_iff, bt_z]
    constructor
    · rintro h ⟨i, hi, h2⟩
      have := h i (by omega)
      rw [bt_ctm hC hM hJ hU hx (by omega), decide_eq_true hi, Bool.true_and] at this
      rw [mwa, this] at h2
      exact absurd h2 (by decide)
    · intro h i hi
      rw [bt_ctm hC hM hJ hU hx hi]
      by_cases h3 : i < n
      · by_cases h4 : mvd σ j r i x = 0
        · exact absurd ⟨i, h3, by rw [mwa, decide_eq_true h4]⟩ h
        · rw [decide_eq_false h4, Bool.and_false]
      · rw [decide_eq_false h3]; rfl
  have g2 : ctm σ n j r x &&& (σ 13 x ^^^ -1) = 0 ↔ alb (mwb σ j r x (σ 13 x)) n = true := by
    rw [bt_sub, alb_iff]
    constructor
    · intro h i hi
      rw [mwb]
      by_cases h4 : mvd σ j r i x = 0
      · rw [decide_eq_true ((bv_1 (by omega)).mpr (h i (by omega) (by rw [bt_ctm hC hM hJ hU hx (by omega), decide_eq_true hi, decide_eq_true h4]; rfl))), Bool.or_true]
      · rw [decide_eq_false h4]; rfl
    · intro h i hi hb
      rw [bt_ctm hC hM hJ hU hx hi, Bool.and_eq_true, decide_eq_true_eq, decide_eq_true_eq] at hb
      have := h i hb.1
      rw [mwb, decide_eq_true hb.2, Bool.not_true, Bool.false_or, decide_eq_true_eq] at this
      exact (bv_1 hi).mp this
  by_cases h2 : ctm σ n j r x = 0
  · rw [if_pos h2, Bool.eq_false_iff.mpr (g1.mp h2)]; rfl
  · rw [if_neg h2]
    have h3 : anb (mwa σ j r x) n = true := Classical.byContradiction (fun q => h2 (g1.mpr q))
    rw [h3, Bool.true_and]
    by_cases h4 : alb (mwb σ j r x (σ 13 x)) n = true
    · rw [if_pos (g2.mpr h4), h4]; rfl
    · rw [if_neg (fun q => h4 (g2.mp q)), Bool.eq_false_iff.mpr h4]; rfl
