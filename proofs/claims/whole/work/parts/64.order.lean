/-! the order, on both sides -/
theorem rhl_lo {τ σ : wg_S} (h : ∀ p, p < 29 → τ p = σ p) (j k c s : Nat) : rhl τ j k c s = rhl σ j k c s := by
  have e : rht τ j k c s = rht σ j k c s := by
    unfold rht tsh vlo mnc
    rw [h 27 (by decide), h 28 (by decide), h 26 (by decide), h 16 (by decide), h 12 (by decide), h 3 (by decide), h 6 (by decide), h 0 (by decide)]
  unfold rhl tn
  rw [e, h 24 (by decide), h 2 (by decide), h 25 (by decide)]
theorem lrl_lo {τ σ : wg_S} (h : ∀ p, p < 29 → τ p = σ p) (j c s : Nat) : ∀ k, lrl τ j c s k = lrl σ j c s k
  | 0 => rfl
  | k + 1 => by rw [lrl, lrl, rhl_lo h, lrl_lo h j c s k]
theorem vdt_lo {τ σ : wg_S} (h : ∀ p, p < 29 → τ p = σ p) (j r c s : Nat) : vdt τ j r c s = vdt σ j r c s := by
  unfold vdt there
  rw [lrl_lo h, h 0 (by decide), h 4 (by decide), h 10 (by decide), h 2 (by decide), h 11 (by decide), h 5 (by decide), h 23 (by decide)]
theorem ctm_lo {τ σ : wg_S} (h : ∀ p, p < 29 → τ p = σ p) (n j r s : Nat) : ctm τ n j r s = ctm σ n j r s := by
  unfold ctm
  exact om_congr (fun c _ => by rw [vdt_lo h])
theorem yng_iff {σ : wg_S} {j r s : Nat} : ∀ {c : Nat}, yng σ j r s c = true ↔ ∃ i, i < c ∧ mvd σ j r i s = 0 ∧ σ 48 i = nI 3
  | 0 => ⟨fun h => by simp [yng] at h, fun ⟨i, hi, _⟩ => absurd hi (by omega)⟩
  | c + 1 => by
    rw [yng, Bool.or_eq_true, yng_iff (c := c), Bool.and_eq_true, decide_eq_true_eq, decide_eq_true_eq]
    constructor
    · rintro (⟨i, hi, h⟩ | h)
      · exact ⟨i, by omega, h⟩
      · exact ⟨c, by omega, h⟩
    · rintro ⟨i, hi, h⟩
      by_cases e : i = c
      · subst e; exact Or.inr h
      · exact Or.inl ⟨i, by omega, h⟩
theorem ct_yg {σ : wg_S} {n m j r s : Nat} (hC : zC σ n) (hM : zM σ m) (hJ : zJ σ n j) (hU : zU σ r) (hs : s < m) : (¬ ctm σ n j r s &&& om (fun i => decide (σ 2 i = nI 3)) n = 0) ↔ yng σ j r s n = true := by
  have hn := hC.1.2.2
  rw [bt_disj, yng_iff]
  constructor
  · intro h
    apply Classical.byContradiction
    intro q
    refine h (fun i hi hb => ?_)
    rw [bt_ctm hC hM hJ hU hs hi, Bool.and_eq_true, decide_eq_true_eq, decide_eq_true_eq] at hb
    rw [bt_om _ n (by omega) i hi, decide_eq_true hb.1, Bool.true_and, decide_eq_false_iff_not, hC.2.1 i hb.1]
    exact fun e => q ⟨i, hb.1, hb.2, e⟩
  · rintro ⟨i, hi, h1, h2⟩ h
    have := h i (by omega) (by rw [bt_ctm hC hM hJ hU hs (by omega), decide_eq_true hi, decide_eq_true h1]; rfl)
    rw [bt_om _ n (by omega) i (by omega), decide_eq_true hi, Bool.true_and, decide_eq_false_iff_not, hC.2.1 i hi] at this
    exact this h2
theorem R_ccs {σ : wg_S} {n m j r x y : Nat} (hC : zC σ n) (hM : zM σ m) (hJ : zJ σ n j) (hU : zU σ r) (hx : x < m) (hy : y < m) : sm (fun i => bv (ctm σ n j r x ^^^ ctm σ n j r y) i * po (σ 6 i) (nI 5)) n = ccs σ n j r x y := by
  have hn := hC.1.2.2
  rw [ccs]
  refine sm_congr (fun c hc => ?_)
  show bv (ctm σ n j r x ^^^ ctm σ n j r y) c * po (σ 6 c) (nI 5) = (if sgb σ j r c x = sgb σ j r c y then nI 0 else mup (msz σ c) (nI 5))
  rw [bv_bt _ (by omega), b_xor, bt_ctm hC hM hJ hU hx (by omega), bt_ctm hC hM hJ hU hy (by omega), R_sz hC.2.2.2.2.2.2.1 hc, po_m _ (by omega) (by omega), sgb, sgb, decide_eq_true hc, Bool.true_and, Bool.true_and]
  generalize mup (σ 6 c) (nI 5) = w
  cases decide (mvd σ j r c x = 0) <;> cases decide (mvd σ j r c y = 0)
  · show nI 0 * w = if bi false = bi false then nI 0 else w
    rw [if_pos rfl]; exact Int32.zero_mul
  · show nI 1 * w = if bi false = bi true then nI 0 else w
    rw [if_neg (by decide)]; exact Int32.one_mul _
  · show nI 1 * w = if bi true = bi false then nI 0 else w
    rw [if_neg (by decide)]; exact Int32.one_mul _
  · show nI 0 * w = if bi true = bi true then nI 0 else w
    rw [if_pos rfl]; exact Int32.zero_mul
theorem R_oc {σ : wg_S} {n m j r : Nat} (hC : zC σ n) : OC (ccs σ n j r) m := by
  intro x y _ _
  have hn := hC.1.2.2
  obtain ⟨s, hs, e⟩ := sm_nat (f := fun c => if sgb σ j r c x = sgb σ j r c y then nI 0 else mup (msz σ c) (nI 5)) (c := 159) (n := n) (fun c hc => by
    show ∃ z, z ≤ 159 ∧ (if sgb σ j r c x = sgb σ j r c y then nI 0 else mup (msz σ c) (nI 5)) = nI z
    by_cases h : sgb σ j r c x = sgb σ j r c y
    · rw [if_pos h]; exact ⟨0, by omega, rfl⟩
    · rw [if_neg h, R_sz hC.2.2.2.2.2.2.1 hc]
      obtain ⟨t, ht, e⟩ := sz_n hC c
      rw [e, mup, nI_add, pk_sub (by omega), pk_div (by omega) (by omega) (by omega)]
      exact ⟨_, by omega, rfl⟩)
  refine ⟨s, ?_, e⟩
  have : n * 159 ≤ 16 * 159 := Nat.mul_le_mul_right _ hn
  omega
theorem pal_34 {σ : wg_S} {n j r : Nat} {set : Int32} : ∀ i, (pal σ n j r set i).2 34 0 = σ 34 0
  | 0 => rfl
  | i + 1 => by
    rw [pal_s]
    split
    · show s_padd (pal σ n j r set i).2 (pal σ n j r set i).1 (nI i) (ctm (pal σ n j r set i).2 n j r i) 34 0 = σ 34 0
      rw [s_padd, us_k (by decide), us_p (by decide), us_p (by decide)]
      exact pal_34 i
    · exact pal_34 i
theorem pal_r {σ : wg_S} {n j r u : Nat} (hu : u < 2 ^ 31) : ∀ i, i ≤ 9 → (pal σ n j r (nI u) i).1 = pcr u i ∧ ∀ k, k < i → u / 2 ^ k % 2 = 1 → (pal σ n j r (nI u) i).2 36 (pcr u k) = nI k ∧ (pal σ n j r (nI u) i).2 37 (pcr u k) = ctm σ n j r k
  | 0, _ => ⟨rfl, fun k hk => absurd hk (by omega)⟩
  | i + 1, hi => by
    obtain ⟨h1, h2⟩ := pal_r (σ := σ) (n := n) (j := j) (r := r) hu i (by omega)
    have hct : ctm (pal σ n j r (nI u) i).2 n j r i = ctm σ n j r i := ctm_lo (fun p hp => pal_p (by omega) (by omega) (by omega) i) n j r i
    rw [pal_s, bv_nI hu (by omega), pcr, hct]
    rcases bit_01 (u / 2 ^ i) with hb | hb
    · rw [hb, if_neg (by decide)]
      refine ⟨h1, fun k hk hbk => ?_⟩
      by_cases e : k = i
      · subst e; rw [hb] at hbk; exact absurd hbk (by decide)
      · exact h2 k (by omega) hbk
    · rw [hb, if_pos rfl]
      refine ⟨by show (pal σ n j r (nI u) i).1 + 1 = _; rw [h1], fun k hk hbk => ?_⟩
      show s_padd (pal σ n j r (nI u) i).2 (pal σ n j r (nI u) i).1 (nI i) (ctm σ n j r i) 36 (pcr u k) = nI k ∧ s_padd (pal σ n j r (nI u) i).2 (pal σ n j r (nI u) i).1 (nI i) (ctm σ n j r i) 37 (pcr u k) = ctm σ n j r k
      rw [s_padd, us_p (p := 34) (p' := 36) (by decide), us_p (p := 37) (p' := 36) (by decide), us_e, us_p (p := 34) (p' := 37) (by decide), us_e, us_p (p := 36) (p' := 37) (by decide), h1]
      by_cases e : k = i
      · subst e; rw [pk_us, pk_us]; exact ⟨rfl, rfl⟩
      · have := rk_lt hbk (show k < i by omega)
        rw [pk_un (by omega), pk_un (by omega)]
        exact h2 k (by omega) hbk
theorem kor_p {σ : wg_S} {n p : Nat} {left : Int32} (h : p ≠ 35) : ∀ k, (kor σ n left k).2.2.2 p = σ p
  | 0 => rfl
  | k + 1 => by
    obtain ⟨u, l, lf, τ, e⟩ : ∃ u l lf τ, kor σ n left k = (u, l, lf, τ) := ⟨_, _, _, _, rfl⟩
    have ih := kor_p (σ := σ) (n := n) (left := left) h k
    rw [e] at ih
    rw [kor_s σ n left k u l lf τ e]
    show us τ 35 k _ p = σ p
    rw [us_p h]
    exact ih
theorem En_mo {B B' : Nat} {c z : Int32} (h : En B c z) (hB : B ≤ B') : En B' c z := by
  rcases h with h | ⟨v, h1, h2⟩
  · exact Or.inl h
  · exact Or.inr ⟨v, by omega, h2⟩
theorem MI_f4 {σ τ : wg_S} {n m j r : Nat} (h : MI σ n m j r) (hp : ∀ p, 47 ≤ p → p < 85 → τ p = σ p) : MI τ n m j r := by
  unfold MI mtn MX mxa mxb at h ⊢
  rw [hp 47 (by decide) (by decide), hp 66 (by decide) (by decide), hp 48 (by decide) (by decide), hp 51 (by decide) (by decide)]
  exact h
theorem ccs_md {τ σ : wg_S} (h : md70 τ σ) (n j r : Nat) : ccs τ n j r = ccs σ n j r := by
  funext x y
  refine sm_congr (fun c _ => ?_)
  show (if sgb τ j r c x = sgb τ j r c y then nI 0 else mup (msz τ c) (nI 5)) = if sgb σ j r c x = sgb σ j r c y then nI 0 else mup (msz σ c) (nI 5)
  unfold sgb
  rw [mvd_md h, mvd_md h, msz_md h]
theorem yng_md {τ σ : wg_S} (h : md70 τ σ) (j r s : Nat) : ∀ n, yng τ j r s n = yng σ j r s n
  | 0 => rfl
  | n + 1 => by rw [yng, yng, yng_md h j r s n, mvd_md h, h 48 (by decide) (by decide)]
/-- cells that the relation doesn't read, or that it reads as before -/
theorem zL_or {σ υ : wg_S} {n m j r l kl kl' : Nat} {ms : List Nat} (h : zL σ n m j r l kl ms) (hq : ∀ p, p ≠ 34 → p ≠ 35 → p ≠ 36 → p ≠ 37 → p ≠ 38 → p ≠ 47 → p < 73 ∨ 80 < p → p ≠ 85 → υ p = σ p) (hf : ∀ k, k ≠ 43 → υ 47 k = σ 47 k) (hO : zO υ kl') : zL υ n m j r l kl' ms := by
  obtain ⟨hC, hM, hJ, hT, hU, hB, -, hH, hD, hQ, hKC⟩ := h
  refine ⟨?_, ?_, ?_, ?_, ?_, ?_, hO, ?_, ?_, ?_, ?_⟩
  · unfold zC; simp (discharger := decide) only [hq, hf]; exact hC
  · unfold zM; simp (discharger := decide) only [hq, hf]; exact hM
  · unfold zJ; simp (discharger := decide) only [hq, hf]; exact hJ
  · unfold zT; simp (discharger := decide) only [hq, hf]; exact hT
  · unfold zU; simp (discharger := decide) only [hq, hf]; exact hU
  · unfold zB; simp (discharger := decide) only [hq, hf]; exact hB
  · unfold zH; simp (discharger := decide) only [hq, hf]; exact hH
  · unfold zD; simp (discharger := decide) only [hq, hf]; exact hD
  · unfold zQ; simp (discharger := decide) only [hq, hf]; exact hQ
  · unfold KC; simp (discharger := decide) only [hq, hf]; exact hKC
theorem s_beg_p {b : Bool} {σ : wg_S} {p : Nat} (h1 : p ≠ 34) (h2 : p ≠ 85) : s_beg b σ p = σ p := by
  unfold s_beg
  split
  · rw [us_p h1]
  · rw [ua_p h2, us_p h1]
theorem s_beg_0 {b : Bool} {σ : wg_S} : s_beg b σ 34 0 = σ 34 0 := by
  unfold s_beg
  split
  · rw [us_k (by decide)]
  · rw [ua_p (by decide), us_k (by decide)]
theorem B_order (κ : gm_K) (set : Int32) : Both κ mX10_order mX11_order [.int set] := by
  refine both_fe (fun b σ n m j r l kl ms h => ?_)
  have hci := h.ci
  have hmi := h.mi
  have hz : zS σ := ⟨n, m, j, r, l, kl, ms, h⟩
  have hzl := id h
  obtain ⟨hC, hM, hJ, hT, hU, hB, hO, hH, hD, hQ, hKC⟩ := h
  obtain ⟨⟨cN, cN', cn⟩, c2, c3, c4, c5, c6, c7, c8, c9, c10, c11⟩ := id hC
  obtain ⟨⟨mN, mN', mn⟩, m2, m3, m4, m5⟩ := id hM
  obtain ⟨⟨jN, jN', jn⟩, j2, j3⟩ := id hJ
  obtain ⟨⟨tN, tN', tl⟩, t2⟩ := id hT
  obtain ⟨⟨uN, uN', un⟩, u2⟩ := id hU
  obtain ⟨⟨b0, b1, wd0, wd1, wd2⟩, b2, b3, b4⟩ := id hB
  obtain ⟨⟨oN, oN', on⟩, o2⟩ := id hO
  have hK := cX10_order_ok κ b σ n m j r hci set
  have hm16 : m ≤ 16 := by omega
  by_cases h1 : ¬ ∃ u, 0 < u ∧ u < 2 ^ m ∧ set = nI u
  · have eK : K_order b σ n m j r set = (-2, b, σ) := by
      rw [K_order]
      by_cases h2 : set = 0
      · rw [if_pos h2]
      · rw [if_neg h2, mN, if_pos]
        intro q
        exact h1 ((set_k hm16).mp (by rw [decide_eq_false h2, decide_eq_true q]; rfl))
    have hc : set ≤ 0 ∨ nI (2 ^ m) ≤ set := by
      by_cases h2 : set ≤ 0
      · exact Or.inl h2
      · refine Or.inr (fa_of_nlt (fun q => h1 ((set_l hm16).mp ⟨h2, ?_⟩)))
        rw [shl1 m (by omega)]
        exact q
    rw [eK] at hK
    refine ⟨-2, b, σ, _, hK, cX11_order_ok κ b σ n m j r hmi set, fun y υ hq => ?_⟩
    rw [OQ, if_pos hc] at hq
    obtain ⟨rfl, rfl⟩ := hq
    exact ⟨rfl, hz⟩
  have h1 := Classical.not_not.mp h1
  have k1 := (set_k hm16).mpr h1
  have k2 := (set_l hm16).mpr h1
  rw [shl1 m (by omega)] at k2
  rw [Bool.and_eq_true, Bool.not_eq_true', decide_eq_false_iff_not, decide_eq_true_eq] at k1
  obtain ⟨u, hu0, hu, rfl⟩ := h1
  have hp9 := p2_9 m mn
  have hN9 : pcr u m ≤ 9 := Nat.le_trans (pcr_le u m) mn
  obtain ⟨p1, p2⟩ := pal_r (σ := s_beg b σ) (n := n) (j := j) (r := r) (u := u) (by omega) m mn
  have hlo : ∀ p, p < 29 → s_beg b σ p = σ p := fun p hp => s_beg_p (by omega) (by omega)
  have e1 : (o_pal b σ n m j r (nI u)).1 = pcr u m := p1
  have f1 : ∀ p, p ≠ 34 → p ≠ 36 → p ≠ 37 → p ≠ 85 → (o_pal b σ n m j r (nI u)).2 p = σ p := fun p a1 a2 a3 a4 => by
    rw [o_pal, pal_p a1 a2 a3, s_beg_p a1 a4]
  have f10 : (o_pal b σ n m j r (nI u)).2 34 0 = σ 34 0 := by rw [o_pal, pal_34, s_beg_0]
  have f2 : ∀ p, p ≠ 38 → o_prc b σ n m j r (nI u) p = (o_pal b σ n m j r (nI u)).2 p := fun p a1 => by rw [o_prc, ua_p a1]
  have f3 : ∀ p, p ≠ 85 → o_sum b σ n m j r (nI u) p = o_prc b σ n m j r (nI u) p := fun p a1 => by rw [o_sum, lso_p a1]
  have hS : ∀ p, p ≠ 34 → p ≠ 36 → p ≠ 37 → p ≠ 38 → p ≠ 85 → o_sum b σ n m j r (nI u) p = σ p := fun p a1 a2 a3 a4 a5 => by rw [f3 p a5, f2 p a4, f1 p a1 a2 a3 a5]
  have hS34 : o_sum b σ n m j r (nI u) 34 0 = σ 34 0 := by rw [f3 34 (by decide), f2 34 (by decide), f10]
  have hCO : CO (o_prc b σ n m j r (nI u)) (ccs σ n j r) (fun s => yng σ j r s n) m u := by
    intro x y hx hy hbx hby
    have hxN := rk_lt hbx hx
    have hyN := rk_lt hby hy
    have q1 : (o_pal b σ n m j r (nI u)).2 37 (pcr u x) = ctm σ n j r x := by rw [← ctm_lo hlo]; exact (p2 x hx hbx).2
    have q2 : (o_pal b σ n m j r (nI u)).2 37 (pcr u y) = ctm σ n j r y := by rw [← ctm_lo hlo]; exact (p2 y hy hby).2
    rw [o_prc, ua_s, e1, csr, if_pos ⟨Or.inl (by omega), by omega⟩, show (pcr u x * 9 + pcr u y) / 9 = pcr u x by omega, show (pcr u x * 9 + pcr u y) % 9 = pcr u y by omega, cab, q1, q2, f1 2 (by decide) (by decide) (by decide) (by decide), f1 6 (by decide) (by decide) (by decide) (by decide), R_ccs hC hM hJ hU hx hy]
    have y1 := ct_yg hC hM hJ hU hx
    have y2 := ct_yg hC hM hJ hU hy
    show _ = if (yng σ j r x n && yng σ j r y n) = true then 1000000 else ccs σ n j r x y
    by_cases c1 : yng σ j r x n = true
    · by_cases c2 : yng σ j r y n = true
      · rw [if_pos ⟨y1.mpr c1, y2.mpr c2⟩, if_pos (by rw [c1, c2]; rfl)]
      · rw [if_neg (fun q => c2 (y2.mp q.2)), if_neg (fun q => by rw [Bool.and_eq_true] at q; exact c2 q.2)]
    · rw [if_neg (fun q => c1 (y1.mp q.1)), if_neg (fun q => by rw [Bool.and_eq_true] at q; exact c1 q.1)]
  have eK0 : K_order b σ n m j r (nI u) = if lsm (o_sum b σ n m j r (nI u)) (pcr u m) < 1000000 then (lsm (o_sum b σ n m j r (nI u)) (pcr u m), true, us (kor (o_sum b σ n m j r (nI u)) (pcr u m) (lsm (o_sum b σ n m j r (nI u)) (pcr u m)) (pcr u m)).2.2.2 34 0 (nI (pcr u m))) else (-3, true, o_sum b σ n m j r (nI u)) := by
    rw [K_order, if_neg k1.1, mN, if_neg (fun q => q k1.2), o_lst, e1]
  have eS : o_sum b σ n m j r (nI u) = lso (o_prc b σ n m j r (nI u)) (pcr u m) (2 ^ pcr u m - 1) := by rw [o_sum, e1]
  have hτ : ∀ p, 47 ≤ p → p < 85 → (K_order b σ n m j r (nI u)).2.2 p = σ p := fun p a1 a2 => by
    rw [eK0]
    split
    · show us (kor (o_sum b σ n m j r (nI u)) (pcr u m) (lsm (o_sum b σ n m j r (nI u)) (pcr u m)) (pcr u m)).2.2.2 34 0 (nI (pcr u m)) p = σ p
      rw [us_p (by omega), kor_p (by omega), hS p (by omega) (by omega) (by omega) (by omega) (by omega)]
    · exact hS p (by omega) (by omega) (by omega) (by omega) (by omega)
  refine ⟨_, _, _, _, hK, cX11_order_ok κ _ _ n m j r (MI_f4 hmi hτ) (nI u), fun y υ hq => ?_⟩
  have hmd : md70 (K_order b σ n m j r (nI u)).2.2 σ := fun p a1 a2 => hτ p a1 (by omega)
  rw [OQ, if_neg (fun q => by
    rcases q with q | q
    · exact k2.1 q
    · exact (fa_of_lt k2.2).2.1 q)] at hq
  obtain ⟨u', L, eu, -, hu', hL, hq⟩ := hq
  obtain rfl : u = u' := (nI_eq (by omega) (by omega)).mp eu
  have hyf : (fun s => yng (K_order b σ n m j r (nI u)).2.2 j r s n) = fun s => yng σ j r s n := funext (fun s => yng_md hmd j r s n)
  rw [ccs_md hmd, hyf] at hL hq
  have hA : ∀ w v x, 0 < w → w < 2 ^ pcr u m → VR m u w v → x < m → u / 2 ^ x % 2 = 1 → w / 2 ^ pcr u x % 2 = 1 → En (2544 * pcr v m) (o_sum b σ n m j r (nI u) 85 (w * 9 + pcr u x)) (L (9 * v + x)) := fun w v x a1 a2 a3 a4 a5 a6 => by
    rw [eS]
    exact dp_all mn (R_oc hC) hCO hL _ (Nat.le_refl _) w v x (by omega) a2 a3 a4 a5 a6
  have hE : ∀ k, k < m → u / 2 ^ k % 2 = 1 → En 27000 (o_sum b σ n m j r (nI u) 85 ((0 ||| 2 ^ pcr u k) * 9 + pcr u k)) (L (9 * (u - 2 ^ k) + k)) := fun k hk hb => by
    have hg := or_gt (bit_0 (pcr u k))
    have hpl := pcr_le (u - 2 ^ k) m
    exact En_mo (hA _ _ _ hg (Nat.or_lt_two_pow (Nat.two_pow_pos _) (Nat.pow_lt_pow_right (by decide) (rk_lt hb hk))) (VR_s (VR_0 hu) hk hb) hk hb (by rw [bit_or, if_pos rfl])) (by omega)
  have hCS : CO (o_sum b σ n m j r (nI u)) (ccs σ n j r) (fun s => yng σ j r s n) m u := by unfold CO; rw [f3 38 (by decide)]; exact hCO
  have h36 : ∀ k, k < m → u / 2 ^ k % 2 = 1 → o_sum b σ n m j r (nI u) 36 (pcr u k) = nI k := fun k hk hb => by
    rw [f3 36 (by decide), f2 36 (by decide)]
    exact (p2 k hk hb).1
  rcases of_ls (L := L) (by omega) hE m (Nat.le_refl _) with ⟨a1, a2, -⟩ | ⟨f, z, b1', b2', b3', b4', b5', b6', b7'⟩
  · have eK : K_order b σ n m j r (nI u) = (-3, true, o_sum b σ n m j r (nI u)) := by rw [eK0, a2, if_neg (by decide)]
    rw [a1] at hq
    rw [eK] at hq ⊢
    dsimp only at hq
    obtain ⟨rfl, hsf⟩ := hq
    refine ⟨rfl, n, m, j, r, l, kl, ms, ?_⟩
    unfold SF at hsf
    refine zL_or hzl (fun p q1 q2 q3 q4 q5 q6 q7 q8 => ?_) (fun k hk => ?_) ⟨⟨?_, ?_, on⟩, ?_⟩
    · rw [hsf p (by omega), hS p q1 q3 q4 q5 q8]
    · rw [hsf 47 (by omega), hS 47 (by decide) (by decide) (by decide) (by decide) (by decide)]
    · rw [hsf 34 (by omega), hS34]; exact oN
    · rw [hsf 47 (by omega), hS 47 (by decide) (by decide) (by decide) (by decide) (by decide)]; exact oN'
    · rw [hsf 35 (by omega), hsf 80 (by omega), hS 35 (by decide) (by decide) (by decide) (by decide) (by decide), hS 80 (by decide) (by decide) (by decide) (by decide) (by decide)]; exact o2
  · have eK : K_order b σ n m j r (nI u) = (nI z, true, us (kor (o_sum b σ n m j r (nI u)) (pcr u m) (nI z) (pcr u m)).2.2.2 34 0 (nI (pcr u m))) := by
      rw [eK0, b5', mil, if_pos ((nI_ltI (by omega) (by omega)).mpr (by omega))]
    rw [b4'] at hq
    rw [eK] at hq ⊢
    dsimp only at hq
    obtain ⟨rfl, ls, ho, hl8, how, hof⟩ := hq
    have hfN := rk_lt b2' b1'
    have hlen : pcr u m = 1 + ls.length := by
      have q1 := onl_len ho
      have q2 := pcr_d b2' m
      rw [if_pos b1'] at q2
      omega
    have hlnx : lnx (o_sum b σ n m j r (nI u)) (pcr u m) 0 none (nI z) = pcr u f := by
      have hsw : ∀ k, k < m → u / 2 ^ k % 2 = 1 → lnb (o_sum b σ n m j r (nI u)) 0 none (nI z) (pcr u k) = decide (L (9 * (u - 2 ^ k) + k) = nI z) := fun k hk hb => by
        have es : swh (o_sum b σ n m j r (nI u)) 0 none (pcr u k) = if nI 0 + o_sum b σ n m j r (nI u) 85 ((0 ||| 2 ^ pcr u k) * 9 + pcr u k) < 1000000 then nI 0 + o_sum b σ n m j r (nI u) 85 ((0 ||| 2 ^ pcr u k) * 9 + pcr u k) else 1000000 := rfl
        rw [lnb, decide_eq_true (bit_0 _), Bool.true_and, es]
        rcases hE k hk hb with ⟨g1, g2⟩ | ⟨z', hz', g1, g2⟩
        · rw [g1, g2, show (if nI 0 + (1000000 : Int32) < 1000000 then nI 0 + (1000000 : Int32) else 1000000) = 1000000 from rfl, mil, decide_eq_false (fun q => by have := (nI_eq (by omega) (by omega)).mp q; omega), decide_eq_false (fun q => nI_m1 (show z < 2 ^ 31 by omega) q.symm)]
        · rw [g1, g2, nI_add, Nat.zero_add, mil, if_pos ((nI_ltI (by omega) (by omega)).mpr (by omega))]
      rw [lnx, fnd_fst hfN (by rw [hsw f b1' b2', decide_eq_true b6']) (fun i hi => ?_)]
      · rfl
      · obtain ⟨k, g1, g2, g3⟩ := rk_sur (u := u) m i (Nat.lt_trans hi hfN)
        have hlt : k < f := by
          rcases Nat.lt_trichotomy k f with q | q | q
          · exact q
          · subst q; omega
          · have := rk_lt b2' q; omega
        rw [← g3, hsw k g1 g2, decide_eq_false]
        intro q
        rcases b7' k g1 g2 with c | ⟨z', hz', c, -, c3⟩
        · rw [c] at q; exact nI_m1 (show z < 2 ^ 31 by omega) q.symm
        · rw [c] at q
          have := (nI_eq (by omega) (by omega)).mp q
          have := c3 hlt
          omega
    have hs := kor_s (o_sum b σ n m j r (nI u)) (pcr u m) (nI z) 0 0 none (nI z) (o_sum b σ n m j r (nI u)) rfl
    have hEf := hE f b1' b2'
    have h85 : o_sum b σ n m j r (nI u) 85 ((0 ||| 2 ^ pcr u f) * 9 + pcr u f) = nI z := by
      rcases hEf with ⟨g1, -⟩ | ⟨z', hz', g1, g2⟩
      · rw [g1] at b6'; exact absurd b6'.symm (nI_m1 (by omega))
      · rw [g1] at b6'; rw [g2, b6']
    rw [hlnx, us_p (by decide), h85, h36 f b1' b2'] at hs
    obtain ⟨w', i', lf, τk, g1, g2, g3⟩ := kor_ch (S := o_sum b σ n m j r (nI u)) (left := nI z) mn (R_oc hC) hCS h36 hA ls 1 _ (u - 2 ^ f) f z (us (o_sum b σ n m j r (nI u)) 35 0 (nI f)) [f] hs (VR_s (VR_0 hu) b1' b2') b1' b2' (by rw [bit_or, if_pos rfl]) (Nat.or_lt_two_pow (Nat.two_pow_pos _) (Nat.pow_lt_pow_right (by decide) hfN)) (by omega) b6' ho (fun p q => us_p q) rfl (fun k hk => by
      obtain rfl : k = 0 := by omega
      rw [us_s]; rfl)
    rw [← hlen] at g1 g3
    rw [g1] at hof ⊢
    dsimp only at hof ⊢
    obtain ⟨o1, o2'⟩ := hof
    obtain ⟨w1, w2⟩ := how
    refine ⟨rfl, n, m, j, r, l, pcr u m, ms, ?_⟩
    refine zL_or hzl (fun p q1 q2 q3 q4 q5 q6 q7 q8 => ?_) (fun k hk => ?_) ⟨⟨?_, ?_, hN9⟩, fun k hk => ?_⟩
    · rw [o1 p q6 q7, us_p q1, g2 p q2, hS p q1 q3 q4 q5 q8]
    · rw [o2' k hk, us_p (by decide), g2 47 (by decide), hS 47 (by decide) (by decide) (by decide) (by decide) (by decide)]
    · rw [o1 34 (by decide) (by omega), us_s]
    · rw [w1, hlen]; congr 1; omega
    · rw [o1 35 (by decide) (by omega), us_p (by decide), g3 k hk, w2 k (by omega)]
      rfl
