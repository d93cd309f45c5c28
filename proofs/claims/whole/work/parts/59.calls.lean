/-! a call whose reference part is told by a relation -/
theorem both_fe {κ : gm_K} {μ₁ μ₂ : gm_M} {av : List Value} (h : ∀ (b : Bool) (σ : wg_S) (n m j r l kl : Nat) (ms : List Nat), zL σ n m j r l kl ms → ∃ (x : Int32) (b' : Bool) (τ : wg_S) (Q : Int32 → wg_S → Prop), Fn κ μ₁ (.ref 0 :: av) (gg b) σ (some (.int x)) (gg b') τ ∧ FeI κ μ₂ (.ref 47 :: av) (gg b') τ Q ∧ ∀ y υ, Q y υ → y = x ∧ zS υ) : Both κ μ₁ μ₂ av := by
  intro b σ hR
  obtain ⟨n, m, j, r, l, kl, ms, hR⟩ := hR
  obtain ⟨x, b', τ, Q, h1, h2, h3⟩ := h b σ n m j r l kl ms hR
  refine ⟨x, _, h1, fun q g hq => ?_⟩
  obtain ⟨rfl, rfl⟩ := hq
  refine ⟨rfl, b', τ, _, rfl, h2, fun q g hq => ?_⟩
  obtain ⟨y, υ, rfl, rfl, hQ⟩ := hq
  obtain ⟨rfl, hz⟩ := h3 y υ hQ
  exact ⟨rfl, υ, rfl, hz⟩
/-- the relation reads no cell of the reference's working rows -/
theorem zL_sf {σ υ : wg_S} {n m j r l kl : Nat} {ms : List Nat} (h : SF υ σ) (hz : zL σ n m j r l kl ms) : zL υ n m j r l kl ms := by
  obtain ⟨hC, hM, hJ, hT, hU, hB, hO, hH, hD, hQ, hKC⟩ := hz
  unfold SF at h
  refine ⟨?_, ?_, ?_, ?_, ?_, ?_, ?_, ?_, ?_, ?_, ?_⟩
  · unfold zC; simp (discharger := decide) only [h]; exact hC
  · unfold zM; simp (discharger := decide) only [h]; exact hM
  · unfold zJ; simp (discharger := decide) only [h]; exact hJ
  · unfold zT; simp (discharger := decide) only [h]; exact hT
  · unfold zU; simp (discharger := decide) only [h]; exact hU
  · unfold zB; simp (discharger := decide) only [h]; exact hB
  · unfold zO; simp (discharger := decide) only [h]; exact hO
  · unfold zH; simp (discharger := decide) only [h]; exact hH
  · unfold zD; simp (discharger := decide) only [h]; exact hD
  · unfold zQ; simp (discharger := decide) only [h]; exact hQ
  · unfold KC; simp (discharger := decide) only [h]; exact hKC
theorem B_change (κ : gm_K) (p q : Int32) : Both κ mX10_change mX11_change [.int p, .int q] := by
  refine both_fe (fun b σ n m j r l kl ms h => ?_)
  have hci := h.ci
  have hmi := h.mi
  have hz : zS σ := ⟨n, m, j, r, l, kl, ms, h⟩
  have hzl := id h
  obtain ⟨hC, hM, hJ, hT, hU, hB, hO, hH, hD, hQ, hKC⟩ := h
  obtain ⟨⟨cN, cN', cn⟩, c2, c3, c4, c5, c6, c7, c8, c9, c10, c11⟩ := id hC
  obtain ⟨⟨mN, mN', mn⟩, m2, m3, m4, m5⟩ := id hM
  obtain ⟨⟨jN, jN', jn⟩, j2, j3⟩ := id hJ
  obtain ⟨⟨tN, tN', tl⟩, t2⟩ := id hT
  obtain ⟨⟨uN, uN', un⟩, u2⟩ := id hU
  obtain ⟨⟨b0, b1, wd0, wd1, wd2⟩, b2, b3, b4⟩ := id hB
  obtain ⟨⟨oN, oN', on⟩, o2⟩ := id hO
  refine ⟨K_change σ n j r p q, b, σ, _, cX10_change_ok κ b σ n m j r hci p q, cX11_change_ok κ b σ n m j r hmi p q, fun y υ hq => ?_⟩
  obtain ⟨rfl, hsf⟩ := hq
  refine ⟨?_, n, m, j, r, l, kl, ms, zL_sf hsf hzl⟩
  rw [K_change, M_change, mN, mN']
  by_cases h1 : hs (nI m) p = false
  · rw [if_pos h1, if_pos h1]
  by_cases h2 : hs (nI m) q = false
  · rw [if_neg h1, if_neg h1, if_pos h2, if_pos h2]
  by_cases h3 : p = q
  · rw [if_neg h1, if_neg h1, if_neg h2, if_neg h2, if_pos h3, if_pos h3]
  rw [if_neg h1, if_neg h1, if_neg h2, if_neg h2, if_neg h3, if_neg h3]
  obtain ⟨x, hx, rfl⟩ := hs_t (by omega) h1
  obtain ⟨y, hy, rfl⟩ := hs_t (by omega) h2
  rw [nI_clamp (by omega), nI_clamp (by omega), ccs]
  refine sm_congr (fun c hc => ?_)
  show (if sgb σ j r c x = sgb σ j r c y then nI 0 else mup (msz σ c) (nI 5)) = bv (ctm σ n j r x ^^^ ctm σ n j r y) c * po (σ 6 c) (nI 5)
  rw [bv_bt _ (by omega), b_xor, bt_ctm hC hM hJ hU hx (by omega), bt_ctm hC hM hJ hU hy (by omega), R_sz c7 hc, po_m _ (by omega) (by omega), sgb, sgb, decide_eq_true hc, Bool.true_and, Bool.true_and]
  generalize mup (σ 6 c) (nI 5) = w
  cases decide (mvd σ j r c x = 0) <;> cases decide (mvd σ j r c y = 0)
  · rw [if_pos rfl]; show nI 0 = nI 0 * w; exact (Int32.zero_mul).symm
  · rw [if_neg (by decide)]; show w = nI 1 * w; exact (Int32.one_mul _).symm
  · rw [if_neg (by decide)]; show w = nI 1 * w; exact (Int32.one_mul _).symm
  · rw [if_pos rfl]; show nI 0 = nI 0 * w; exact (Int32.zero_mul).symm
/-! the leader: the same votes, the same first of the most -/
theorem R_vts {σ : wg_S} {n m j r s : Nat} (hC : zC σ n) (hM : zM σ m) (hJ : zJ σ n j) (hU : zU σ r) (hs : s < m) : ∀ c, c ≤ n → ∀ k, k < 8 → mlr σ j r s c k = vts σ c (nI k) (ctm σ n j r s)
  | 0, _, k, hk => by
    show (if k < 8 then nI 0 else _) = nI 0
    rw [if_pos hk]
  | c + 1, hc, k, hk => by
    have ih := R_vts hC hM hJ hU hs c (by omega)
    have hn := hC.1.2.2
    have e8 : σ 8 c = σ 54 c := hC.2.2.2.2.2.2.2.2.1 c (by omega)
    have hv := hC.2.2.2.2.2.2.2.2.2.1 c (by omega)
    have hb : bv (ctm σ n j r s) c = nI 1 ↔ mvd σ j r c s = 0 := by
      rw [bv_1 (by omega), bt_ctm hC hM hJ hU hs (by omega), decide_eq_true (show c < n by omega), Bool.true_and, decide_eq_true_eq]
    have hS : vts σ (c + 1) (nI k) (ctm σ n j r s) = vts σ c (nI k) (ctm σ n j r s) + if bv (ctm σ n j r s) c = nI 1 ∧ σ 8 c = nI k then po (σ 6 c) (nI 10) else 0 := rfl
    rw [hS, mlr, e8]
    rcases hv with h1 | ⟨v, hv, h1⟩
    · rw [if_pos h1, ih k hk, if_neg (fun q => nI_m1 (show k < 2 ^ 31 by omega) (q.2.symm.trans h1))]
      exact (Int32.add_zero _).symm
    · rw [if_neg (by rw [h1]; exact nI_m1 (by omega)), h1, nI_clamp (by omega)]
      by_cases h2 : mvd σ j r c s = 0
      · rw [if_pos h2]
        by_cases h3 : k = v
        · subst h3
          rw [pk_us, ih k hk, if_pos ⟨hb.mpr h2, rfl⟩, R_sz hC.2.2.2.2.2.2.1 (show c < n by omega), po_m _ (by omega) (by omega)]
        · rw [pk_un h3, ih k hk, if_neg (fun q => h3 ((nI_eq (by omega) (by omega)).mp q.2).symm)]
          exact (Int32.add_zero _).symm
      · rw [if_neg h2, ih k hk, if_neg (fun q => h2 (hb.mp q.1))]
        exact (Int32.add_zero _).symm
theorem R_ldr {σ : wg_S} {n : Nat} {set : Int32} {f : Nat → Int32} (hf : ∀ k, k < 8 → f k = vts σ n (nI k) set) : ∀ k, k < 8 → mlb f k < 8 ∧ ldr σ n set (k + 1) = if f (mlb f k) ≤ 0 then (none, nI 0) else (some (mlb f k), f (mlb f k))
  | 0, _ => by
    refine ⟨by show 0 < 8; omega, ?_⟩
    show (if vts σ n (nI 0) set ≤ nI 0 then ((none : Option Nat), nI 0) else (some 0, vts σ n (nI 0) set)) = if f 0 ≤ 0 then (none, nI 0) else (some 0, f 0)
    rw [hf 0 (by omega)]; rfl
  | k + 1, hk => by
    obtain ⟨h1, h2⟩ := R_ldr hf k (by omega)
    rw [ldr, mlb, h2, ← hf (k + 1) hk]
    generalize mlb f k = B at h1 ⊢
    by_cases h3 : f (k + 1) ≤ f B
    · rw [if_pos h3]
      refine ⟨h1, ?_⟩
      by_cases h4 : f B ≤ 0
      · rw [if_pos h4, if_pos (show f (k + 1) ≤ nI 0 by rw [fa_le] at *; exact Int.le_trans h3 h4)]
      · rw [if_neg h4, if_pos h3]
    · rw [if_neg h3]
      refine ⟨hk, ?_⟩
      by_cases h4 : f B ≤ 0
      · rw [if_pos h4]
        rfl
      · rw [if_neg h4, if_neg h3, if_neg (fun q => by rw [fa_le] at *; rw [show (0 : Int32).toInt = 0 from rfl] at *; omega)]
theorem B_leader (κ : gm_K) (s : Int32) : Both κ mX10_leader mX11_leader [.int s] := by
  refine both_fn (fun b σ n m j r l kl ms h => ?_)
  have hci := h.ci
  have hmi := h.mi
  have hz : zS σ := ⟨n, m, j, r, l, kl, ms, h⟩
  have hzl := id h
  obtain ⟨hC, hM, hJ, hT, hU, hB, hO, hH, hD, hQ, hKC⟩ := h
  obtain ⟨⟨cN, cN', cn⟩, c2, c3, c4, c5, c6, c7, c8, c9, c10, c11⟩ := id hC
  obtain ⟨⟨mN, mN', mn⟩, m2, m3, m4, m5⟩ := id hM
  obtain ⟨⟨jN, jN', jn⟩, j2, j3⟩ := id hJ
  obtain ⟨⟨tN, tN', tl⟩, t2⟩ := id hT
  obtain ⟨⟨uN, uN', un⟩, u2⟩ := id hU
  obtain ⟨⟨b0, b1, wd0, wd1, wd2⟩, b2, b3, b4⟩ := id hB
  obtain ⟨⟨oN, oN', on⟩, o2⟩ := id hO
  have hK := cX10_leader_ok κ b σ n m j r hci s
  have hMk := cX11_leader_ok κ b σ n m j r hmi (fun c hc => c10 c hc) s
  by_cases h1 : hs (nI m) s = false
  · have e1 : K_leader σ n j r s = -1 := by rw [K_leader, mN, if_pos h1]
    have e2 : M_leader σ n j r s = (-1, σ) := by rw [M_leader, mN', if_pos h1]
    rw [e1] at hK
    rw [e2] at hMk
    exact ⟨-1, σ, σ, hK, hMk, hz⟩
  obtain ⟨x, hx, rfl⟩ := hs_t (by omega) h1
  have ex := nI_clamp (show x < 2 ^ 31 by omega)
  have e1 : K_leader σ n j r (nI x) = oI (ldr σ n (ctm σ n j r x) 8).1 := by rw [K_leader, mN, if_neg h1, ex]
  have e2 : M_leader σ n j r (nI x) = (mlv (mlr σ j r x n), ua σ 73 (mlr σ j r x n)) := by rw [M_leader, mN', if_neg h1, ex]
  have e3 : mlv (mlr σ j r x n) = oI (ldr σ n (ctm σ n j r x) 8).1 := by
    obtain ⟨h2, h3⟩ := R_ldr (σ := σ) (n := n) (set := ctm σ n j r x) (f := mlr σ j r x n) (fun k hk => R_vts hC hM hJ hU hx n (Nat.le_refl _) k hk) 7 (by omega)
    rw [h3, mlv]
    by_cases h4 : mlr σ j r x n (mlb (mlr σ j r x n) 7) ≤ 0
    · rw [if_pos h4, if_pos h4]; rfl
    · rw [if_neg h4, if_neg h4]; rfl
  rw [e1] at hK
  rw [e2] at hMk
  refine ⟨_, σ, ua σ 73 (mlr σ j r x n), hK, ?_, n, m, j, r, l, kl, ms, zL_sf (fun p (hp : p < 73 ∨ 79 < p) => ua_p (show p ≠ 73 by omega)) hzl⟩
  rw [← e3]
  exact hMk
/-! the march -/
def lsu (f : Nat → Int32) : List Nat → Int32
  | [] => nI 0
  | a :: l => f a + lsu f l
theorem lsu_sm {f : Nat → Int32} {n : Nat} : ∀ {ms : List Nat}, ms.Nodup → (∀ c, c ∈ ms → c < n) → sm (fun i => if i ∈ ms then f i else nI 0) n = lsu f ms
  | [], _, _ => by
    have h0 : ∀ n, sm (fun i => if i ∈ ([] : List Nat) then f i else nI 0) n = nI 0 := by
      intro n
      induction n with
      | zero => rfl
      | succ n ih =>
        rw [sm, ih]
        simp
        rfl
    exact h0 n
  | a :: l, h1, h2 => by
    obtain ⟨h3, h4⟩ := List.nodup_cons.mp h1
    have ih := lsu_sm (f := f) (n := n) h4 (fun c hc => h2 c (List.mem_cons_of_mem _ hc))
    have h5 := sm_one (f := fun i => if i ∈ l then f i else nI 0) (g := fun i => if i ∈ a :: l then f i else nI 0) (c := a) (fun i hi => by simp [hi]) (h2 a List.mem_cons_self)
    simp only [if_neg h3, if_pos (List.mem_cons_self (a := a) (l := l))] at h5
    rw [ih] at h5
    have h6 : ∀ z : Int32, z + nI 0 = z := fun z => Int32.add_zero z
    rw [h6] at h5
    rw [h5, lsu]
    exact Int32.add_comm _ _
theorem sm_head (g : Nat → Int32) : ∀ n, sm g (n + 1) = g 0 + sm (fun k => g (k + 1)) n
  | 0 => by
    show nI 0 + g 0 = g 0 + nI 0
    exact Int32.add_comm _ _
  | n + 1 => by
    rw [sm, sm_head g n, sm]
    exact Int32.add_assoc _ _ _
theorem lsu_ix (f : Nat → Int32) : ∀ ms : List Nat, sm (fun k => f (ms.getD k 0)) ms.length = lsu f ms
  | [] => rfl
  | a :: l => by
    rw [List.length_cons, sm_head, lsu, ← lsu_ix f l]
    rfl
theorem smf_sm (s : Int32) (f : Nat → Int32) : ∀ n, smf s f n = s + sm f n
  | 0 => (Int32.add_zero s).symm
  | n + 1 => by rw [smf, smf_sm s f n, sm]; exact Int32.add_assoc _ _ _
theorem lsu_1 : ∀ ms : List Nat, lsu (fun _ => nI 1) ms = nI ms.length
  | [] => rfl
  | a :: l => by
    rw [lsu, lsu_1 l, nI_add, List.length_cons, Nat.add_comm]
theorem lsu_c {f g : Nat → Int32} : ∀ {ms : List Nat}, (∀ c, c ∈ ms → f c = g c) → lsu f ms = lsu g ms
  | [], _ => rfl
  | a :: l, h => by rw [lsu, lsu, h a List.mem_cons_self, lsu_c (fun c hc => h c (List.mem_cons_of_mem _ hc))]
theorem gQ_bt {u : Nat} {ms : List Nat} (hu : ∀ i, u.testBit i = decide (i ∈ ms)) {i : Nat} (hi : i < 32) : bv (nI u) i = nI 1 ↔ i ∈ ms := by
  rw [bv_1 hi, bt_nI hi, hu, decide_eq_true_eq]
theorem gQ_ct {n u : Nat} {ms : List Nat} (hn : n ≤ 16) (h1 : ms.Nodup) (h2 : ∀ c, c ∈ ms → c < n) (hu : u < 65536) (h3 : ∀ i, u.testBit i = decide (i ∈ ms)) : bct (nI u) = nI ms.length := by
  rw [bct_pcr hu, ← sm_bv (by omega) 16 (by omega), ← lsu_1, ← lsu_sm (n := 16) h1 (fun c hc => by have := h2 c hc; omega)]
  refine sm_congr (fun i hi => ?_)
  rw [bv_bt _ (by omega), bt_nI (by omega), h3]
  by_cases h : i ∈ ms
  · rw [decide_eq_true h, if_pos rfl]; simp [h]
  · rw [decide_eq_false h]; simp [h]
theorem R_len {σ : wg_S} {n : Nat} {ms : List Nat} (hn : n ≤ 16) (h6 : ∀ c, c < n → msz σ c = σ 6 c) (h46 : σ 46 0 = σ 47 49) (hQ : gQ n ms (σ 46 1) (σ 47 48) (σ 84)) : mlen σ n = mln σ ms.length := by
  obtain ⟨h1, h2, h3, h4, u, hu, h5, h7⟩ := hQ
  have hl := nd_len h1 h2
  rw [mlen, mln, smf_sm, h5, gQ_ct hn h1 h2 hu h7, h3, h46]
  have e1 : sm (fun i => if bv (nI u) i = nI 1 then po (σ 6 i) (nI 4) else nI 0) n = lsu (fun c => mup (msz σ c) (nI 4)) ms := by
    rw [← lsu_sm h1 h2]
    refine sm_congr (fun i hi => ?_)
    show (if bv (nI u) i = nI 1 then po (σ 6 i) (nI 4) else nI 0) = if i ∈ ms then mup (msz σ i) (nI 4) else nI 0
    by_cases h : i ∈ ms
    · rw [if_pos h, if_pos ((gQ_bt h7 (by omega)).mpr h), h6 i hi, po_m _ (by omega) (by omega)]
    · rw [if_neg h, if_neg (fun q => h ((gQ_bt h7 (by omega)).mp q))]
  have e2 : sm (fun k => mup (msz σ (mcl σ k)) (nI 4)) ms.length = lsu (fun c => mup (msz σ c) (nI 4)) ms := by
    rw [← lsu_ix]
    refine sm_congr (fun k hk => ?_)
    have h8 : ms.getD k 0 < n := h2 _ (by rw [List.getD_eq_getElem?_getD, List.getElem?_eq_getElem hk]; exact List.getElem_mem hk)
    show mup (msz σ (σ 84 k).toNatClampNeg) (nI 4) = mup (msz σ (ms.getD k 0)) (nI 4)
    rw [h4 k hk, nI_clamp (by omega)]
  rw [e1, e2]
  generalize lsu (fun c => mup (msz σ c) (nI 4)) ms = w
  by_cases h0 : ms.length = 0
  · rw [h0, if_neg (by decide), if_pos (by decide)]
    rw [show σ 47 49 * nI 0 = nI 0 from Int32.mul_zero]
    exact Int32.add_comm _ _
  · rw [pk_sub (by omega), if_neg (nI_nle (by omega) (by omega))]
    by_cases h9 : ms.length = 1
    · rw [h9, if_neg (by decide)]
      exact Int32.add_comm _ _
    · rw [if_pos ((nI_ltI (by omega) (by omega)).mpr (by omega))]
      exact Int32.add_comm _ _
theorem fnd_none {f : Nat → Bool} : ∀ {n : Nat}, fnd f n = none ↔ ∀ i, i < n → f i = false
  | 0 => ⟨fun _ i hi => absurd hi (by omega), fun _ => rfl⟩
  | n + 1 => by
    constructor
    · intro h i hi
      rw [show fnd f (n + 1) = match fnd f n with | some x => some x | none => if f n then some n else none from rfl] at h
      cases e : fnd f n with
      | some y => rw [e] at h; simp at h
      | none =>
        rw [e] at h
        have := fnd_none.mp e
        by_cases e2 : i = n
        · subst e2
          cases hf : f i
          · rfl
          · simp [hf] at h
        · exact this i (by omega)
    · intro h
      rw [show fnd f (n + 1) = match fnd f n with | some x => some x | none => if f n then some n else none from rfl, fnd_none.mpr (fun i hi => h i (by omega)), h n (by omega)]
      rfl
theorem R_mpl {σ : wg_S} {n x : Nat} {ms : List Nat} (hn : n ≤ 16) (hQ : gQ n ms (σ 46 1) (σ 47 48) (σ 84)) (hx : x < 16) : mpl σ ms.length (nI x) = none ↔ x ∉ ms := by
  obtain ⟨h1, h2, h3, h4, u, hu, h5, h7⟩ := hQ
  rw [mpl, fnd_none]
  have key : ∀ i, (hi : i < ms.length) → (σ 84 i = nI x ↔ ms[i] = x) := by
    intro i hi
    have h8 := h2 ms[i] (List.getElem_mem hi)
    rw [h4 i hi, List.getD_eq_getElem?_getD, List.getElem?_eq_getElem hi]
    exact nI_eq (by simp only [Option.getD_some]; omega) (by omega)
  constructor
  · intro h hm
    obtain ⟨i, hi, e⟩ := List.getElem_of_mem hm
    have := h i hi
    rw [decide_eq_false_iff_not, key i hi] at this
    exact this e
  · intro h i hi
    rw [decide_eq_false_iff_not, key i hi]
    intro e
    exact h (e ▸ List.getElem_mem hi)
theorem tb_or (u x i : Nat) : (u ||| 2 ^ x).testBit i = (u.testBit i || decide (x = i)) := by rw [Nat.testBit_or, Nat.testBit_two_pow]
theorem B_march (κ : gm_K) (c : Int32) : Both κ mX10_march mX11_march [.int c] := by
  refine both_fn (fun b σ n m j r l kl ms h => ?_)
  have hci := h.ci
  have hmi := h.mi
  have hz : zS σ := ⟨n, m, j, r, l, kl, ms, h⟩
  have hzl := id h
  obtain ⟨hC, hM, hJ, hT, hU, hB, hO, hH, hD, hQ, hKC⟩ := h
  obtain ⟨⟨cN, cN', cn⟩, c2, c3, c4, c5, c6, c7, c8, c9, c10, c11⟩ := id hC
  obtain ⟨⟨mN, mN', mn⟩, m2, m3, m4, m5⟩ := id hM
  obtain ⟨⟨jN, jN', jn⟩, j2, j3⟩ := id hJ
  obtain ⟨⟨tN, tN', tl⟩, t2⟩ := id hT
  obtain ⟨⟨uN, uN', un⟩, u2⟩ := id hU
  obtain ⟨⟨b0, b1, wd0, wd1, wd2⟩, b2, b3, b4⟩ := id hB
  obtain ⟨⟨oN, oN', on⟩, o2⟩ := id hO
  have hg := hQ.2
  obtain ⟨q1, q2, q3, q4, u, hu, q5, q6⟩ := id hg
  have hlen := nd_len q1 q2
  have hml : ∀ τ : wg_S, (∀ p, 47 ≤ p → τ p = σ p) → ML τ ms.length := fun τ hτ => by
    have := hzl.ml (by omega)
    unfold ML mcl at this ⊢
    rw [hτ 47 (by omega), hτ 84 (by omega)]
    exact this
  have hroom : ∀ τ : wg_S, (∀ p, 47 ≤ p → τ p = σ p) → ∀ x, x < n → mpl τ ms.length (nI x) = none → ms.length < 16 := fun τ hτ x hx hp => by
    have e : mpl τ ms.length (nI x) = mpl σ ms.length (nI x) := by unfold mpl; rw [hτ 84 (by omega)]
    rw [e, R_mpl cn hg (by omega)] at hp
    have := nd_len (ms := x :: ms) (n := n) (List.nodup_cons.mpr ⟨hp, q1⟩) (fun c hc => by
      rcases List.mem_cons.mp hc with rfl | hc
      · exact hx
      · exact q2 c hc)
    rw [List.length_cons] at this
    omega
  have hK := cX10_march_ok κ b σ n m j r hci c
  by_cases h1 : hs (nI n) c = false
  · exact bo (-1) σ σ (by rw [K_march, cN, if_pos h1]) hK (by rw [M_march, cN', if_pos h1]) (cX11_march_ok κ b σ n m j r hmi ms.length (hml σ (fun _ _ => rfl)) (hroom σ (fun _ _ => rfl)) c) hz
  obtain ⟨x, hx, rfl⟩ := hs_t (by omega) h1
  have ex := nI_clamp (show x < 2 ^ 31 by omega)
  by_cases h2 : x ∈ ms
  · refine bo (-3) σ σ (by rw [K_march, cN, if_neg h1, ex, q5, if_pos ((gQ_bt q6 (by omega)).mpr h2)]) hK ?_ (cX11_march_ok κ b σ n m j r hmi ms.length (hml σ (fun _ _ => rfl)) (hroom σ (fun _ _ => rfl)) _) hz
    rw [M_march, cN', if_neg h1]
    cases e : mpl σ ms.length (nI x) with
    | none => exact absurd h2 ((R_mpl cn hg (by omega)).mp e)
    | some k => rfl
  have hor : nI u ||| (nI 1 <<< (nI x &&& 31)) = nI (u ||| 2 ^ x) := by rw [shl1 x (by omega), nI_or]
  have hpl : ∀ τ : wg_S, (∀ p, 47 ≤ p → τ p = σ p) → mpl τ ms.length (nI x) = none := fun τ hτ => by
    have e : mpl τ ms.length (nI x) = mpl σ ms.length (nI x) := by unfold mpl; rw [hτ 84 (by omega)]
    rw [e, R_mpl cn hg (by omega)]
    exact h2
  have hlt : u ||| 2 ^ x < 65536 := Nat.or_lt_two_pow (n := 16) hu (Nat.pow_lt_pow_right (by decide) (by omega))
  have hm' : ∀ p, 47 ≤ p → us σ 46 1 (nI (u ||| 2 ^ x)) p = σ p := fun p hp => us_p (by omega)
  have gq : gQ n (ms ++ [x]) (nI (u ||| 2 ^ x)) (nI (ms.length + 1)) (upd (σ 84) ms.length (nI x)) := by
    refine ⟨?_, ?_, by simp, ?_, u ||| 2 ^ x, hlt, rfl, ?_⟩
    · rw [List.nodup_append]
      refine ⟨q1, by simp, ?_⟩
      intro a ha d hd
      simp at hd
      subst hd
      intro e
      subst e
      exact h2 ha
    · intro d hd
      rcases List.mem_append.mp hd with hd | hd
      · exact q2 d hd
      · simp at hd; omega
    · intro k hk
      simp at hk
      rw [List.getD_eq_getElem?_getD]
      by_cases e : k = ms.length
      · subst e; rw [pk_us]; simp
      · rw [pk_un e, q4 k (by omega), List.getD_eq_getElem?_getD, List.getElem?_append_left (by omega)]
    · intro i
      rw [tb_or, q6, Bool.eq_iff_iff]
      simp
      constructor
      · rintro (h | h)
        · exact Or.inl h
        · exact Or.inr h.symm
      · rintro (h | h)
        · exact Or.inl h
        · exact Or.inr h.symm
  have gz : zL (s_mma (us σ 46 1 (nI (u ||| 2 ^ x))) ms.length (nI x)) n m j r l kl (ms ++ [x]) := ⟨hC, hM, hJ, hT, hU, hB, hO, hH, hD, ⟨hQ.1, gq⟩, hKC⟩
  have elen : mlen (us σ 46 1 (nI (u ||| 2 ^ x))) n = mln (s_mma (us σ 46 1 (nI (u ||| 2 ^ x))) ms.length (nI x)) (ms.length + 1) := by
    have e := R_len (σ := s_mma (us σ 46 1 (nI (u ||| 2 ^ x))) ms.length (nI x)) (n := n) (ms := ms ++ [x]) cn (fun c hc => R_sz c7 hc) hQ.1 gq
    rw [List.length_append] at e
    exact e
  refine bo (mlen (us σ 46 1 (nI (u ||| 2 ^ x))) n) (us σ 46 1 (nI (u ||| 2 ^ x))) (s_mma (us σ 46 1 (nI (u ||| 2 ^ x))) ms.length (nI x)) (by rw [K_march, cN, if_neg h1, ex, q5, if_neg (fun q => h2 ((gQ_bt q6 (by omega)).mp q)), hor]) hK ?_ (cX11_march_ok κ b (us σ 46 1 (nI (u ||| 2 ^ x))) n m j r hmi ms.length (hml _ hm') (hroom _ hm') _) ⟨n, m, j, r, l, kl, ms ++ [x], gz⟩
  rw [M_march, show us σ 46 1 (nI (u ||| 2 ^ x)) 47 0 = nI n from cN', if_neg h1, hpl _ hm', elen]
theorem B_leave (κ : gm_K) (c : Int32) : Both κ mX10_leave mX11_leave [.int c] := by
  refine both_fn (fun b σ n m j r l kl ms h => ?_)
  have hci := h.ci
  have hmi := h.mi
  have hz : zS σ := ⟨n, m, j, r, l, kl, ms, h⟩
  have hzl := id h
  obtain ⟨hC, hM, hJ, hT, hU, hB, hO, hH, hD, hQ, hKC⟩ := h
  obtain ⟨⟨cN, cN', cn⟩, c2, c3, c4, c5, c6, c7, c8, c9, c10, c11⟩ := id hC
  obtain ⟨⟨mN, mN', mn⟩, m2, m3, m4, m5⟩ := id hM
  obtain ⟨⟨jN, jN', jn⟩, j2, j3⟩ := id hJ
  obtain ⟨⟨tN, tN', tl⟩, t2⟩ := id hT
  obtain ⟨⟨uN, uN', un⟩, u2⟩ := id hU
  obtain ⟨⟨b0, b1, wd0, wd1, wd2⟩, b2, b3, b4⟩ := id hB
  obtain ⟨⟨oN, oN', on⟩, o2⟩ := id hO
  have hg := hQ.2
  obtain ⟨q1, q2, q3, q4, u, hu, q5, q6⟩ := id hg
  have hlen := nd_len q1 q2
  have hml : ∀ τ : wg_S, (∀ p, 47 ≤ p → τ p = σ p) → ML τ ms.length := fun τ hτ => by
    have := hzl.ml (by omega)
    unfold ML mcl at this ⊢
    rw [hτ 47 (by omega), hτ 84 (by omega)]
    exact this
  have hK := cX10_leave_ok κ b σ n m j r hci c
  by_cases h1 : hs (nI n) c = false
  · exact bo (-1) σ σ (by rw [K_leave, cN, if_pos h1]) hK (by rw [M_leave, cN', if_pos h1]) (cX11_leave_ok κ b σ n m j r hmi ms.length (hml σ (fun _ _ => rfl)) c) hz
  obtain ⟨x, hx, rfl⟩ := hs_t (by omega) h1
  have ex := nI_clamp (show x < 2 ^ 31 by omega)
  by_cases h2 : x ∈ ms
  · have hex : ∃ w, w < 65536 ∧ nI u &&& ((nI 1 <<< (nI x &&& 31)) ^^^ -1) = nI w ∧ ∀ i, w.testBit i = (u.testBit i && !decide (i = x)) := by
      refine ⟨u &&& (65535 ^^^ 2 ^ x), Nat.lt_of_le_of_lt Nat.and_le_left hu, ?_, ?_⟩
      · refine b_ext (fun i hi => ?_)
        rw [b_and, bt_not _ hi, bt_1k x (by omega) i hi, bt_nI hi, bt_nI hi, Nat.testBit_and, Nat.testBit_xor, Nat.testBit_two_pow, show (65535 : Nat) = 2 ^ 16 - 1 from rfl, Nat.testBit_two_pow_sub_one]
        by_cases h3 : i < 16
        · by_cases h4 : i = x
          · subst h4; simp [h3]
          · simp [h3, h4, Ne.symm h4]
        · rw [Nat.testBit_lt_two_pow (Nat.lt_of_lt_of_le hu (Nat.pow_le_pow_right (n := 2) (by decide) (show 16 ≤ i by omega)))]
          rfl
      · intro i
        rw [Nat.testBit_and, Nat.testBit_xor, Nat.testBit_two_pow, show (65535 : Nat) = 2 ^ 16 - 1 from rfl, Nat.testBit_two_pow_sub_one]
        by_cases h3 : i < 16
        · by_cases h4 : i = x
          · subst h4; simp [h3]
          · simp [h3, h4, Ne.symm h4]
        · rw [Nat.testBit_lt_two_pow (Nat.lt_of_lt_of_le hu (Nat.pow_le_pow_right (n := 2) (by decide) (show 16 ≤ i by omega)))]
          rfl
    obtain ⟨w, hw, ew, hwb⟩ := hex
    have hm' : ∀ p, 47 ≤ p → us σ 46 1 (nI w) p = σ p := fun p hp => us_p (by omega)
    cases hp : mpl σ ms.length (nI x) with
    | none => exact absurd h2 ((R_mpl cn hg (by omega)).mp hp)
    | some k =>
      obtain ⟨hk, hke⟩ := fnd_lt (f := fun k => decide (σ 84 k = nI x)) hp
      have hkx : ms[k] = x := by
        have h8 := q2 ms[k] (List.getElem_mem hk)
        rw [decide_eq_true_eq, q4 k hk, List.getD_eq_getElem?_getD, List.getElem?_eq_getElem hk, Option.getD_some] at hke
        exact (nI_eq (by omega) (by omega)).mp hke
      have hel : (ms.eraseIdx k).length = ms.length - 1 := by rw [List.length_eraseIdx, if_pos hk]
      have hmem : ∀ i, i ∈ ms.eraseIdx k ↔ i ∈ ms ∧ i ≠ x := by
        intro i
        rw [List.mem_eraseIdx_iff_getElem?]
        constructor
        · rintro ⟨a, ha, he⟩
          obtain ⟨hal, he⟩ := List.getElem?_eq_some_iff.mp he
          refine ⟨he ▸ List.getElem_mem hal, fun e => ha ?_⟩
          have gd : ∀ i, (hi : i < ms.length) → ms.getD i 0 = ms[i] := fun i hi => by rw [List.getD_eq_getElem?_getD, List.getElem?_eq_getElem hi, Option.getD_some]
          have hee : ms.getD a 0 = ms.getD k 0 := by rw [gd a hal, gd k hk, he, hkx, e]
          rcases Nat.lt_trichotomy a k with h8 | h8 | h8
          · exact absurd hee (nd_inj q1 a k h8 hk)
          · exact h8
          · exact absurd hee.symm (nd_inj q1 k a h8 hal)
        · rintro ⟨hi, hne⟩
          obtain ⟨a, hal, he⟩ := List.getElem_of_mem hi
          refine ⟨a, fun e => hne ?_, List.getElem?_eq_some_iff.mpr ⟨hal, he⟩⟩
          subst e
          exact he.symm.trans hkx
      have gq : gQ n (ms.eraseIdx k) (nI w) (nI (ms.length - 1)) (shf (σ 84) k (ms.length - 1)) := by
        refine ⟨List.Pairwise.sublist (List.eraseIdx_sublist ms k) q1, fun c hc => q2 c ((hmem c).mp hc).1, by rw [hel], ?_, w, hw, rfl, ?_⟩
        · intro i hi
          rw [hel] at hi
          rw [List.getD_eq_getElem?_getD, List.getElem?_eraseIdx]
          show (if k ≤ i ∧ i < ms.length - 1 then σ 84 (i + 1) else σ 84 i) = _
          by_cases h5 : k ≤ i
          · rw [if_pos ⟨h5, hi⟩, if_neg (by omega), q4 (i + 1) (by omega), List.getD_eq_getElem?_getD]
          · rw [if_neg (fun q => h5 q.1), if_pos (by omega), q4 i (by omega), List.getD_eq_getElem?_getD]
        · intro i
          rw [hwb, q6, Bool.eq_iff_iff]
          simp only [Bool.and_eq_true, Bool.not_eq_true', decide_eq_true_eq, decide_eq_false_iff_not]
          exact (hmem i).symm
      have gz : zL (s_mle (us σ 46 1 (nI w)) ms.length k) n m j r l kl (ms.eraseIdx k) := ⟨hC, hM, hJ, hT, hU, hB, hO, hH, hD, ⟨hQ.1, gq⟩, hKC⟩
      have elen : mlen (us σ 46 1 (nI w)) n = mln (s_mle (us σ 46 1 (nI w)) ms.length k) (ms.length - 1) := by
        have e := R_len (σ := s_mle (us σ 46 1 (nI w)) ms.length k) (n := n) (ms := ms.eraseIdx k) cn (fun c hc => R_sz c7 hc) hQ.1 gq
        rw [hel] at e
        exact e
      refine bo (mlen (us σ 46 1 (nI w)) n) (us σ 46 1 (nI w)) (s_mle (us σ 46 1 (nI w)) ms.length k) (by rw [K_leave, cN, if_neg h1, ex, q5, if_pos ((gQ_bt q6 (by omega)).mpr h2), ew]) hK ?_ (cX11_leave_ok κ b (us σ 46 1 (nI w)) n m j r hmi ms.length (hml _ hm') _) ⟨n, m, j, r, l, kl, ms.eraseIdx k, gz⟩
      have hpl : mpl (us σ 46 1 (nI w)) ms.length (nI x) = some k := hp
      rw [M_leave, show us σ 46 1 (nI w) 47 0 = nI n from cN', if_neg h1, hpl, elen]
  · refine bo (-3) σ σ (by rw [K_leave, cN, if_neg h1, ex, q5, if_neg (fun q => h2 ((gQ_bt q6 (by omega)).mp q))]) hK ?_ (cX11_leave_ok κ b σ n m j r hmi ms.length (hml σ (fun _ _ => rfl)) _) hz
    rw [M_leave, cN', if_neg h1, (R_mpl cn hg (by omega)).mpr h2]
theorem B_count (κ : gm_K) (w : Int32) : Both κ mX10_count mX11_count [.int w] := by
  refine both_fn (fun b σ n m j r l kl ms h => ?_)
  have hci := h.ci
  have hmi := h.mi
  have hz : zS σ := ⟨n, m, j, r, l, kl, ms, h⟩
  have hzl := id h
  obtain ⟨hC, hM, hJ, hT, hU, hB, hO, hH, hD, hQ, hKC⟩ := h
  obtain ⟨⟨cN, cN', cn⟩, c2, c3, c4, c5, c6, c7, c8, c9, c10, c11⟩ := id hC
  obtain ⟨⟨mN, mN', mn⟩, m2, m3, m4, m5⟩ := id hM
  obtain ⟨⟨jN, jN', jn⟩, j2, j3⟩ := id hJ
  obtain ⟨⟨tN, tN', tl⟩, t2⟩ := id hT
  obtain ⟨⟨uN, uN', un⟩, u2⟩ := id hU
  obtain ⟨⟨b0, b1, wd0, wd1, wd2⟩, b2, b3, b4⟩ := id hB
  obtain ⟨⟨oN, oN', on⟩, o2⟩ := id hO
  have hg := hQ.2
  obtain ⟨q1, q2, q3, q4, u, hu, q5, q6⟩ := id hg
  have hlen := nd_len q1 q2
  refine bq (K := K_count σ n w) (M := M_count σ n ms.length w) ?_ (cX10_count_ok κ b σ n m j r hci w) (cX11_count_ok κ b σ n m j r hmi ms.length (hzl.ml (by omega)) w) hz
  have e5 : sm (fun i => if σ 30 i = -1 then nI 0 else nI 1) n = sm (fun i => if σ 55 i = -1 then nI 0 else nI 1) n := sm_congr (fun i hi => by rw [b2 i hi])
  have e9 : sm (fun i => if σ 45 i = -1 then nI 0 else nI 1) n = sm (fun i => if σ 53 i = -1 then nI 0 else nI 1) n := sm_congr (fun i hi => by rw [hD.2.1 i hi])
  have e10 : sm (fun i => if there σ i = true then σ 6 i else 0) n = sm (fun i => if mth σ i = true then msz σ i else nI 0) n := sm_congr (fun i hi => by rw [R_th cn c5 c11 hi, R_sz c7 hi]; rfl)
  rw [K_count, M_count, cN, cN', mN, mN', jN, jN', uN, uN', c11.1, e5, tN, tN', e9, e10, R_len cn (fun c hc => R_sz c7 hc) hQ.1 hg, q3]
  rw [show bct (σ 46 1) = nI ms.length by rw [q5]; exact gQ_ct cn q1 q2 hu q6]
