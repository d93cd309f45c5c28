/-! lines: what comes next depends on the order of the entries alone -/
def tr (i j k : Nat) : Nat := if k = j then i else if k = i then j else k
theorem swp_tr (a : Nat → Int32) (i j k : Nat) : swp a i j k = a (tr i j k) := by
  unfold swp tr
  by_cases h1 : k = j
  · subst h1; rw [pk_us, if_pos rfl]
  · rw [pk_un h1, if_neg h1]
    by_cases h2 : k = i
    · subst h2; rw [pk_us, if_pos rfl]
    · rw [pk_un h2, if_neg h2]
def PM (N : Nat) (π : Nat → Nat) : Prop := (∀ k, k < N → π k < N) ∧ ∀ g : Nat → Int32, sm (fun k => g (π k)) N = sm g N
theorem PM_id (N : Nat) : PM N (fun k => k) := ⟨fun _ h => h, fun _ => rfl⟩
theorem PM_co {N : Nat} {π ρ : Nat → Nat} (h : PM N π) (h' : PM N ρ) : PM N (fun k => π (ρ k)) :=
  ⟨fun k hk => h.1 _ (h'.1 k hk), fun g => (h'.2 (fun k => g (π k))).trans (h.2 g)⟩
theorem PM_tr {N i j : Nat} (hi : i < N) (hj : j < N) : PM N (tr i j) := by
  refine ⟨fun k hk => ?_, fun g => ?_⟩
  · unfold tr
    split
    · exact hi
    · split
      · exact hj
      · exact hk
  · by_cases e : i = j
    · subst e
      refine sm_congr (fun k _ => ?_)
      show g (tr i i k) = g k
      unfold tr
      by_cases h : k = i
      · rw [if_pos h, h]
      · rw [if_neg h, if_neg h]
    · have h1 := sm_one (f := g) (g := fun k => if k = i then g j else g k) (c := i) (fun k hk => by simp [hk]) hi
      have h2 := sm_one (f := fun k => if k = i then g j else g k) (g := fun k => g (tr i j k)) (c := j) (fun k hk => by simp [tr, hk]; by_cases h : k = i <;> simp [h]) hj
      have e1 : (if j = i then g j else g j) = g j := by split <;> rfl
      have e2 : g (tr i j j) = g i := by unfold tr; rw [if_pos rfl]
      simp only [e1, e2, if_true] at h1 h2
      grind
def Sim (N : Nat) (a b : Nat → Int32) : Prop := ∀ i j, i < N → j < N → (a i ≤ a j ↔ b i ≤ b j)
theorem dsc_sim {N : Nat} {a b : Nat → Int32} (h : Sim N a b) : ∀ k, k < N → dsc a k = dsc b k ∧ ∀ i, dsc a k = some i → i + 1 ≤ k
  | 0, _ => ⟨rfl, fun i q => by simp [dsc] at q⟩
  | k + 1, hk => by
    obtain ⟨h1, h2⟩ := dsc_sim h k (by omega)
    have hh := h k (k + 1) (by omega) hk
    rw [dsc, dsc, h1]
    by_cases q : a k ≤ a (k + 1)
    · rw [if_pos q, if_pos (hh.mp q)]
      exact ⟨rfl, fun i e => by cases e; omega⟩
    · rw [if_neg q, if_neg (fun z => q (hh.mpr z))]
      exact ⟨rfl, fun i e => by have := h2 i (h1 ▸ e); omega⟩
theorem djs_sim {N i lo : Nat} {a b : Nat → Int32} (h : Sim N a b) (hi : i < N) : ∀ j, j < N → djs a (a i) lo j = djs b (b i) lo j ∧ djs a (a i) lo j ≤ j
  | 0, _ => ⟨rfl, Nat.le_refl _⟩
  | j + 1, hj => by
    obtain ⟨h1, h2⟩ := djs_sim (lo := lo) h hi j (by omega)
    have hh := h i (j + 1) hi hj
    rw [djs, djs]
    by_cases q : j + 1 ≤ lo
    · rw [if_pos q, if_pos q]; exact ⟨rfl, Nat.le_refl _⟩
    · rw [if_neg q, if_neg q]
      by_cases z : a i ≤ a (j + 1)
      · rw [if_pos z, if_pos (hh.mp z)]; exact ⟨rfl, Nat.le_refl _⟩
      · rw [if_neg z, if_neg (fun w => z (hh.mpr w))]; exact ⟨h1, by omega⟩
theorem rvl_pm {N : Nat} : ∀ f i j, j < N → ∃ π, PM N π ∧ ∀ a k, rvl f a i j k = a (π k)
  | 0, i, j, _ => ⟨fun k => k, PM_id N, fun a k => rfl⟩
  | f + 1, i, j, hj => by
    by_cases h : j ≤ i
    · exact ⟨fun k => k, PM_id N, fun a k => by rw [rvl, if_pos h]⟩
    · obtain ⟨π, h1, h2⟩ := rvl_pm (N := N) f (i + 1) (j - 1) (by omega)
      refine ⟨fun k => tr i j (π k), PM_co (PM_tr (by omega) hj) h1, fun a k => ?_⟩
      rw [rvl, if_neg h, h2, swp_tr]
theorem nx_sim {N : Nat} {a b : Nat → Int32} (hN : 1 ≤ N) (h : Sim N a b) : (nxt a N = none ∧ nxt b N = none) ∨ ∃ π a' b', PM N π ∧ nxt a N = some a' ∧ nxt b N = some b' ∧ (∀ k, a' k = a (π k)) ∧ ∀ k, b' k = b (π k) := by
  obtain ⟨h1, h2⟩ := dsc_sim h (N - 1) (by omega)
  unfold nxt
  rw [← h1]
  cases e : dsc a (N - 1) with
  | none => exact Or.inl ⟨rfl, rfl⟩
  | some i =>
    have hi := h2 i e
    obtain ⟨h3, h4⟩ := djs_sim (lo := i + 1) h (show i < N by omega) (N - 1) (by omega)
    obtain ⟨π, h5, h6⟩ := rvl_pm (N := N) N (i + 1) (N - 1) (by omega)
    refine Or.inr ⟨fun k => tr i (djs a (a i) (i + 1) (N - 1)) (π k), _, _, PM_co (PM_tr (by omega) (by omega)) h5, rfl, rfl, fun k => ?_, fun k => ?_⟩
    · rw [h6, swp_tr]
    · rw [h6, swp_tr, ← h3]
theorem Sim_pm {N : Nat} {a b a' b' : Nat → Int32} {π : Nat → Nat} (h : Sim N a b) (hp : PM N π) (ha : ∀ k, a' k = a (π k)) (hb : ∀ k, b' k = b (π k)) : Sim N a' b' := by
  intro i j hi hj
  rw [ha, ha, hb, hb]
  exact h _ _ (hp.1 i hi) (hp.1 j hj)
theorem trm_sim {N : Nat} (hN : 1 ≤ N) : ∀ (f : Nat) (a b : Nat → Int32), Sim N a b → trm N f b → trm N f a
  | 0, _, _, _, h => h
  | f + 1, a, b, hs, h => by
    rw [trm] at h ⊢
    rcases nx_sim hN hs with ⟨e1, e2⟩ | ⟨π, a', b', hp, e1, e2, ha, hb⟩
    · rw [e1]; trivial
    · rw [e2] at h
      rw [e1]
      exact trm_sim hN f a' b' (Sim_pm hs hp ha hb) h
def trb (n : Nat) : Nat → (Nat → Int32) → Bool
  | 0, _ => false
  | f + 1, a => match nxt a n with
    | none => true
    | some a' => trb n f a'
theorem trb_trm (n : Nat) : ∀ (f : Nat) (a : Nat → Int32), trb n f a = true → trm n f a
  | 0, a, h => by simp [trb] at h
  | f + 1, a, h => by
    rw [trb] at h
    rw [trm]
    cases e : nxt a n with
    | none => trivial
    | some a' => rw [e] at h; exact trb_trm n f a' h
theorem trm_id : ∀ N, 1 ≤ N → N ≤ 4 → trm N 24 (fun k => nI k) := by
  intro N h1 h4
  apply trb_trm
  have : N = 1 ∨ N = 2 ∨ N = 3 ∨ N = 4 := by omega
  rcases this with rfl | rfl | rfl | rfl <;> decide +kernel
theorem wln_up (u : Nat) (f : Nat → Int32) : ∀ i, ∀ k, k < pcr u i → ∃ c, c < i ∧ wln u f i k = nI c ∧ pcr u c = k
  | 0, k, h => absurd h (by simp [pcr])
  | i + 1, k, h => by
    rw [pcr] at h
    rw [wln]
    rcases Nat.mod_two_eq_zero_or_one (u / 2 ^ i) with hb | hb
    · rw [if_neg (by rw [hb]; decide)]
      rw [hb] at h
      obtain ⟨c, h1, h2, h3⟩ := wln_up u f i k (by omega)
      exact ⟨c, by omega, h2, h3⟩
    · rw [if_pos hb]
      rw [hb] at h
      by_cases e : k = pcr u i
      · subst e; exact ⟨i, by omega, pk_us, rfl⟩
      · obtain ⟨c, h1, h2, h3⟩ := wln_up u f i k (by omega)
        exact ⟨c, by omega, (pk_un e).trans h2, h3⟩
theorem wln_sim {u n : Nat} {f : Nat → Int32} (hn : n ≤ 16) : Sim (pcr u n) (wln u f n) (fun k => nI k) := by
  intro i j hi hj
  have hp := pcr_le u n
  obtain ⟨c, hc, e1, r1⟩ := wln_up u f n i hi
  obtain ⟨d, hd, e2, r2⟩ := wln_up u f n j hj
  show wln u f n i ≤ wln u f n j ↔ nI i ≤ nI j
  by_cases hij : i = j
  · subst hij
    exact ⟨fun _ => nI_le (Nat.le_refl _) (by omega), fun _ => by rw [e1]; exact nI_le (Nat.le_refl _) (by omega)⟩
  · rw [e1, e2, nI_leI (by omega) (by omega), nI_leI (by omega) (by omega)]
    constructor
    · intro h
      have := pcr_mo u h
      omega
    · intro h
      apply Nat.not_lt.mp
      intro h2
      have := pcr_mo u (Nat.le_of_lt h2)
      omega
theorem pcr_pos {u n : Nat} (h0 : 0 < u) (hu : u < 2 ^ n) : 1 ≤ pcr u n := by
  apply Nat.pos_of_ne_zero
  intro h
  have : u = 0 := by
    apply Nat.eq_of_testBit_eq
    intro i
    rw [Nat.zero_testBit]
    by_cases hi : i < n
    · have h1 := pcr_mo u (show i + 1 ≤ n by omega)
      rw [pcr, h] at h1
      rw [tb_div, decide_eq_false_iff_not]
      omega
    · exact tb_hi hu (by omega)
  omega
theorem lay_trm {n : Nat} (hn : n ≤ 16) (f : Nat → Int32) : ∀ u, 0 < u → u < 2 ^ n → pcr u n ≤ 4 → trm (pcr u n) 24 (wln u f n) := fun u h0 hu h4 =>
  trm_sim (pcr_pos h0 hu) 24 _ _ (wln_sim hn) (trm_id _ (pcr_pos h0 hu) h4)
theorem sz_n {σ : wg_S} {n : Nat} (hC : zC σ n) (c : Nat) : ∃ s, s ≤ 792 ∧ σ 6 c = nI s := by
  by_cases hc : c < n
  · obtain ⟨x0, a0, -, b0, -⟩ := hC.2.2.2.2.2.1 c hc 0 (by omega)
    obtain ⟨x1, a1, -, b1, -⟩ := hC.2.2.2.2.2.1 c hc 1 (by omega)
    obtain ⟨x2, a2, -, b2, -⟩ := hC.2.2.2.2.2.1 c hc 2 (by omega)
    obtain ⟨x3, a3, -, b3, -⟩ := hC.2.2.2.2.2.1 c hc 3 (by omega)
    rw [Nat.add_zero] at b0
    have h := hC.2.2.2.2.2.2.1.1 c hc
    rw [b0, b1, b2, b3, nI_add, nI_add, nI_add] at h
    exact ⟨_, by omega, h.symm⟩
  · exact ⟨0, by omega, hC.2.2.2.2.2.2.1.2 c (by omega)⟩
/-- a line of choirs whose sizes together are T -/
def GL (sz : Nat → Int32) (n N T : Nat) (a : Nat → Int32) : Prop := (∀ k, k < N → ∃ c, c < n ∧ a k = nI c) ∧ sm (clz sz a) N = nI T
theorem GL_pm {sz : Nat → Int32} {n N T : Nat} {a a' : Nat → Int32} {π : Nat → Nat} (h : GL sz n N T a) (hp : PM N π) (ha : ∀ k, a' k = a (π k)) : GL sz n N T a' := by
  refine ⟨fun k hk => by rw [ha]; exact h.1 _ (hp.1 k hk), ?_⟩
  rw [← h.2, ← hp.2 (clz sz a)]
  refine sm_congr (fun k _ => ?_)
  show sz (a' k).toNatClampNeg = sz (a (π k)).toNatClampNeg
  rw [ha]
def snn (s : Nat → Nat) : Nat → Nat
  | 0 => 0
  | k + 1 => snn s k + s k
theorem snn_mo (s : Nat → Nat) {i k : Nat} (h : i ≤ k) : snn s i ≤ snn s k := by
  obtain ⟨d, rfl⟩ := Nat.exists_eq_add_of_le h
  induction d with
  | zero => exact Nat.le_refl _
  | succ d ih =>
    have := ih (by omega)
    rw [← Nat.add_assoc, snn]
    omega
theorem snn_le {s : Nat → Nat} {c : Nat} (h : ∀ k, s k ≤ c) : ∀ k, snn s k ≤ k * c
  | 0 => by rw [snn]; omega
  | k + 1 => by
    have h1 := snn_le h k
    have h2 := h k
    rw [snn, Nat.add_mul, Nat.one_mul]
    omega
theorem sm_snn {f : Nat → Int32} {s : Nat → Nat} (h : ∀ k, f k = nI (s k)) : ∀ k, sm f k = nI (snn s k)
  | 0 => rfl
  | k + 1 => by rw [sm, snn, sm_snn h k, h k, nI_add]
theorem gl_n {W P s : Nat} (hW : W ≤ 60) (h : P + s ≤ W) : (∃ z, z ≤ 60 ∧ gol (nI W) (nI P) (nI s) = nI z) ∧ ∃ z, z ≤ 60 ∧ gor (nI W) (nI P) (nI s) = nI z := by
  have e : nI W - nI P - nI s = nI (W - P - s) := by rw [pk_sub (by omega), pk_sub (by omega)]
  rw [gol, gor, sec, e]
  by_cases h1 : nI (W - P - s) < nI P
  · rw [if_pos h1, if_pos h1, if_pos h1, nI_add]
    exact ⟨⟨0, by omega, rfl⟩, _, by omega, rfl⟩
  · rw [if_neg h1, if_neg h1, if_neg h1, nI_add]
    exact ⟨⟨_, by omega, rfl⟩, 0, by omega, rfl⟩
theorem clv_n {sz : Nat → Int32} {w : Int32} {a : Nat → Int32} {n N T W : Nat} (hN : N ≤ 4) (hs : ∀ c, ∃ s, s ≤ 792 ∧ sz c = nI s) (hw : w = nI W) (hW : W ≤ 60) (hT : T ≤ W) (h : GL sz n N T a) : ∃ z, z ≤ 240 ∧ clv sz w a N = nI z := by
  subst hw
  have hk : ∀ k, ∃ s, s ≤ 792 ∧ clz sz a k = nI s := fun k => hs _
  have hc : ∀ k, clz sz a k = nI (clz sz a k).toNatClampNeg ∧ (clz sz a k).toNatClampNeg ≤ 792 := fun k => by
    obtain ⟨s, h1, h2⟩ := hk k
    rw [h2, nI_clamp (by omega)]
    exact ⟨rfl, h1⟩
  have hsm := sm_snn (f := clz sz a) (s := fun k => (clz sz a k).toNatClampNeg) (fun k => (hc k).1)
  have hle := snn_le (s := fun k => (clz sz a k).toNatClampNeg) (c := 792) (fun k => (hc k).2)
  have hTN : snn (fun k => (clz sz a k).toNatClampNeg) N = T := by
    have h1 := h.2
    have h2 := hle N
    have h3 : N * 792 ≤ 4 * 792 := Nat.mul_le_mul_right _ hN
    rw [hsm N] at h1
    exact (nI_eq (by omega) (by omega)).mp h1
  have hb : ∀ k, k < N → (∃ z, z ≤ 60 ∧ gol (nI W) (clp sz a k) (clz sz a k) = nI z) ∧ ∃ z, z ≤ 60 ∧ gor (nI W) (clp sz a k) (clz sz a k) = nI z := fun k hk => by
    have h1 := snn_mo (fun k => (clz sz a k).toNatClampNeg) (show k + 1 ≤ N by omega)
    rw [hTN, snn] at h1
    rw [clp, hsm k, (hc k).1]
    exact gl_n hW (by omega)
  obtain ⟨sL, hL1, hL2⟩ := sm_nat (f := fun k => gol (nI W) (clp sz a k) (clz sz a k)) (c := 60) (n := N) (fun k hk => (hb k hk).1)
  obtain ⟨sR, hR1, hR2⟩ := sm_nat (f := fun k => gor (nI W) (clp sz a k) (clz sz a k)) (c := 60) (n := N) (fun k hk => (hb k hk).2)
  have hL2 : clL sz (nI W) a N = nI sL := hL2
  have hR2 : clR sz (nI W) a N = nI sR := hR2
  rw [clv, hL2, hR2]
  by_cases h1 : nI sL < nI sR
  · rw [if_pos h1]; exact ⟨sR, by omega, rfl⟩
  · rw [if_neg h1]; exact ⟨sL, by omega, rfl⟩
theorem clz_m {σ τ : wg_S} {a a' : Nat → Int32} {n N : Nat} (hn : n ≤ 16) (hz : ∀ c, c < n → msz τ c = σ 6 c) (ha : ∀ k, k < N → ∃ c, c < n ∧ a k = nI c) (hag : ∀ k, k < N → a' k = a k) {k : Nat} (hk : k < N) : mcz τ a' k = clz (σ 6) a k := by
  obtain ⟨c, hc, e⟩ := ha k hk
  rw [mcz, clz, hag k hk, e, nI_clamp (by omega), hz c hc]
theorem clp_m {σ τ : wg_S} {a a' : Nat → Int32} {n N : Nat} (hn : n ≤ 16) (hz : ∀ c, c < n → msz τ c = σ 6 c) (ha : ∀ k, k < N → ∃ c, c < n ∧ a k = nI c) (hag : ∀ k, k < N → a' k = a k) {k : Nat} (hk : k ≤ N) : mcp τ a' k = clp (σ 6) a k :=
  sm_congr (fun i hi => clz_m hn hz ha hag (show i < N by omega))
theorem clv_m {σ τ : wg_S} {a a' : Nat → Int32} {n N : Nat} (hn : n ≤ 16) (hz : ∀ c, c < n → msz τ c = σ 6 c) (hw : τ 47 35 = σ 29 1) (ha : ∀ k, k < N → ∃ c, c < n ∧ a k = nI c) (hag : ∀ k, k < N → a' k = a k) : clv (σ 6) (σ 29 1) a N = mcv τ a' N := by
  have eL : mcL τ a' N = clL (σ 6) (σ 29 1) a N := sm_congr (fun k hk => by rw [hw, clz_m hn hz ha hag hk, clp_m hn hz ha hag (Nat.le_of_lt hk), gol_m])
  have eR : mcR τ a' N = clR (σ 6) (σ 29 1) a N := sm_congr (fun k hk => by rw [hw, clz_m hn hz ha hag hk, clp_m hn hz ha hag (Nat.le_of_lt hk), gor_m])
  rw [clv, mcv, eL, eR, mx_le]
theorem ag_sim {N : Nat} {a a' : Nat → Int32} (h : ∀ k, k < N → a' k = a k) : Sim N a a' := fun i j hi hj => by rw [h i hi, h j hj]
theorem pb_cp {N n : Nat} {a a' t t' : Nat → Int32} (h : ∀ k, k < N → a' k = a k) (ha : ∀ k, k < N → ∃ c, c < n ∧ a k = nI c) : ∀ k, k < N → cpr a' t' N k = va_cpy a t 0 0 N k ∧ ∃ c, c < n ∧ va_cpy a t 0 0 N k = nI c := fun k hk => by
  have e1 : va_cpy a t 0 0 N k = a k := by
    rw [pk_cpy_in (Nat.zero_le _) (by omega)]
    congr 1
    omega
  rw [e1, cpr, if_pos hk]
  exact ⟨h k hk, ha k hk⟩
theorem pb_eq {sz : Nat → Int32} {n N T : Nat} {cl cl' : (Nat → Int32) → Int32} (hN : 1 ≤ N) (hcl : ∀ a a', GL sz n N T a → (∀ k, k < N → a' k = a k) → cl a = cl' a' ∧ ∃ z, z ≤ 240 ∧ cl a = nI z) : ∀ (f : Nat) (a a' t t' : Nat → Int32) (l : Int32), GL sz n N T a → (∀ k, k < N → a' k = a k) → (∀ k, k < N → t' k = t k ∧ ∃ c, c < n ∧ t k = nI c) → (∃ z, z ≤ 240 ∧ l = nI z) →
    (pbs cl N f a t l).2.2 = (mpb cl' N f a' t' l).2.2 ∧ ∀ k, k < N → (mpb cl' N f a' t' l).2.1 k = (pbs cl N f a t l).2.1 k ∧ ∃ c, c < n ∧ (pbs cl N f a t l).2.1 k = nI c
  | 0, a, a', t, t', l, _, _, ht, _ => ⟨rfl, ht⟩
  | f + 1, a, a', t, t', l, hg, hag, ht, hl => by
    obtain ⟨c1, c2⟩ := hcl a a' hg hag
    have hm : mpt cl' N a' t' l = if l ≤ cl a then (t', l) else (cpr a' t' N, cl a) := by
      obtain ⟨z, hz, rfl⟩ := hl
      rw [mpt, if_neg (nI_pos (by omega)), ← c1]
    have hnew : (∀ k, k < N → (mpt cl' N a' t' l).1 k = (if l ≤ cl a then t else va_cpy a t 0 0 N) k ∧ ∃ c, c < n ∧ (if l ≤ cl a then t else va_cpy a t 0 0 N) k = nI c) ∧ (mpt cl' N a' t' l).2 = (if l ≤ cl a then l else cl a) ∧ ∃ z, z ≤ 240 ∧ (if l ≤ cl a then l else cl a) = nI z := by
      rw [hm]
      by_cases h1 : l ≤ cl a
      · rw [if_pos h1, if_pos h1, if_pos h1]; exact ⟨ht, rfl, hl⟩
      · rw [if_neg h1, if_neg h1, if_neg h1]; exact ⟨pb_cp hag hg.1, rfl, c2⟩
    obtain ⟨n1, n2, n3⟩ := hnew
    rw [pbs, mpb]
    rcases nx_sim hN (ag_sim hag) with ⟨e1, e2⟩ | ⟨π, x, y, hp, e1, e2, hx, hy⟩
    · rw [e1, e2]
      exact ⟨n2.symm, n1⟩
    · rw [e1, e2, n2]
      exact pb_eq hN hcl f x y _ _ _ (GL_pm hg hp hx) (fun k hk => by rw [hx, hy]; exact hag _ (hp.1 k hk)) n1 n3
theorem pb_fst {sz : Nat → Int32} {n N T : Nat} {cl cl' : (Nat → Int32) → Int32} (hN : 1 ≤ N) (hcl : ∀ a a', GL sz n N T a → (∀ k, k < N → a' k = a k) → cl a = cl' a' ∧ ∃ z, z ≤ 240 ∧ cl a = nI z) (f : Nat) (a a' t t' : Nat → Int32) (hg : GL sz n N T a) (hag : ∀ k, k < N → a' k = a k) :
    (pbs cl N (f + 1) a t 1000000).2.2 = (mpb cl' N (f + 1) a' t' (-1)).2.2 ∧ ∀ k, k < N → (mpb cl' N (f + 1) a' t' (-1)).2.1 k = (pbs cl N (f + 1) a t 1000000).2.1 k ∧ ∃ c, c < n ∧ (pbs cl N (f + 1) a t 1000000).2.1 k = nI c := by
  obtain ⟨c1, c2⟩ := hcl a a' hg hag
  have hm : mpt cl' N a' t' (-1) = (cpr a' t' N, cl a) := by rw [mpt, if_pos (by decide), ← c1]
  have hlt : ¬ (1000000 : Int32) ≤ cl a := by
    obtain ⟨z, hz, e⟩ := c2
    rw [e]
    exact nI_ge (b := 1000000) (by omega) (by omega)
  rw [pbs, mpb, if_neg hlt, if_neg hlt, hm]
  rcases nx_sim hN (ag_sim hag) with ⟨e1, e2⟩ | ⟨π, x, y, hp, e1, e2, hx, hy⟩
  · rw [e1, e2]
    exact ⟨rfl, pb_cp hag hg.1⟩
  · rw [e1, e2]
    exact pb_eq hN hcl f x y _ _ _ (GL_pm hg hp hx) (fun k hk => by rw [hx, hy]; exact hag _ (hp.1 k hk)) (pb_cp hag hg.1) c2
/-- both sides put the line down -/
theorem pl_eq {ρ τ : wg_S} {t t' : Nat → Int32} {row : Int32} {n N : Nat} (hn : n ≤ 16) (hag : ∀ k, k < N → t' k = t k ∧ ∃ c, c < n ∧ t k = nI c) (hcp : ∀ k, k < N → mcp τ t' k = clp (ρ 6) t k) (h30 : ∀ c, c < n → ρ 30 c = τ 55 c) (h31 : ∀ c, c < n → ρ 31 c = τ 56 c) : ∀ i, i ≤ N → (∀ c, c < n → spl ρ t row i 30 c = mps τ t' row i 55 c ∧ spl ρ t row i 31 c = mps τ t' row i 56 c) ∧ ∀ c, n ≤ c → spl ρ t row i 30 c = ρ 30 c ∧ spl ρ t row i 31 c = ρ 31 c
  | 0, _ => ⟨fun c hc => ⟨h30 c hc, h31 c hc⟩, fun c hc => ⟨rfl, rfl⟩⟩
  | i + 1, hi => by
    obtain ⟨h1, h2⟩ := pl_eq hn hag hcp h30 h31 i (by omega)
    obtain ⟨e, d, hd, e2⟩ := hag i (by omega)
    rw [spl, mps, s_put, e, e2, nI_clamp (by omega), hcp i (by omega)]
    refine ⟨fun c hc => ?_, fun c hc => ?_⟩
    · rw [us_p (p := 31) (p' := 30) (by decide), us_e, us_p (p := 56) (p' := 55) (by decide), us_e, us_e, us_p (p := 30) (p' := 31) (by decide), us_e, us_p (p := 55) (p' := 56) (by decide)]
      by_cases q : c = d
      · subst q; rw [pk_us, pk_us, pk_us, pk_us]; exact ⟨rfl, rfl⟩
      · rw [pk_un q, pk_un q, pk_un q, pk_un q]; exact h1 c hc
    · rw [us_p (p := 31) (p' := 30) (by decide), us_e, us_e, us_p (p := 30) (p' := 31) (by decide), pk_un (by omega), pk_un (by omega)]
      exact h2 c hc
/-- the first line and its size -/
theorem fl_ok {σ : wg_S} {set : Int32} {u : Nat} (hu : u < 65536) (hset : set = nI u) (hs : ∀ c, ∃ s, s ≤ 792 ∧ σ 6 c = nI s) : ∀ i, i ≤ 16 → (fln σ set i).1 = min 4 (pcr u i) ∧ ∃ P Q, P ≤ Q ∧ Q ≤ i * 792 ∧ sm (clz (σ 6) ((fln σ set i).2 32)) (fln σ set i).1 = nI P ∧ sm (fun c => bv set c * σ 6 c) i = nI Q
  | 0, _ => ⟨rfl, 0, 0, Nat.le_refl _, by omega, rfl, rfl⟩
  | i + 1, hi => by
    obtain ⟨h1, P, Q, hPQ, hQ, h2, h3⟩ := fl_ok hu hset hs i (by omega)
    obtain ⟨s, hs1, hs2⟩ := hs i
    have hbv : bv set i = nI (u / 2 ^ i % 2) := by rw [hset, bv_nI (by omega) (by omega)]
    have hin := fln_in σ set i
    rw [fln, pcr, sm, h3, hbv, hs2, pk_mul, nI_add]
    rcases Nat.mod_two_eq_zero_or_one (u / 2 ^ i) with hb | hb
    · rw [hb, if_neg (fun q => absurd q.2 (by decide))]
      have hQ' : Q ≤ (i + 1) * 792 := Nat.le_trans hQ (Nat.mul_le_mul_right 792 (Nat.le_succ i))
      have hQs : nI (Q + 0 * s) = nI Q := by rw [Nat.zero_mul, Nat.add_zero]
      refine ⟨by rw [h1, Nat.add_zero], P, Q, hPQ, hQ', h2, hQs⟩
    · rw [hb]
      by_cases h4 : (fln σ set i).1 < 4
      · rw [if_pos ⟨h4, rfl⟩]
        refine ⟨by show (fln σ set i).1 + 1 = _; omega, P + s, Q + s, by omega, by omega, ?_, by congr 1; omega⟩
        show sm (clz (σ 6) (us (fln σ set i).2 32 (fln σ set i).1 (nI i) 32)) ((fln σ set i).1 + 1) = nI (P + s)
        rw [us_e, sm]
        have e1 : sm (clz (σ 6) (upd ((fln σ set i).2 32) (fln σ set i).1 (nI i))) (fln σ set i).1 = nI P := by
          rw [← h2]
          refine sm_congr (fun k hk => ?_)
          rw [clz, clz, pk_un (by omega)]
        rw [e1, clz, pk_us, nI_clamp (by omega), hs2, nI_add]
      · rw [if_neg (fun q => h4 q.1)]
        exact ⟨by omega, P, Q + s, by omega, by omega, h2, by congr 1; omega⟩
theorem fl_ag {σ : wg_S} {set : Int32} {u : Nat} {f : Nat → Int32} (hu : u < 65536) (hset : set = nI u) : ∀ i, i ≤ 16 → pcr u i ≤ 4 → (fln σ set i).1 = pcr u i ∧ ∀ k, k < pcr u i → wln u f i k = (fln σ set i).2 32 k
  | 0, _, _ => ⟨rfl, fun k hk => absurd hk (by simp [pcr])⟩
  | i + 1, hi, h4 => by
    have hm := pcr_mo u (show i ≤ i + 1 by omega)
    obtain ⟨h1, h2⟩ := fl_ag (f := f) hu hset i (by omega) (by omega)
    have hbv : bv set i = nI (u / 2 ^ i % 2) := by rw [hset, bv_nI (by omega) (by omega)]
    rw [fln, wln, hbv]
    rw [pcr] at h4 ⊢
    rcases Nat.mod_two_eq_zero_or_one (u / 2 ^ i) with hb | hb
    · rw [hb, if_neg (fun q => absurd q.2 (by decide)), if_neg (by decide)]
      exact ⟨h1, h2⟩
    · rw [hb] at h4 ⊢
      rw [if_pos ⟨by omega, rfl⟩, if_pos rfl]
      refine ⟨by show (fln σ set i).1 + 1 = _; omega, fun k hk => ?_⟩
      show _ = us (fln σ set i).2 32 (fln σ set i).1 (nI i) 32 k
      rw [us_e, h1]
      by_cases e : k = pcr u i
      · subst e; rw [pk_us, pk_us]
      · rw [pk_un e, pk_un e]; exact h2 k (by omega)
theorem B_lay (κ : gm_K) (row set : Int32) : Both κ mX10_lay mX11_lay [.int row, .int set] := by
  intro b σ hR
  obtain ⟨n, m, j, r, l, kl, ms, h⟩ := hR
  have hci := h.ci
  have hmi := h.mi
  have hz : zS σ := ⟨n, m, j, r, l, kl, ms, h⟩
  have hzl := id h
  obtain ⟨hC, hM, hJ, hT, hU, hB, hO, hH, hD, hQ, hKC⟩ := h
  obtain ⟨⟨cN, cN', cn⟩, c2, c3, c4, c5, c6, c7, c8, c9, c10, c11⟩ := id hC
  obtain ⟨⟨mN, mN', mn⟩, m2, m3, m4, m5⟩ := id hM
  obtain ⟨⟨jN, jN', jn⟩, j2, j3⟩ := id hJ
  obtain ⟨⟨tN, tN', tl⟩, t2⟩ := id hT
  obtain ⟨⟨uN, uN', un⟩, u2⟩ := id hU
  obtain ⟨⟨b0, b1, wd0, wd1, wd2⟩, b2, b3, b4⟩ := id hB
  obtain ⟨⟨oN, oN', on⟩, o2⟩ := id hO
  have hsz := sz_n hC
  have hw29 : σ 29 1 = nI wd0 := b1.trans wd2
  have hp2 := p2_16 cn
  have hpre : (!decide (set = 0) && decide (set &&& -(nI 1 <<< (σ 1 0 &&& 31)) = 0)) = true → sm (fun i => bv set i * σ 6 i) n ≤ σ 29 1 → 1 ≤ (fln σ set n).1 ∧ ¬ 1000000 ≤ clv (σ 6) (σ 29 1) ((fln σ set n).2 32) (fln σ set n).1 := by
    intro h1 h2
    rw [cN, set_k cn] at h1
    obtain ⟨u, hu0, hu, hset⟩ := h1
    obtain ⟨g1, P, Q, g2, g3, g4, g5⟩ := fl_ok (σ := σ) (by omega) hset hsz n cn
    have g6 := pcr_pos hu0 hu
    rw [g5, hw29, nI_leI (by omega) (by omega)] at h2
    refine ⟨by omega, ?_⟩
    obtain ⟨z, hz, e⟩ := clv_n (sz := σ 6) (w := σ 29 1) (a := (fln σ set n).2 32) (n := n) (N := (fln σ set n).1) (T := P) (W := wd0) (by omega) hsz hw29 wd1 (by omega) ⟨fun k hk => fln_in σ set n k hk, g4⟩
    rw [e]
    exact nI_ge (b := 1000000) (by omega) (by omega)
  have key : ∀ lf rt, (∀ p, 47 ≤ p → (K_lay σ n row set).2 lf rt p = σ p) ∧ (M_lay ((K_lay σ n row set).2 lf rt) n row set).1 = (K_lay σ n row set).1 ∧ zS (M_lay ((K_lay σ n row set).2 lf rt) n row set).2 := by
    intro lf rt
    have fin : ∀ v υ, K_lay σ n row set = (v, fun _ _ => σ) → M_lay σ n row set = (v, υ) → zS υ → (∀ p, 47 ≤ p → (K_lay σ n row set).2 lf rt p = σ p) ∧ (M_lay ((K_lay σ n row set).2 lf rt) n row set).1 = (K_lay σ n row set).1 ∧ zS (M_lay ((K_lay σ n row set).2 lf rt) n row set).2 := fun v υ e1 e2 hz => by
      rw [e1]
      show (∀ p, 47 ≤ p → σ p = σ p) ∧ (M_lay σ n row set).1 = v ∧ zS (M_lay σ n row set).2
      rw [e2]
      exact ⟨fun _ _ => rfl, rfl, hz⟩
    have h74 : ∀ f, zS (ua σ 74 f) := fun f => ⟨n, m, j, r, l, kl, ms, zL_sf (fun p (hp : p < 73 ∨ 79 < p) => ua_p (show p ≠ 74 by omega)) hzl⟩
    by_cases h1 : hs (σ 29 0) row = false
    · refine fin (-1) σ (by rw [K_lay, if_pos h1]) ?_ hz
      rw [M_lay]
      by_cases h2 : row < 0
      · rw [if_pos h2]
      · rw [if_neg h2, if_pos]
        intro q
        rw [← b0] at q
        rw [hs, decide_eq_false h2, decide_eq_false (fa_of_lt q).2.1] at h1
        exact absurd h1 (by decide)
    have h1' := Bool.of_not_eq_false h1
    rw [hs, Bool.and_eq_true, Bool.not_eq_true', Bool.not_eq_true', decide_eq_false_iff_not, decide_eq_false_iff_not] at h1'
    have h1b : row < σ 29 0 := fa_of_nle h1'.2
    by_cases h2 : ¬ ∃ u, 0 < u ∧ u < 2 ^ n ∧ set = nI u
    · have k1 : (!decide (set = 0) && decide (set &&& -(nI 1 <<< (nI n &&& 31)) = 0)) = false := Bool.eq_false_iff.mpr (fun z => h2 ((set_k cn).mp z))
      refine fin (-2) σ (by rw [K_lay, if_neg h1, cN, if_pos k1]) ?_ hz
      rw [M_lay, if_neg h1'.1, ← b0, if_neg (fun q => q h1b), cN']
      by_cases k3 : set ≤ 0
      · rw [if_pos k3]
      · rw [if_neg k3, if_pos]
        apply fa_of_nlt
        exact fun z => h2 ((set_l cn).mp ⟨k3, z⟩)
    have h2 := Classical.not_not.mp h2
    have k1 := (set_k cn).mpr h2
    have k2 := (set_l cn).mpr h2
    have k2' := (fa_of_lt k2.2).2.1
    obtain ⟨u, hu0, hu, rfl⟩ := h2
    have eu := nI_clamp (show u < 2 ^ 31 by omega)
    have hct := bct_sm cn hu
    by_cases h3 : ¬ sm (bv (nI u)) 31 ≤ nI 4
    · exact fin (-2) σ (by rw [K_lay, if_neg h1, cN, k1, if_neg (by decide), hct, if_pos h3]) (by rw [M_lay, if_neg h1'.1, ← b0, if_neg (fun q => q h1b), cN', if_neg k2.1, if_neg k2', if_pos h3]) hz
    have h3n : pcr u n ≤ 4 := by
      have h4 := Decidable.not_not.mp h3
      have h5 := pcr_le u n
      rw [sm_bv (by omega) 31 (by omega), pcr_to hu (by omega), nI_leI (by omega) (by omega)] at h4
      exact h4
    have hbit : ∀ c, c < n → (bv (nI u) c = nI 1 ↔ u / 2 ^ c % 2 = 1) := fun c hc => by
      rw [bv_nI (by omega) (by omega)]
      exact nI_eq (by omega) (by omega)
    have erd : alb (rdy σ (nI u)) n = alb (fun c => !decide (u / 2 ^ c % 2 = 1) || (decide (σ 55 c = -1) && mth σ c)) n := alb_congr (fun c hc => by
      rw [rdy, R_th cn c5 c11 hc, b2 c hc, decide_eq_decide.mpr (hbit c hc)])
    have ehr : hrm σ n row (nI 0) (σ 29 1) = alb (mfr σ row (nI 0) (σ 47 35)) n := by
      have e0 : nI 0 + σ 29 1 = σ 29 1 := Int32.zero_add _
      rw [hrm, e0, decide_eq_true (show σ 29 1 ≤ σ 29 1 from Int32.le_refl _), Bool.true_and]
      exact alb_congr (fun c hc => by rw [aps, mfr, e0, b1, b2 c hc, b3 c hc, R_sz c7 hc])
    have esz : sm (fun i => bv (nI u) i * σ 6 i) n = mll σ u n := sm_congr (fun c hc => by
      rw [bv_nI (by omega) (by omega), R_sz c7 hc]
      rcases Nat.mod_two_eq_zero_or_one (u / 2 ^ c) with hb | hb
      · rw [hb, if_neg (by decide)]; exact Int32.zero_mul
      · rw [hb, if_pos rfl]; exact Int32.one_mul _)
    have hKc : ∀ v, K_lay σ n row (nI u) = v ↔ (if alb (rdy σ (nI u)) n = false then (-3, fun _ _ => σ) else if hrm σ n row (nI 0) (σ 29 1) = false then (-3, fun _ _ => σ) else if ¬ sm (fun i => bv (nI u) i * σ 6 i) n ≤ σ 29 1 then (-3, fun _ _ => σ)
      else ((bst σ (nI u) n).2.2, fun l r => spl (lst (fln σ (nI u) n).2 (bst σ (nI u) n).1 (bst σ (nI u) n).2.1 l r) (bst σ (nI u) n).2.1 row (fln σ (nI u) n).1)) = v := fun v => by
      rw [K_lay, if_neg h1, cN, k1, if_neg (by decide), hct, if_neg h3]
    have hMc : ∀ τ : wg_S, (∀ p, 47 ≤ p → τ p = σ p) → M_lay τ n row (nI u) = if mlg τ n row u n = false then (-3, ua τ 74 (wln u (τ 74) n)) else if ¬ mll τ u n ≤ τ 47 35 then (-3, ua τ 74 (wln u (τ 74) n))
      else ((mlt τ n u).2.2, mps (mst τ (mlt τ n u).1 (mlt τ n u).2.1) (mlt τ n u).2.1 row (pcr u n)) := fun τ hτ => by
      rw [M_lay, if_neg h1'.1, hτ 47 (by decide), ← b0, if_neg (fun q => q h1b), cN', if_neg k2.1, if_neg k2', if_neg h3, eu]
    have hml : ∀ τ : wg_S, (∀ p, 47 ≤ p → τ p = σ p) → mlg τ n row u n = (hrm σ n row (nI 0) (σ 29 1) && alb (rdy σ (nI u)) n) ∧ mll τ u n = sm (fun i => bv (nI u) i * σ 6 i) n := fun τ hτ => by
      have e1 : mth τ = mth σ := by
        funext c
        unfold mth mhc mxa mxb
        rw [hτ 47 (by decide), hτ 48 (by decide), hτ 51 (by decide)]
      have e2 : msz τ = msz σ := by
        funext c
        unfold msz
        rw [hτ 50 (by decide)]
      refine ⟨?_, ?_⟩
      · rw [ehr, erd, mlg]
        unfold mfr
        rw [e1, e2, hτ 47 (by decide), hτ 55 (by decide), hτ 56 (by decide)]
      · rw [esz, mll, mll, e2]
    by_cases h4 : alb (rdy σ (nI u)) n = false
    · refine fin (-3) (ua σ 74 (wln u (σ 74) n)) (by rw [hKc, if_pos h4]) ?_ (h74 _)
      rw [hMc σ (fun _ _ => rfl), (hml σ (fun _ _ => rfl)).1, h4, if_pos (Bool.and_false _)]
    by_cases h5 : hrm σ n row (nI 0) (σ 29 1) = false
    · refine fin (-3) (ua σ 74 (wln u (σ 74) n)) (by rw [hKc, if_neg h4, if_pos h5]) ?_ (h74 _)
      rw [hMc σ (fun _ _ => rfl), (hml σ (fun _ _ => rfl)).1, h5, if_pos (Bool.false_and _)]
    by_cases h6 : ¬ sm (fun i => bv (nI u) i * σ 6 i) n ≤ σ 29 1
    · refine fin (-3) (ua σ 74 (wln u (σ 74) n)) (by rw [hKc, if_neg h4, if_neg h5, if_pos h6]) ?_ (h74 _)
      rw [hMc σ (fun _ _ => rfl), (hml σ (fun _ _ => rfl)).1, (hml σ (fun _ _ => rfl)).2, Bool.of_not_eq_false h4, Bool.of_not_eq_false h5, if_neg (by decide), ← b1, if_pos h6]
    have eK := (hKc _).mpr (by rw [if_neg h4, if_neg h5, if_neg h6])
    obtain ⟨g1, P, Q, g2, g3, g4, g5⟩ := fl_ok (σ := σ) (u := u) (by omega) rfl hsz n cn
    obtain ⟨a1, a2⟩ := fl_ag (σ := σ) (u := u) (f := σ 74) (by omega) rfl n cn h3n
    have hPW : P ≤ wd0 := by
      have h7 := Decidable.not_not.mp h6
      rw [g5, hw29, nI_leI (by omega) (by omega)] at h7
      omega
    have hN1 := pcr_pos hu0 hu
    rw [eK]
    show (∀ p, 47 ≤ p → spl (lst (fln σ (nI u) n).2 (bst σ (nI u) n).1 (bst σ (nI u) n).2.1 lf rt) (bst σ (nI u) n).2.1 row (fln σ (nI u) n).1 p = σ p) ∧ (M_lay (spl (lst (fln σ (nI u) n).2 (bst σ (nI u) n).1 (bst σ (nI u) n).2.1 lf rt) (bst σ (nI u) n).2.1 row (fln σ (nI u) n).1) n row (nI u)).1 = (bst σ (nI u) n).2.2 ∧ zS (M_lay (spl (lst (fln σ (nI u) n).2 (bst σ (nI u) n).1 (bst σ (nI u) n).2.1 lf rt) (bst σ (nI u) n).2.1 row (fln σ (nI u) n).1) n row (nI u)).2
    have hρ : ∀ p, p ≠ 29 → p ≠ 32 → p ≠ 33 → lst (fln σ (nI u) n).2 (bst σ (nI u) n).1 (bst σ (nI u) n).2.1 lf rt p = σ p := fun p q1 q2 q3 => by rw [lst_p q1 q2 q3, fln_p σ (nI u) q2]
    have hρw : ∀ k, k < 7 → lst (fln σ (nI u) n).2 (bst σ (nI u) n).1 (bst σ (nI u) n).2.1 lf rt 29 k = σ 29 k := fun k hk => by rw [lst_w hk, fln_p σ (nI u) (by decide)]
    have hGL : GL (σ 6) n (pcr u n) P ((fln σ (nI u) n).2 32) := ⟨fun k hk => fln_in σ (nI u) n k (by omega), by rw [a1] at g4; exact g4⟩
    have main : ∀ τ : wg_S, (∀ p, 47 ≤ p → τ p = σ p) → (bst σ (nI u) n).2.2 = (mlt τ n u).2.2 ∧ ∀ k, k < pcr u n → (mlt τ n u).2.1 k = (bst σ (nI u) n).2.1 k ∧ ∃ c, c < n ∧ (bst σ (nI u) n).2.1 k = nI c := fun τ hτ => by
      rw [bst, mlt, a1, hτ 74 (by decide)]
      refine pb_fst (sz := σ 6) (n := n) (N := pcr u n) (T := P) hN1 (fun a a' hg hag => ⟨?_, ?_⟩) 23 _ _ _ _ hGL a2
      · exact clv_m cn (fun c hc => by unfold msz; rw [hτ 50 (by decide)]; exact R_sz c7 hc) (by rw [hτ 47 (by decide)]; exact b1.symm) hg.1 hag
      · exact clv_n h3n hsz hw29 wd1 hPW hg
    generalize hρe : lst (fln σ (nI u) n).2 (bst σ (nI u) n).1 (bst σ (nI u) n).2.1 lf rt = ρ at hρ hρw ⊢
    generalize bst σ (nI u) n = X at main ⊢
    rw [a1]
    have hτ : ∀ p, 47 ≤ p → spl ρ X.2.1 row (pcr u n) p = σ p := fun p hp => by rw [spl_p (by omega) (by omega), hρ p (by omega) (by omega) (by omega)]
    have hτl : ∀ p, p ≠ 30 → p ≠ 31 → p ≠ 29 → p ≠ 32 → p ≠ 33 → spl ρ X.2.1 row (pcr u n) p = σ p := fun p q1 q2 q3 q4 q5 => by rw [spl_p q1 q2, hρ p q3 q4 q5]
    have hτw : ∀ k, k < 7 → spl ρ X.2.1 row (pcr u n) 29 k = σ 29 k := fun k hk => by rw [spl_p (by decide) (by decide), hρw k hk]
    have pl := pl_eq (ρ := ρ) (τ := mst (spl ρ X.2.1 row (pcr u n)) (mlt (spl ρ X.2.1 row (pcr u n)) n u).1 (mlt (spl ρ X.2.1 row (pcr u n)) n u).2.1) (t := X.2.1) (t' := (mlt (spl ρ X.2.1 row (pcr u n)) n u).2.1) (row := row) (n := n) (N := pcr u n) cn (main _ hτ).2 (fun k hk => by
        have hms : ∀ c, c < n → msz (mst (spl ρ X.2.1 row (pcr u n)) (mlt (spl ρ X.2.1 row (pcr u n)) n u).1 (mlt (spl ρ X.2.1 row (pcr u n)) n u).2.1) c = ρ 6 c := fun c hc => by
          unfold msz
          rw [mst, ua_p (by decide), ua_p (by decide), hτ 50 (by decide), hρ 6 (by decide) (by decide) (by decide)]
          exact R_sz c7 hc
        exact clp_m cn hms (fun k hk => ((main _ hτ).2 k hk).2) (fun k hk => ((main _ hτ).2 k hk).1) (Nat.le_of_lt hk))
      (fun c hc => by rw [mst, ua_p (by decide), ua_p (by decide), hτ 55 (by decide), hρ 30 (by decide) (by decide) (by decide)]; exact b2 c hc)
      (fun c hc => by rw [mst, ua_p (by decide), ua_p (by decide), hτ 56 (by decide), hρ 31 (by decide) (by decide) (by decide)]; exact b3 c hc) (pcr u n) (Nat.le_refl _)
    have eM : M_lay (spl ρ X.2.1 row (pcr u n)) n row (nI u) = ((mlt (spl ρ X.2.1 row (pcr u n)) n u).2.2, mps (mst (spl ρ X.2.1 row (pcr u n)) (mlt (spl ρ X.2.1 row (pcr u n)) n u).1 (mlt (spl ρ X.2.1 row (pcr u n)) n u).2.1) (mlt (spl ρ X.2.1 row (pcr u n)) n u).2.1 row (pcr u n)) := by
      rw [hMc _ hτ, (hml _ hτ).1, (hml _ hτ).2, Bool.of_not_eq_false h4, Bool.of_not_eq_false h5, if_neg (by decide), hτ 47 (by decide), ← b1, if_neg h6]
    have hm1 := (main _ hτ).1
    rw [eM]
    refine ⟨hτ, hm1.symm, ?_⟩
    show zS (mps (mst (spl ρ X.2.1 row (pcr u n)) (mlt (spl ρ X.2.1 row (pcr u n)) n u).1 (mlt (spl ρ X.2.1 row (pcr u n)) n u).2.1) (mlt (spl ρ X.2.1 row (pcr u n)) n u).2.1 row (pcr u n))
    generalize (mlt (spl ρ X.2.1 row (pcr u n)) n u).2.1 = T' at pl ⊢
    generalize (mlt (spl ρ X.2.1 row (pcr u n)) n u).1 = A' at pl ⊢
    have hq : ∀ p, p ≠ 29 → p ≠ 30 → p ≠ 31 → p ≠ 32 → p ≠ 33 → p ≠ 55 → p ≠ 56 → p ≠ 74 → p ≠ 75 → mps (mst (spl ρ X.2.1 row (pcr u n)) A' T') T' row (pcr u n) p = σ p := fun p q1 q2 q3 q4 q5 q6 q7 q8 q9 => by
      rw [mps_p q6 q7, mst, ua_p q9, ua_p q8, hτl p q2 q3 q1 q4 q5]
    have hq2 : ∀ p, p ≠ 55 → p ≠ 56 → p ≠ 74 → p ≠ 75 → mps (mst (spl ρ X.2.1 row (pcr u n)) A' T') T' row (pcr u n) p = spl ρ X.2.1 row (pcr u n) p := fun p q6 q7 q8 q9 => by
      rw [mps_p q6 q7, mst, ua_p q9, ua_p q8]
    generalize mps (mst (spl ρ X.2.1 row (pcr u n)) A' T') T' row (pcr u n) = υ at hq hq2 pl ⊢
    refine ⟨n, m, j, r, l, kl, ms, ?_, ?_, ?_, ?_, ?_, ⟨?_, ?_, ?_, ?_⟩, ?_, ?_, ?_, ?_, ?_⟩
    · unfold zC; simp (discharger := decide) only [hq]; exact hC
    · unfold zM; simp (discharger := decide) only [hq]; exact hM
    · unfold zJ; simp (discharger := decide) only [hq]; exact hJ
    · unfold zT; simp (discharger := decide) only [hq]; exact hT
    · unfold zU; simp (discharger := decide) only [hq]; exact hU
    · rw [hq2 29 (by decide) (by decide) (by decide) (by decide), hτw 0 (by decide), hτw 1 (by decide), hq 47 (by decide) (by decide) (by decide) (by decide) (by decide) (by decide) (by decide) (by decide) (by decide)]
      exact ⟨b0, b1, wd0, wd1, wd2⟩
    · intro c hc
      rw [hq2 30 (by decide) (by decide) (by decide) (by decide)]
      exact (pl.1 c hc).1
    · intro c hc
      rw [hq2 31 (by decide) (by decide) (by decide) (by decide)]
      exact (pl.1 c hc).2
    · intro c q1 q2
      rw [hq2 30 (by decide) (by decide) (by decide) (by decide), hq2 31 (by decide) (by decide) (by decide) (by decide), (pl.2 c q1).1, (pl.2 c q1).2, hρ 30 (by decide) (by decide) (by decide), hρ 31 (by decide) (by decide) (by decide)]
      exact b4 c q1 q2
    · unfold zO; simp (discharger := decide) only [hq]; exact hO
    · unfold zH; simp (discharger := decide) only [hq]; exact hH
    · unfold zD; simp (discharger := decide) only [hq]; exact hD
    · unfold zQ; simp (discharger := decide) only [hq]; exact hQ
    · unfold KC; simp (discharger := decide) only [hq]; exact hKC
  refine ⟨(K_lay σ n row set).1, _, cX10_lay_ok κ b σ n m j r hci row set hpre, fun q g hq => ?_⟩
  obtain ⟨lf, rt, rfl, rfl⟩ := hq
  obtain ⟨k1, k2, k3⟩ := key lf rt
  refine ⟨rfl, b, _, _, rfl, cX11_lay_ok κ b _ n m j r (MI_fr hmi k1) row set (fun u => pcr_pos) (lay_trm cn _), fun q g hq => ?_⟩
  obtain ⟨rfl, rfl⟩ := hq
  exact ⟨by rw [k2], _, rfl, k3⟩
