/-! THE RELATION between the class's cells and the reference's, group by group, by rows -/
def gN (lim n : Nat) (x y : Int32) : Prop := x = nI n ∧ y = nI n ∧ n ≤ lim
def gE (n : Nat) (f g : Nat → Int32) : Prop := ∀ c, c < n → f c = g c
def gK (n : Nat) (k : Nat → Int32) : Prop := ∀ c, c < n → ∃ x, x ≤ 5 ∧ k c = nI x
def gF (n : Nat) (k fd ex : Nat → Int32) : Prop := ∀ c, c < n →
  (k c = nI 5 → ∃ x y, x < n ∧ y < n ∧ ex c / nI 16 = nI x ∧ ex c - ex c / nI 16 * nI 16 = nI y ∧ ¬ k x = nI 5 ∧ ¬ k y = nI 5 ∧ fd c = if fd x < fd y then fd y else fd x)
  ∧ (¬ k c = nI 5 → fd c = if k c = nI 4 then ex c else 0)
def gV (n : Nat) (k sg vo : Nat → Int32) : Prop := ∀ c, c < n → ∀ v, v < 4 → ∃ x, x ≤ 198 ∧ (¬ k c = nI 5 → x ≤ 99) ∧ vo (4 * c + v) = nI x ∧ sg (c * 4 + v) = nI x
def gS (n : Nat) (vo sz : Nat → Int32) : Prop := (∀ c, c < n → vo (4 * c) + vo (4 * c + 1) + vo (4 * c + 2) + vo (4 * c + 3) = sz c) ∧ ∀ c, n ≤ c → sz c = 0
def gO (n : Nat) (f : Nat → Int32) : Prop := ∀ c, c < n → f c = -1 ∨ ∃ v, v < 8 ∧ f c = nI v
def gD (x y : Int32) : Prop := x = y ∧ ∃ d, d ≤ 3 ∧ y = nI d
def gW (m : Nat) (f : Nat → Int32) : Prop := ∀ s, s < m → ∃ x, x < 16 ∧ f s = nI x
def gM (n : Nat) (p q : Nat → Int32) : Prop := ∀ i, i < 6 → ∀ c, c < 16 → ∃ x, x ≤ 101 ∧ q (16 * i + c) = nI x ∧ p (i * 16 + c) = nI x - nI 1 ∧ (n ≤ c → x = 0)
def gT (l : Nat) (p q : Nat → Int32) : Prop := ∀ k, k < l → p k = q k &&& nI 255
def gU (r : Nat) (p23 p24 p25 p26 p27 p28 q64 q65 q66 q67 q68 q69 : Nat → Int32) : Prop := ∀ k, k < r → p23 k = q64 k ∧ ((p24 k = -1 ∧ q65 k = nI 6) ∨ ∃ x, x ≤ 5 ∧ p24 k = nI x ∧ q65 k = nI x)
  ∧ ∃ t, t ≤ 2 ∧ p25 k = nI t ∧ q66 k = nI t ∧ ∀ i, i < t → p26 (k * 2 + i) = q67 (2 * k + i) ∧ ((p27 (k * 2 + i) = nI 61 ∧ q68 (2 * k + i) = nI 0) ∨ (p27 (k * 2 + i) = nI 60 ∧ q68 (2 * k + i) = nI 1) ∨ (p27 (k * 2 + i) = nI 62 ∧ q68 (2 * k + i) = nI 2)) ∧ p28 (k * 2 + i) = q69 (2 * k + i)
def gG (x y z w : Int32) : Prop := x = y ∧ z = w ∧ ∃ k, k ≤ 60 ∧ w = nI k
def gB (n : Nat) (p30 p31 q55 q56 : Nat → Int32) : Prop := gE n p30 q55 ∧ gE n p31 q56 ∧ ∀ c, n ≤ c → c < 16 → p30 c = -1 ∧ p31 c = -1
def gH (p41 p42 q81 q82 : Nat → Int32) : Prop := ∀ k, k < 96 → p41 k = q81 k - nI 1 ∧ p42 k = q82 k ∧ ∃ x, x ≤ 9 ∧ q81 k = nI x
def gR (p13 q81 q82 : Nat → Int32) : Prop := ∀ s, s < 9 → p13 s = orf (fun k => if q81 k = nI (s + 1) then q82 k else nI 0) 96
def gL (n : Nat) (p45 q53 : Nat → Int32) : Prop := gE n p45 q53 ∧ ∀ c, n ≤ c → c < 16 → p45 c = -1
def gQ (n : Nat) (ms : List Nat) (x y : Int32) (q84 : Nat → Int32) : Prop := ms.Nodup ∧ (∀ c, c ∈ ms → c < n) ∧ y = nI ms.length ∧ (∀ k, k < ms.length → q84 k = nI (ms.getD k 0)) ∧ ∃ u, u < 65536 ∧ x = nI u ∧ ∀ i, u.testBit i = decide (i ∈ ms)
def zC (σ : wg_S) (n : Nat) : Prop := gN 16 n (σ 1 0) (σ 47 0) ∧ gE n (σ 2) (σ 48) ∧ gK n (σ 48) ∧ gE n (σ 3) (σ 49) ∧ gF n (σ 48) (σ 4) (σ 51) ∧ gV n (σ 48) (σ 5) (σ 50) ∧ gS n (σ 50) (σ 6) ∧ gE n (σ 7) (σ 52) ∧ gE n (σ 8) (σ 54) ∧ gO n (σ 54) ∧ gD (σ 0 10) (σ 47 10)
def zM (σ : wg_S) (m : Nat) : Prop := gN 9 m (σ 9 0) (σ 47 11) ∧ gE m (σ 10) (σ 57) ∧ gE m (σ 11) (σ 58) ∧ gW m (σ 58) ∧ gE m (σ 12) (σ 59)
def zJ (σ : wg_S) (n j : Nat) : Prop := gN 6 j (σ 14 0) (σ 47 16) ∧ gE j (σ 15) (σ 61) ∧ gM n (σ 16) (σ 62)
def zT (σ : wg_S) (l : Nat) : Prop := gN 120 l (σ 17 0) (σ 47 20) ∧ gT l (σ 18) (σ 63)
def zU (σ : wg_S) (r : Nat) : Prop := gN 12 r (σ 22 0) (σ 47 21) ∧ gU r (σ 23) (σ 24) (σ 25) (σ 26) (σ 27) (σ 28) (σ 64) (σ 65) (σ 66) (σ 67) (σ 68) (σ 69)
def zB (σ : wg_S) (n : Nat) : Prop := gG (σ 29 0) (σ 47 34) (σ 29 1) (σ 47 35) ∧ gB n (σ 30) (σ 31) (σ 55) (σ 56)
def zO (σ : wg_S) (kl : Nat) : Prop := gN 9 kl (σ 34 0) (σ 47 43) ∧ gE kl (σ 35) (σ 80)
def zH (σ : wg_S) : Prop := gH (σ 41) (σ 42) (σ 81) (σ 82) ∧ gR (σ 13) (σ 81) (σ 82)
def zD (σ : wg_S) (n : Nat) : Prop := gE 8 (σ 44) (σ 83) ∧ gL n (σ 45) (σ 53)
def zQ (σ : wg_S) (n : Nat) (ms : List Nat) : Prop := σ 46 0 = σ 47 49 ∧ gQ n ms (σ 46 1) (σ 47 48) (σ 84)
def zL (σ : wg_S) (n m j r l kl : Nat) (ms : List Nat) : Prop := zC σ n ∧ zM σ m ∧ zJ σ n j ∧ zT σ l ∧ zU σ r ∧ zB σ n ∧ zO σ kl ∧ zH σ ∧ zD σ n ∧ zQ σ n ms ∧ KC σ
def zS (σ : wg_S) : Prop := ∃ n m j r l kl ms, zL σ n m j r l kl ms
/-- one call on both: one answer, and the relation holds behind it -/
def Both (κ : gm_K) (μ₁ μ₂ : gm_M) (av : List Value) : Prop := ∀ (b : Bool) (σ : wg_S), zS σ → ∃ (x : Int32) (Φ₁ : Option Value → gm_H → Prop), Ct κ μ₁ (.ref 0 :: av) (wd (gg b) σ) Φ₁ ∧ ∀ q h, Φ₁ q h → q = some (.int x) ∧
  ∃ (b' : Bool) (τ : wg_S) (Φ₂ : Option Value → gm_H → Prop), h = wd (gg b') τ ∧ Ct κ μ₂ (.ref 47 :: av) (wd (gg b') τ) Φ₂ ∧ ∀ q₂ h₂, Φ₂ q₂ h₂ → q₂ = some (.int x) ∧ ∃ υ, h₂ = wd (gg b') υ ∧ zS υ
theorem both_fn {κ : gm_K} {μ₁ μ₂ : gm_M} {av : List Value} (h : ∀ (b : Bool) (σ : wg_S) (n m j r l kl : Nat) (ms : List Nat), zL σ n m j r l kl ms → ∃ (x : Int32) (τ υ : wg_S), Fn κ μ₁ (.ref 0 :: av) (gg b) σ (some (.int x)) (gg b) τ ∧ Fn κ μ₂ (.ref 47 :: av) (gg b) τ (some (.int x)) (gg b) υ ∧ zS υ) : Both κ μ₁ μ₂ av := by
  intro b σ hR
  obtain ⟨n, m, j, r, l, kl, ms, hR⟩ := hR
  obtain ⟨x, τ, υ, h1, h2, h3⟩ := h b σ n m j r l kl ms hR
  refine ⟨x, _, h1, fun q g hq => ?_⟩
  obtain ⟨rfl, rfl⟩ := hq
  refine ⟨rfl, b, τ, _, rfl, h2, fun q g hq => ?_⟩
  obtain ⟨rfl, rfl⟩ := hq
  exact ⟨rfl, υ, rfl, h3⟩
theorem zL.ci {σ : wg_S} {n m j r l kl : Nat} {ms : List Nat} (h : zL σ n m j r l kl ms) : CI σ n m j r := by
  obtain ⟨hC, hM, hJ, hT, hU, hB, hO, hH, hD, hQ, hK⟩ := h
  refine ⟨⟨hC.1.1, hC.1.2.2⟩, ⟨hM.1.1, hM.1.2.2⟩, ⟨hJ.1.1, hJ.1.2.2⟩, ⟨hU.1.1, hU.1.2.2⟩, fun k hk => ?_⟩
  obtain ⟨-, -, t, ht, h1, h2, -⟩ := hU.2 k hk
  have e : tn σ k = t := by rw [tn, h1, nI_clamp (by omega)]
  rw [e]
  exact ⟨h1, ht⟩
theorem zL.mi {σ : wg_S} {n m j r l kl : Nat} {ms : List Nat} (h : zL σ n m j r l kl ms) : MI σ n m j r := by
  obtain ⟨hC, hM, hJ, hT, hU, hB, hO, hH, hD, hQ, hK⟩ := h
  refine ⟨⟨hC.1.2.1, hC.1.2.2⟩, ⟨hM.1.2.1, hM.1.2.2⟩, ⟨hJ.1.2.1, hJ.1.2.2⟩, ⟨hU.1.2.1, hU.1.2.2⟩, fun k hk => ?_, fun c hc h5 => ?_⟩
  · obtain ⟨-, -, t, ht, h1, h2, -⟩ := hU.2 k hk
    have e : mtn σ k = t := by rw [mtn, h2, nI_clamp (by omega)]
    rw [e]
    exact ⟨h2, ht⟩
  · obtain ⟨x, y, hx, hy, h1, h2, -⟩ := (hC.2.2.2.2.1 c hc).1 h5
    have hn := hC.1.2.2
    rw [mxa, mxb, h2, h1]
    exact ⟨hs_nI (by omega) (by omega), hs_nI (by omega) (by omega)⟩
theorem zL.ml {σ : wg_S} {n m j r l kl : Nat} {ms : List Nat} (h : zL σ n m j r l kl ms) (hq : ms.length ≤ 16) : ML σ ms.length := by
  obtain ⟨hC, hM, hJ, hT, hU, hB, hO, hH, hD, hQ, hK⟩ := h
  obtain ⟨-, hnd, hlt, hlen, hrow, -⟩ := hQ
  refine ⟨hlen, hq, fun k hk => ?_⟩
  have hn := hC.1.2.2
  have h1 : ms.getD k 0 < n := hlt _ (by rw [List.getD_eq_getElem?_getD, List.getElem?_eq_getElem hk]; exact List.getElem_mem hk)
  have e : mcl σ k = ms.getD k 0 := by rw [mcl, hrow k hk, nI_clamp (by omega)]
  rw [e]
  exact ⟨hrow k hk, by omega⟩
theorem nd_inj {ms : List Nat} (h : ms.Nodup) : ∀ i j, i < j → j < ms.length → ms.getD i 0 ≠ ms.getD j 0 := by
  intro i j hij hj
  have h1 := List.pairwise_iff_getElem.mp h i j (by omega) hj hij
  rw [List.getD_eq_getElem?_getD, List.getD_eq_getElem?_getD, List.getElem?_eq_getElem hj, List.getElem?_eq_getElem (show i < ms.length by omega)]
  exact h1
theorem nd_len {ms : List Nat} {n : Nat} (h1 : ms.Nodup) (h2 : ∀ c, c ∈ ms → c < n) : ms.length ≤ n :=
  fb_holes n ms.length (fun i => ms.getD i 0) (fun i hi => h2 _ (by rw [List.getD_eq_getElem?_getD, List.getElem?_eq_getElem hi]; exact List.getElem_mem hi)) (nd_inj h1)
/-! what both sides say of a choir, a song, a rule -/
theorem R_sz {σ : wg_S} {n c : Nat} (h : gS n (σ 50) (σ 6)) (hc : c < n) : msz σ c = σ 6 c := h.1 c hc
theorem R_mhc {σ : wg_S} {n c : Nat} (hF : gF n (σ 48) (σ 4) (σ 51)) (hD : gD (σ 0 10) (σ 47 10)) (hc : c < n) (h5 : ¬ σ 48 c = nI 5) : mhc σ c = there σ c := by
  have h1 := (hF c hc).2 h5
  obtain ⟨hd, d, hd3, hd2⟩ := hD
  rw [mhc, there, h1, hd]
  by_cases h4 : σ 48 c = nI 4
  · rw [if_pos h4, decide_eq_true h4]; rfl
  · rw [if_neg h4, decide_eq_false h4, hd2, decide_eq_false (nI_pos (show d < 2 ^ 31 by omega))]; rfl
theorem mx_nlt (t p q : Int32) : (!decide (t < if p < q then q else p)) = ((!decide (t < p)) && !decide (t < q)) := by
  rw [← Bool.not_or, Bool.not_inj_iff]
  rw [← Bool.decide_or, decide_eq_decide]
  by_cases h : p < q
  · rw [if_pos h]
    simp only [fa_lt] at *
    omega
  · rw [if_neg h]
    simp only [fa_lt] at *
    omega
theorem R_th {σ : wg_S} {n c : Nat} (hn : n ≤ 16) (hF : gF n (σ 48) (σ 4) (σ 51)) (hD : gD (σ 0 10) (σ 47 10)) (hc : c < n) : mth σ c = there σ c := by
  rw [mth]
  by_cases h5 : σ 48 c = nI 5
  · rw [if_pos h5]
    obtain ⟨x, y, hx, hy, h1, h2, k1, k2, h3⟩ := (hF c hc).1 h5
    rw [mxa, mxb, h2, h1, nI_clamp (by omega), nI_clamp (by omega), R_mhc hF hD hx k1, R_mhc hF hD hy k2]
    rw [there, there, there, h3, mx_nlt]
  · rw [if_neg h5, R_mhc hF hD hc h5]
theorem mk_one {x : Nat} (hx : x ≤ 101) : (nI x - nI 1 = -1 ↔ nI x ≤ 0) := by
  by_cases h : x = 0
  · subst h; decide
  · have e : nI x - nI 1 = nI (x - 1) := pk_sub (by omega)
    rw [e]
    exact ⟨fun q => absurd q (nI_m1 (by omega)), fun q => absurd q (nI_nle (by omega) (by omega))⟩
theorem R_mns {σ : wg_S} {n j c : Nat} (hM : gM n (σ 16) (σ 62)) (hj : j ≤ 6) (hc : c < 16) : mns (fun i => σ 16 (i * 16 + c)) j = mms (fun i => σ 62 (16 * i + c)) j ∧ mng (fun i => σ 16 (i * 16 + c)) j = mmg (fun i => σ 62 (16 * i + c)) j := by
  refine ⟨sm_congr (fun i hi => ?_), sm_congr (fun i hi => ?_)⟩
  · obtain ⟨x, hx, h1, h2, -⟩ := hM i (by omega) c hc
    show (if σ 16 (i * 16 + c) = -1 then 0 else σ 16 (i * 16 + c)) = if σ 62 (16 * i + c) ≤ 0 then 0 else σ 62 (16 * i + c) - nI 1
    rw [h1, h2]
    by_cases h : nI x ≤ 0
    · rw [if_pos h, if_pos ((mk_one hx).mpr h)]
    · rw [if_neg h, if_neg (fun q => h ((mk_one hx).mp q))]
  · obtain ⟨x, hx, h1, h2, -⟩ := hM i (by omega) c hc
    show (if σ 16 (i * 16 + c) = -1 then 0 else nI 1) = if σ 62 (16 * i + c) ≤ 0 then 0 else nI 1
    rw [h1, h2]
    by_cases h : nI x ≤ 0
    · rw [if_pos h, if_pos ((mk_one hx).mpr h)]
    · rw [if_neg h, if_neg (fun q => h ((mk_one hx).mp q))]
theorem R_mean {σ : wg_S} {n j c : Nat} (hM : gM n (σ 16) (σ 62)) (hj : j ≤ 6) (hc : c < 16) : mnc σ j c = mmc σ j c := by
  obtain ⟨h1, h2⟩ := R_mns hM hj hc
  rw [mnc, mmc, mnv, mmv, h1, h2]
theorem sm_nat {f : Nat → Int32} {c : Nat} : ∀ {n : Nat}, (∀ i, i < n → ∃ x, x ≤ c ∧ f i = nI x) → ∃ s, s ≤ n * c ∧ sm f n = nI s
  | 0, _ => ⟨0, by omega, rfl⟩
  | n + 1, h => by
    obtain ⟨s, hs, e⟩ := sm_nat (n := n) (fun i hi => h i (by omega))
    obtain ⟨x, hx, e2⟩ := h n (by omega)
    refine ⟨s + x, ?_, ?_⟩
    · rw [Nat.add_mul, Nat.one_mul]; omega
    · rw [sm, e, e2, nI_add]
theorem R_mean0 {σ : wg_S} {n j c : Nat} (hM : gM n (σ 16) (σ 62)) (hj : j ≤ 6) (hc : c < 16) : mmc σ j c = -1 ∨ ∃ y, y < 2 ^ 31 ∧ mmc σ j c = nI y := by
  rw [mmc, mmv]
  obtain ⟨s, hs, e1⟩ := sm_nat (f := fun i => if (fun i => σ 62 (16 * i + c)) i ≤ 0 then 0 else (fun i => σ 62 (16 * i + c)) i - nI 1) (c := 101) (n := j) (fun i hi => by
    obtain ⟨x, hx, h1, -⟩ := hM i (by omega) c hc
    show ∃ x, x ≤ 101 ∧ (if σ 62 (16 * i + c) ≤ 0 then 0 else σ 62 (16 * i + c) - nI 1) = nI x
    rw [h1]
    by_cases h : nI x ≤ 0
    · rw [if_pos h]; exact ⟨0, by omega, rfl⟩
    · rw [if_neg h]
      have hx0 : x ≠ 0 := fun q => by subst q; exact h (by decide)
      exact ⟨x - 1, by omega, pk_sub (by omega)⟩)
  obtain ⟨g, hg, e2⟩ := sm_nat (f := fun i => if (fun i => σ 62 (16 * i + c)) i ≤ 0 then 0 else nI 1) (c := 1) (n := j) (fun i hi => by
    dsimp only
    by_cases h : σ 62 (16 * i + c) ≤ 0
    · rw [if_pos h]; exact ⟨0, by omega, rfl⟩
    · rw [if_neg h]; exact ⟨1, by omega, rfl⟩)
  have e1 : mms (fun i => σ 62 (16 * i + c)) j = nI s := e1
  have e2 : mmg (fun i => σ 62 (16 * i + c)) j = nI g := e2
  have hs2 : s ≤ 6 * 101 := Nat.le_trans hs (Nat.mul_le_mul_right _ hj)
  rw [e1, e2]
  by_cases h : nI g = 0
  · rw [if_pos h]; exact Or.inl rfl
  · rw [if_neg h]
    have hg0 : g ≠ 0 := fun q => by subst q; exact h rfl
    refine Or.inr ⟨s / g, Nat.lt_of_le_of_lt (Nat.div_le_self _ _) (by omega), pk_div (by omega) (by omega) (by omega)⟩
theorem R_val {σ : wg_S} {n m j c s : Nat} {f : Int32} (hn : n ≤ 16) (hC : zC σ n) (hMm : zM σ m) (hJ : zJ σ n j) (hc : c < n) (hs : s < m) : vlo σ j f c s = mvl σ j f c s := by
  rw [vlo, mvl]
  by_cases h0 : f = nI 0
  · rw [if_pos h0, if_pos (show f = 0 from h0), R_mean hJ.2.2 hJ.1.2.2 (by omega)]
    rcases R_mean0 hJ.2.2 hJ.1.2.2 (show c < 16 by omega) with h | ⟨y, hy, h⟩
    · rw [h]; rfl
    · rw [h, if_neg (nI_m1 hy)]
      by_cases hy0 : y = 0
      · subst hy0; rfl
      · rw [if_pos ((nI_ltI (by omega) hy).mpr (by omega))]
  · rw [if_neg h0, if_neg (show ¬ f = 0 from h0), hMm.2.2.2.2 s hs, hC.2.2.2.1 c hc, R_sz hC.2.2.2.2.2.2.1 hc, hC.2.2.2.2.2.2.2.2.2.2.1]
theorem R_tst {σ : wg_S} {r k t : Nat} {v : Int32} (hU : zU σ r) (hk : k < r) (ht : t < tn σ k) : tsh σ k t v = mts σ (2 * k + t) v ∧ σ 26 (k * 2 + t) = σ 67 (2 * k + t) := by
  obtain ⟨-, -, t', ht', h1, h2, h3⟩ := hU.2 k hk
  have e : tn σ k = t' := by rw [tn, h1, nI_clamp (by omega)]
  rw [e] at ht
  obtain ⟨e1, e2, e3⟩ := h3 t ht
  refine ⟨?_, e1⟩
  rw [tsh, mts, e3]
  rcases e2 with ⟨p, q⟩ | ⟨p, q⟩ | ⟨p, q⟩ <;> rw [p, q] <;> simp +decide
theorem R_tn {σ : wg_S} {r k : Nat} (hU : zU σ r) (hk : k < r) : tn σ k = mtn σ k := by
  obtain ⟨-, -, t', ht', h1, h2, h3⟩ := hU.2 k hk
  rw [tn, mtn, h1, h2]
theorem R_rhl {σ : wg_S} {n m j r k c s : Nat} (hC : zC σ n) (hMm : zM σ m) (hJ : zJ σ n j) (hU : zU σ r) (hk : k < r) (hc : c < n) (hs : s < m) : rhl σ j k c s = mhl σ j k c s := by
  rw [rhl, mhl, mhk, ← R_tn hU hk]
  congr 1
  · rw [hC.2.1 c hc]
    obtain ⟨x, hx, e⟩ := hC.2.2.1 c hc
    rcases (hU.2 k hk).2.1 with ⟨p, q⟩ | ⟨y, hy, p, q⟩
    · rw [p, q]; rfl
    · rw [p, q, e]
      have h1 : ¬ nI y = -1 := nI_m1 (by omega)
      have h2 : ¬ nI y = nI 6 := fun z => by have := (nI_eq (by omega) (by omega)).mp z; omega
      rw [decide_eq_false h1, decide_eq_false h2]
  · refine alb_congr (fun t ht => ?_)
    rw [rht, mht, ← (R_tst (v := mvl σ j (σ 67 (2 * k + t)) c s) hU hk ht).1, (R_tst (v := 0) hU hk ht).2, R_val hC.1.2.2 hC hMm hJ hc hs]
theorem R_lrl {σ : wg_S} {n m j r c s : Nat} (hC : zC σ n) (hMm : zM σ m) (hJ : zJ σ n j) (hU : zU σ r) (hc : c < n) (hs : s < m) : ∀ k, k ≤ r → lrl σ j c s k = mrl σ j c s k
  | 0, _ => rfl
  | k + 1, h => by rw [lrl, mrl, R_rhl hC hMm hJ hU (show k < r by omega) hc hs, R_lrl hC hMm hJ hU hc hs k (by omega)]
theorem R_rule {σ : wg_S} {n m j r c s : Nat} (hC : zC σ n) (hMm : zM σ m) (hJ : zJ σ n j) (hU : zU σ r) (hc : c < n) (hs : s < m) : lrl σ j c s r = mrl σ j c s r := R_lrl hC hMm hJ hU hc hs r (Nat.le_refl _)
theorem lrl_r {σ : wg_S} {j c s : Nat} : ∀ {k x : Nat}, mrl σ j c s k = some x → x < k
  | 0, x, h => by simp [mrl] at h
  | k + 1, x, h => by
    rw [mrl] at h
    by_cases hh : mhl σ j k c s = true
    · rw [if_pos hh] at h; cases h; omega
    · rw [if_neg hh] at h
      have := lrl_r h
      omega
theorem R_vo {σ : wg_S} {n m c s : Nat} (hC : zC σ n) (hMm : zM σ m) (hc : c < n) (hs : s < m) : (¬ σ 11 s &&& (om (fun v => !decide (σ 5 (c * 4 + v) ≤ 0)) 4 ^^^ -1) = 0) ↔ alb (mvo σ c s) 4 = false := by
  rw [bt_sub, hMm.2.2.1 s hs]
  obtain ⟨x, hx, e⟩ := hMm.2.2.2.1 s hs
  have hv : ∀ v, v < 4 → (σ 5 (c * 4 + v) ≤ 0 ↔ σ 50 (4 * c + v) = 0) := by
    intro v hv
    obtain ⟨y, hy, -, e1, e2⟩ := hC.2.2.2.2.2.1 c hc v hv
    rw [e1, e2]
    by_cases h0 : y = 0
    · subst h0; decide
    · exact ⟨fun q => absurd q (nI_nle (by omega) (by omega)), fun q => absurd q (nI_ne0 (by omega) (by omega))⟩
  rw [← Bool.not_eq_true]
  refine not_congr ?_
  rw [alb_iff]
  constructor
  · intro h v hv4
    rw [mvo, Bool.or_eq_true, Bool.not_eq_true', Bool.not_eq_true', decide_eq_false_iff_not, decide_eq_false_iff_not, bv_1 (by omega), ← hv v hv4]
    by_cases hb : bt (σ 58 s) v = true
    · have := h v (by omega) hb
      rw [bt_om _ 4 (by omega) v (by omega)] at this
      simp only [Bool.and_eq_true, Bool.not_eq_true', decide_eq_false_iff_not] at this
      exact Or.inr this.2
    · exact Or.inl hb
  · intro h v hv32 hb
    have hv4 : v < 4 := by
      rw [e, bt_nI hv32] at hb
      apply Nat.not_le.mp
      intro h4
      rw [Nat.testBit_lt_two_pow (Nat.lt_of_lt_of_le hx (Nat.pow_le_pow_right (n := 2) (by decide) h4))] at hb
      exact absurd hb (by decide)
    have := h v hv4
    rw [mvo, Bool.or_eq_true, Bool.not_eq_true', Bool.not_eq_true', decide_eq_false_iff_not, decide_eq_false_iff_not, bv_1 (by omega), ← hv v hv4] at this
    rw [bt_om _ 4 (by omega) v (by omega)]
    simp only [Bool.and_eq_true, Bool.not_eq_true', decide_eq_false_iff_not, decide_eq_true_eq]
    refine ⟨hv4, ?_⟩
    rcases this with h1 | h1
    · exact absurd hb h1
    · exact h1
theorem R_vd {σ : wg_S} {n m j r c s : Nat} (hC : zC σ n) (hMm : zM σ m) (hJ : zJ σ n j) (hU : zU σ r) (hc : c < n) (hs : s < m) : vdt σ j r c s = mvd σ j r c s := by
  rw [vdt, mvd, R_th hC.1.2.2 hC.2.2.2.2.1 hC.2.2.2.2.2.2.2.2.2.2 hc, hC.2.1 c hc, hMm.2.1 s hs, R_rule hC hMm hJ hU hc hs]
  by_cases h1 : there σ c = false
  · rw [if_pos h1, if_pos h1]
  · rw [if_neg h1, if_neg h1]
    by_cases h2 : (σ 57 s >>> (σ 48 c &&& 31)) &&& nI 1 = 0
    · rw [if_pos h2, if_pos h2]
    · rw [if_neg h2, if_neg h2]
      by_cases h3 : alb (mvo σ c s) 4 = false
      · rw [if_pos h3, if_pos ((R_vo hC hMm hc hs).mpr h3)]
      · rw [if_neg h3, if_neg (fun q => h3 ((R_vo hC hMm hc hs).mp q))]
        cases hr : mrl σ j c s r with
        | none => rfl
        | some k =>
          dsimp only
          rw [(hU.2 k (lrl_r hr)).1]
