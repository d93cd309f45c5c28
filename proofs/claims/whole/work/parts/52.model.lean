theorem fnd_le (f : Nat → Bool) (n : Nat) : (fnd f n).getD n ≤ n := by
  cases h : fnd f n with
  | none => exact Nat.le_refl _
  | some x => have := (fnd_lt h).1; simp; omega
theorem mtest_b (f : Nat → Int32) (a : Nat) : (mtest f a).2.1 ≤ a + 8 := by
  have h1 := pwl_b f (wrd (mfd (f a) 5)) a
  have h2 := wrd_len (mfd (f a) 5) (mfd_lt _ 5 (by decide))
  rw [mtest]
  cases hp : pwl f (wrd (mfd (f a) 5)) a with
  | mk o p =>
    rw [hp] at h1
    simp only at h1
    have h3 : nd f (p + 1) ≤ 3 := fnd_le _ 3
    cases o with
    | false => show p ≤ a + 8; omega
    | true =>
      show (if isg (f p) = true then (if wi (f (p + 1)) (nI 48) (nI 57) = true then _ else _) else _ : Bool × Nat × Nat × Int32 × Int32).2.1 ≤ a + 8
      split
      · split
        · show p + 1 + nd f (p + 1) ≤ a + 8; omega
        · show p + 1 ≤ a + 8; omega
      · show p ≤ a + 8; omega
abbrev TS : Type := Nat × Int32 × Int32
/-- the tests from a on, t of them read before: the fault's place, or the tests -/
def mlp (f : Nat → Int32) (l : Nat) : Nat → Nat → Nat → Nat ⊕ List TS
  | 0, a, _ => if l ≤ a then .inr [] else .inl a
  | g + 1, a, t => if l ≤ a then .inr [] else match pwl f (if t = 0 then [32, 105, 102, 32] else [32, 97, 110, 100, 32]) a with
    | (false, p) => .inl p
    | (true, p) => match mtest f p with
      | (false, e, _) => .inl e
      | (true, p', x) => match mlp f l g p' (t + 1) with
        | .inl e => .inl e
        | .inr ts => .inr (x :: ts)
theorem mlp_b (f : Nat → Int32) (l : Nat) : ∀ g a t e, mlp f l g a t = .inl e → e ≤ l + 13
  | 0, a, t, e, h => by
    rw [mlp] at h
    split at h
    · cases h
    · cases h; omega
  | g + 1, a, t, e, h => by
    rw [mlp] at h
    split at h
    · cases h
    · have h1 := pwl_b f (if t = 0 then [32, 105, 102, 32] else [32, 97, 110, 100, 32]) a
      have h2 : (if t = 0 then [32, 105, 102, 32] else [32, 97, 110, 100, 32] : List Nat).length ≤ 5 := by split <;> decide
      cases hp : pwl f (if t = 0 then [32, 105, 102, 32] else [32, 97, 110, 100, 32]) a with
      | mk o p =>
        rw [hp] at h h1
        simp only at h1
        cases o with
        | false => cases h; omega
        | true =>
          simp only at h
          have h3 := mtest_b f p
          cases hm : mtest f p with
          | mk o' y =>
            obtain ⟨p', x⟩ := y
            rw [hm] at h h3
            simp only at h3
            cases o' with
            | false => cases h; omega
            | true =>
              simp only at h
              cases hr : mlp f l g p' (t + 1) with
              | inl e' => rw [hr] at h; cases h; exact mlp_b f l g p' (t + 1) e hr
              | inr ts => rw [hr] at h; cases h
def TSR (τ : wg_S) (r t : Nat) (ts : List TS) : Prop := ∀ i q s v, ts[i]? = some (q, s, v) → τ 67 (2 * r + t + i) = nI q ∧ τ 68 (2 * r + t + i) = s ∧ τ 69 (2 * r + t + i) = v
/-- all but the reader's own fields and the rule's own places -/
def RR (τ σ : wg_S) (r : Nat) : Prop := (∀ p, p ≠ 47 → p < 64 ∨ 69 < p → τ p = σ p) ∧ (∀ k, k ≠ 28 → k ≠ 29 → τ 47 k = σ 47 k) ∧ (∀ p i, p = 64 ∨ p = 65 ∨ p = 66 → i ≠ r → τ p i = σ p i) ∧ ∀ p i, p = 67 ∨ p = 68 ∨ p = 69 → i ≠ 2 * r → i ≠ 2 * r + 1 → τ p i = σ p i
theorem RR.rf {σ : wg_S} {r : Nat} : RR σ σ r := ⟨fun _ _ _ => rfl, fun _ _ _ => rfl, fun _ _ _ _ => rfl, fun _ _ _ _ _ => rfl⟩
theorem RR.tr {τ σ υ : wg_S} {r : Nat} (h : RR τ σ r) (k : RR υ τ r) : RR υ σ r :=
  ⟨fun p h1 h2 => (k.1 p h1 h2).trans (h.1 p h1 h2), fun x h1 h2 => (k.2.1 x h1 h2).trans (h.2.1 x h1 h2), fun p i h1 h2 => (k.2.2.1 p i h1 h2).trans (h.2.2.1 p i h1 h2), fun p i h1 h2 h3 => (k.2.2.2 p i h1 h2 h3).trans (h.2.2.2 p i h1 h2 h3)⟩
theorem RR.f {τ σ : wg_S} {r : Nat} (h : RR τ σ r) {k : Nat} {v : Int32} (hk : k = 28 ∨ k = 29) : RR (us τ 47 k v) σ r :=
  h.tr ⟨fun p h1 _ => us_p h1, fun k' h1 h2 => us_k (by omega), fun p i h1 _ => congrFun (us_p (by omega)) i, fun p i h1 _ _ => congrFun (us_p (by omega)) i⟩
theorem RR.r {τ σ : wg_S} {r : Nat} (h : RR τ σ r) {q : Nat} {v : Int32} (hq : q = 64 ∨ q = 65 ∨ q = 66) : RR (us τ q r v) σ r :=
  h.tr ⟨fun p h1 h2 => us_p (by omega), fun k' h1 h2 => congrFun (us_p (by omega)) k', fun p i h1 h2 => by
    by_cases e : p = q
    · subst e; exact us_k h2
    · exact congrFun (us_p e) i, fun p i h1 _ _ => congrFun (us_p (by omega)) i⟩
theorem RR.x {σ : wg_S} {r : Nat} {τ : wg_S} (h : RR τ σ r) (o : Bool × Nat) : RR (xst τ o) σ r := by
  unfold xst
  split
  · exact h.f (Or.inl rfl)
  · exact (h.f (Or.inl rfl)).f (Or.inr rfl)
theorem RR.t {τ σ : wg_S} {r t : Nat} (h : RFr τ σ (2 * r + t)) (ht : t < 2) : RR τ σ r :=
  ⟨fun p h1 h2 => h.1 p h1 (by omega) (by omega) (by omega), h.2.1, fun p i h1 h2 => congrFun (h.1 p (by omega) (by omega) (by omega) (by omega)) i, fun p i h1 h2 h3 => h.2.2 p i (by omega) (by omega)⟩
/-- what the loop over the tests leaves -/
def LQ (l r g a t : Nat) (τ υ : wg_S) : Prop := RR υ τ r ∧ υ 64 r = τ 64 r ∧ υ 65 r = τ 65 r ∧ (∀ i p, i < t → p = 67 ∨ p = 68 ∨ p = 69 → υ p (2 * r + i) = τ p (2 * r + i)) ∧ match mlp (mr τ l) l g a t with
  | .inl e => υ 47 29 = nI e
  | .inr ts => υ 47 29 = -1 ∧ υ 66 r = nI (t + ts.length) ∧ TSR υ r t ts
theorem mr_63 {τ σ : wg_S} (h : τ 63 = σ 63) (l : Nat) : mr τ l = mr σ l := by
  funext a
  rw [mr, mr, h]
theorem KC_of {τ σ : wg_S} (h0 : τ 70 = σ 70) (h1 : τ 71 = σ 71) (h2 : τ 72 = σ 72) (h : KC σ) : KC τ := by
  unfold KC
  rw [h0, h1, h2]
  exact h
theorem KC_R {τ σ : wg_S} {r : Nat} (h : RR τ σ r) (hk : KC σ) : KC τ := KC_of (h.1 70 (by decide) (by decide)) (h.1 71 (by decide) (by decide)) (h.1 72 (by decide) (by decide)) hk
/-- a step of the loop, and the rest -/
theorem LQ_s {l r g a t p p' q : Nat} {s v : Int32} {τ τ1 τ2 υ : wg_S} (ht : t < 2) (hla : ¬ l ≤ a) (hp : pwl (mr τ l) (if t = 0 then [32, 105, 102, 32] else [32, 97, 110, 100, 32]) a = (true, p)) (hm : mtest (mr τ l) p = (true, p', q, s, v)) (h1 : RR τ1 τ r) (h164 : τ1 64 r = τ 64 r) (h165 : τ1 65 r = τ 65 r) (h1p : ∀ i p, i < t → p = 67 ∨ p = 68 ∨ p = 69 → τ1 p (2 * r + i) = τ p (2 * r + i))
    (h2 : τ2 = us τ1 66 r (nI (t + 1))) (h67 : τ1 67 (2 * r + t) = nI q) (h68 : τ1 68 (2 * r + t) = s) (h69 : τ1 69 (2 * r + t) = v) (H : LQ l r g p' (t + 1) τ2 υ) : LQ l r (g + 1) a t τ υ := by
  subst h2
  obtain ⟨a1, a2, a3, a4, a5⟩ := H
  have hR : RR (us τ1 66 r (nI (t + 1))) τ r := h1.r (Or.inr (Or.inr rfl))
  rw [mr_63 (show us τ1 66 r (nI (t + 1)) 63 = τ 63 from hR.1 63 (by decide) (by decide))] at a5
  have old : ∀ i p, i < t + 1 → p = 67 ∨ p = 68 ∨ p = 69 → υ p (2 * r + i) = τ1 p (2 * r + i) := fun i p hi hp => (a4 i p hi hp).trans (congrFun (us_p (by omega)) _)
  refine ⟨hR.tr a1, (a2.trans (congrFun (us_p (by decide)) r)).trans h164, (a3.trans (congrFun (us_p (by decide)) r)).trans h165, fun i p hi hp => (old i p (by omega) hp).trans (h1p i p hi hp), ?_⟩
  rw [mlp, if_neg hla, hp]
  simp only
  rw [hm]
  simp only
  cases hr : mlp (mr τ l) l g p' (t + 1) with
  | inl e => rw [hr] at a5; exact a5
  | inr ts =>
    rw [hr] at a5
    obtain ⟨b1, b2, b3⟩ := a5
    refine ⟨b1, b2.trans (by simp only [List.length_cons]; rw [show t + 1 + ts.length = t + (ts.length + 1) by omega]), fun i q' s' v' hi => ?_⟩
    cases i with
    | zero =>
      simp only [List.getElem?_cons_zero, Option.some.injEq] at hi
      cases hi
      rw [Nat.add_zero]
      exact ⟨(old t 67 (by omega) (by omega)).trans h67, (old t 68 (by omega) (by omega)).trans h68, (old t 69 (by omega) (by omega)).trans h69⟩
    | succ i =>
      have := b3 i q' s' v' (by simpa using hi)
      rw [show 2 * r + t + (i + 1) = 2 * r + (t + 1) + i by omega]
      exact this
theorem okb_if : okb 543778336 [32, 105, 102, 32] := ⟨by decide +kernel, by decide +kernel, by decide +kernel, by decide +kernel, trivial⟩
theorem okb_and : okb 139073578016 [32, 97, 110, 100, 32] := ⟨by decide +kernel, by decide +kernel, by decide +kernel, by decide +kernel, by decide +kernel, trivial⟩
theorem okb_bar : okb 1650553376 [98, 97, 114, 32] := ⟨by decide +kernel, by decide +kernel, by decide +kernel, by decide +kernel, trivial⟩
theorem okb_let : okb 1818588192 [108, 101, 116, 32] := ⟨by decide +kernel, by decide +kernel, by decide +kernel, by decide +kernel, trivial⟩
theorem rd_lp (κ : gm_K) (b : Bool) (l r : Nat) (hl2 : l ≤ 120) (hr : r < 12) : ∀ (g t a : Nat) (τ : wg_S), t + g = 2 → a < 60000 → KC τ → τ 47 20 = nI l → τ 47 28 = nI a → τ 47 29 = -1 → τ 66 r = nI t → Go κ mX11_read 146 [some (.ref 47), some (.int (nI r)), none] [] (wd (gg b) τ) (0, 0) (fun z h' => ∃ υ, z = none ∧ h' = wd (gg b) υ ∧ LQ l r g a t τ υ) := by
  intro g
  induction g with
  | zero =>
    intro t a τ htg ha hK hl hA hF h66
    obtain rfl : t = 2 := by omega
    refine go_aload_n dX11_read_146 rfl ?_
    refine gs_gi dX11_read_147 flX11_211 (gg_47 b) rfl (hF) ?_
    refine go_if_ge 247 dX11_read_150 (by decide) (fun z => absurd z (by decide)) (fun _ => ?_)
    refine go_aload_n dX11_read_153 rfl ?_
    refine gs_gi dX11_read_154 flX11_208 (gg_47 b) rfl (hA) ?_
    refine go_aload_n dX11_read_157 rfl ?_
    refine gs_gi dX11_read_158 flX11_205 (gg_47 b) rfl (hl) ?_
    refine go_icmp_geN 247 dX11_read_161 (by decide) (by omega) (by omega) (fun c161 => ?_) (fun c161 => ?_)
    · refine go_vret dX11_read_247 rfl rfl ?_
      refine ⟨τ, rfl, rfl, RR.rf, rfl, rfl, fun _ _ _ _ => rfl, ?_⟩
      rw [mlp, if_pos c161]
      exact ⟨hF, h66, fun i q s v hi => by simp at hi⟩
    · refine go_aload_n dX11_read_164 rfl ?_
      refine gs_gr dX11_read_165 flX11_66 (gg_47 b) rfl ?_
      refine go_iload_n dX11_read_168 rfl ?_
      refine gs_iald (_) dX11_read_169 (gg_66 b) (rfl) (by omega) rfl (h66) ?_
      refine go_if_neN 184 dX11_read_170 (by decide) (by omega) (fun c170 => ?_) (fun c170 => ?_)
      · refine go_aload_n dX11_read_184 rfl ?_
        refine gs_gr dX11_read_185 flX11_66 (gg_47 b) rfl ?_
        refine go_iload_n dX11_read_188 rfl ?_
        refine gs_iald (_) dX11_read_189 (gg_66 b) (rfl) (by omega) rfl (h66) ?_
        refine go_iconst (v := nI 1) dX11_read_190 (by decide) ?_
        refine go_icmp_neN 205 dX11_read_191 (by decide) (by omega) (by omega) (fun c191 => ?_) (fun c191 => ?_)
        · refine go_aload_n dX11_read_205 rfl ?_
          refine go_aload_n dX11_read_206 rfl ?_
          refine gs_gi dX11_read_207 flX11_208 (gg_47 b) rfl (hA) ?_
          refine gs_pi dX11_read_210 flX11_211 (gg_47 b) rfl (fun q hq => by cases hq; exact ⟨rfl, rfl⟩) ?_
          have hF2 : us τ 47 29 (nI a) 47 29 = nI a := us_s
          refine go_aload_n dX11_read_213 rfl ?_
          refine gs_gi dX11_read_214 flX11_211 (gg_47 b) rfl (hF2) ?_
          refine go_if_geN 146 dX11_read_217 (by decide) (by omega) ?_
          refine go_aload_n dX11_read_146 rfl ?_
          refine gs_gi dX11_read_147 flX11_211 (gg_47 b) rfl (hF2) ?_
          refine go_if_geN 247 dX11_read_150 (by decide) (by omega) ?_
          refine go_vret dX11_read_247 rfl rfl ?_
          refine ⟨_, rfl, rfl, RR.rf.f (Or.inr rfl), congrFun (us_p (by decide)) r, congrFun (us_p (by decide)) r, fun i p _ hp => congrFun (us_p (by omega)) _, ?_⟩
          rw [mlp, if_neg (by omega)]
          exact us_s
        · exact absurd c191 (by omega)
      · exact absurd c170 (by omega)
  | succ g ih =>
    intro t a τ htg ha hK hl hA hF h66
    have rest : ∀ (cs : List Nat), cs = (if t = 0 then [32, 105, 102, 32] else [32, 97, 110, 100, 32]) → a < l → Go κ mX11_read 213 [some (.ref 47), some (.int (nI r)), none] [] (wd (gg b) (xst τ (pwl (mr τ l) cs a))) (0, 0) (fun z h' => ∃ υ, z = none ∧ h' = wd (gg b) υ ∧ LQ l r (g + 1) a t τ υ) := by
      intro cs hcs hal
      have hla : ¬ l ≤ a := by omega
      cases hp : pwl (mr τ l) cs a with
      | mk o p =>
        have hpb := pwl_b (mr τ l) cs a
        rw [hp] at hpb
        simp only at hpb
        have hcl : cs.length ≤ 5 := by rw [hcs]; split <;> decide
        have hp' := hp
        rw [hcs] at hp'
        cases o with
        | false =>
          have hM : mlp (mr τ l) l (g + 1) a t = .inl p := by rw [mlp, if_neg hla, hp']
          rw [show xst τ (false, p) = us (us τ 47 28 (nI p)) 47 29 (nI p) from rfl]
          have hF2 : us (us τ 47 28 (nI p)) 47 29 (nI p) 47 29 = nI p := us_s
          refine go_aload_n dX11_read_213 rfl ?_
          refine gs_gi dX11_read_214 flX11_211 (gg_47 b) rfl (hF2) ?_
          refine go_if_geN 146 dX11_read_217 (by decide) (by omega) ?_
          refine go_aload_n dX11_read_146 rfl ?_
          refine gs_gi dX11_read_147 flX11_211 (gg_47 b) rfl (hF2) ?_
          refine go_if_geN 247 dX11_read_150 (by decide) (by omega) ?_
          refine go_vret dX11_read_247 rfl rfl ?_
          refine ⟨_, rfl, rfl, (RR.rf.f (Or.inl rfl)).f (Or.inr rfl), by rw [us_p (by decide), us_p (by decide)], by rw [us_p (by decide), us_p (by decide)], fun i p _ hp => by rw [us_p (by omega), us_p (by omega)], ?_⟩
          rw [hM]
          exact us_s
        | true =>
          rw [show xst τ (true, p) = us τ 47 28 (nI p) from rfl]
          have hR1 : RR (us τ 47 28 (nI p)) τ r := RR.rf.f (Or.inl rfl)
          have hF1 : us τ 47 28 (nI p) 47 29 = -1 := (us_k (by decide)).trans hF
          have h66' : us τ 47 28 (nI p) 66 r = nI t := (congrFun (us_p (by decide)) r).trans h66
          have hrt := cX11_readTest_ok κ b (us τ 47 28 (nI p)) l p (2 * r + t) ((us_k (by decide)).trans hl) hl2 us_s hF1 (by omega) (by omega) (KC_R hR1 hK)
          refine go_aload_n dX11_read_213 rfl ?_
          refine gs_gi dX11_read_214 flX11_211 (gg_47 b) rfl (hF1) ?_
          refine go_if_ge 146 dX11_read_217 (by decide) (fun z => absurd z (by decide)) (fun _ => ?_)
          refine go_aload_n dX11_read_220 rfl ?_
          refine go_iconst (v := nI 2) dX11_read_221 (by decide) ?_
          refine go_iload_n dX11_read_222 rfl ?_
          refine go_imulN dX11_read_223 ?_
          refine go_aload_n dX11_read_224 rfl ?_
          refine gs_gr dX11_read_225 flX11_66 (gg_47 b) rfl ?_
          refine go_iload_n dX11_read_228 rfl ?_
          refine gs_iald (_) dX11_read_229 (gg_66 b) (rfl) (by omega) rfl (h66') ?_
          refine go_iaddN dX11_read_230 ?_
          refine gs_callVe dX11_read_231 cvX11_read_239 hrt rfl (gg_47 b) rfl rfl rfl ⟨rfl, rfl⟩ rfl (fun τ1 H => ?_)
          obtain ⟨hR, hq⟩ := H
          have hR2 : RR τ1 τ r := hR1.tr (RR.t hR (by omega))
          rw [mr_us] at hq
          have h164 : τ1 64 r = τ 64 r := (congrFun (hR.1 64 (by decide) (by decide) (by decide) (by decide)) r).trans (congrFun (us_p (by decide)) r)
          have h165 : τ1 65 r = τ 65 r := (congrFun (hR.1 65 (by decide) (by decide) (by decide) (by decide)) r).trans (congrFun (us_p (by decide)) r)
          have h166 : τ1 66 r = nI t := (congrFun (hR.1 66 (by decide) (by decide) (by decide) (by decide)) r).trans h66'
          have h1p : ∀ i p, i < t → p = 67 ∨ p = 68 ∨ p = 69 → τ1 p (2 * r + i) = τ p (2 * r + i) := fun i p hi hp => (hR.2.2 p _ (by omega) (by omega)).trans (congrFun (us_p (by omega)) _)
          have hmb := mtest_b (mr τ l) p
          cases hm : mtest (mr τ l) p with
          | mk o' y =>
            rw [hm] at hq hmb
            simp only at hmb
            cases o' with
            | false =>
              obtain ⟨e, y⟩ := y
              have hF3 : us τ1 66 r (nI (t + 1)) 47 29 = nI e := (congrFun (us_p (by decide)) 29).trans hq
              have hM : mlp (mr τ l) l (g + 1) a t = .inl e := by rw [mlp, if_neg hla, hp']; simp only; rw [hm]
              refine go_aload_n dX11_read_234 rfl ?_
              refine gs_gr dX11_read_235 flX11_66 (gg_47 b) rfl ?_
              refine go_iload_n dX11_read_238 rfl ?_
              refine go_dup2 dX11_read_239 rfl rfl ?_
              refine gs_iald (_) dX11_read_240 (gg_66 b) (rfl) (by omega) rfl (h166) ?_
              refine go_iconst (v := nI 1) dX11_read_241 (by decide) ?_
              refine go_iaddN dX11_read_242 ?_
              refine gs_iast (_) dX11_read_243 (gg_66 b) (rfl) (by omega) rfl ?_
              refine go_goto 146 dX11_read_244 (by decide) ?_
              refine go_aload_n dX11_read_146 rfl ?_
              refine gs_gi dX11_read_147 flX11_211 (gg_47 b) rfl (hF3) ?_
              refine go_if_geN 247 dX11_read_150 (by decide) (by omega) ?_
              refine go_vret dX11_read_247 rfl rfl ?_
              refine ⟨_, rfl, rfl, hR2.r (Or.inr (Or.inr rfl)), (congrFun (us_p (by decide)) r).trans h164, (congrFun (us_p (by decide)) r).trans h165, fun i p hi hp => (congrFun (us_p (by omega)) _).trans (h1p i p hi hp), ?_⟩
              rw [hM]
              exact hF3
            | true =>
              obtain ⟨p', q, s, v⟩ := y
              obtain ⟨q1, q2, q3, q4, q5⟩ := hq
              simp only at hmb
              refine go_aload_n dX11_read_234 rfl ?_
              refine gs_gr dX11_read_235 flX11_66 (gg_47 b) rfl ?_
              refine go_iload_n dX11_read_238 rfl ?_
              refine go_dup2 dX11_read_239 rfl rfl ?_
              refine gs_iald (_) dX11_read_240 (gg_66 b) (rfl) (by omega) rfl (h166) ?_
              refine go_iconst (v := nI 1) dX11_read_241 (by decide) ?_
              refine go_iaddN dX11_read_242 ?_
              refine gs_iast (_) dX11_read_243 (gg_66 b) (rfl) (by omega) rfl ?_
              refine go_goto 146 dX11_read_244 (by decide) ?_
              refine go_wk (by exact ⟨rfl, rfl, trivial⟩) (go_mono ?_ (ih (t + 1) p' (us τ1 66 r (nI (t + 1))) (by omega) (by omega) (KC_R (hR2.r (Or.inr (Or.inr rfl))) hK) ((congrFun (us_p (by decide)) 20).trans ((hR2.2.1 20 (by decide) (by decide)).trans hl)) ((congrFun (us_p (by decide)) 28).trans q1) ((congrFun (us_p (by decide)) 29).trans q2) us_s))
              rintro z h' ⟨υ, g1, g2, g3⟩
              exact ⟨υ, g1, g2, LQ_s (by omega) hla hp' hm hR2 h164 h165 h1p rfl q3 q4 q5 g3⟩
    have hx4 := cX11_expect_ok κ b τ l a 4 543778336 [32, 105, 102, 32] rfl (by decide) okb_if hl hl2 hA hF (by omega)
    have hx5 := cX11_expect_ok κ b τ l a 5 139073578016 [32, 97, 110, 100, 32] rfl (by decide) okb_and hl hl2 hA hF (by omega)
    refine go_aload_n dX11_read_146 rfl ?_
    refine gs_gi dX11_read_147 flX11_211 (gg_47 b) rfl (hF) ?_
    refine go_if_ge 247 dX11_read_150 (by decide) (fun z => absurd z (by decide)) (fun _ => ?_)
    refine go_aload_n dX11_read_153 rfl ?_
    refine gs_gi dX11_read_154 flX11_208 (gg_47 b) rfl (hA) ?_
    refine go_aload_n dX11_read_157 rfl ?_
    refine gs_gi dX11_read_158 flX11_205 (gg_47 b) rfl (hl) ?_
    refine go_icmp_geN 247 dX11_read_161 (by decide) (by omega) (by omega) (fun c161 => ?_) (fun c161 => ?_)
    · refine go_vret dX11_read_247 rfl rfl ?_
      refine ⟨τ, rfl, rfl, RR.rf, rfl, rfl, fun _ _ _ _ => rfl, ?_⟩
      rw [mlp, if_pos c161]
      exact ⟨hF, h66, fun i q s v hi => by simp at hi⟩
    · refine go_aload_n dX11_read_164 rfl ?_
      refine gs_gr dX11_read_165 flX11_66 (gg_47 b) rfl ?_
      refine go_iload_n dX11_read_168 rfl ?_
      refine gs_iald (_) dX11_read_169 (gg_66 b) (rfl) (by omega) rfl (h66) ?_
      refine go_if_neN 184 dX11_read_170 (by decide) (by omega) (fun c170 => ?_) (fun c170 => ?_)
      · refine go_aload_n dX11_read_184 rfl ?_
        refine gs_gr dX11_read_185 flX11_66 (gg_47 b) rfl ?_
        refine go_iload_n dX11_read_188 rfl ?_
        refine gs_iald (_) dX11_read_189 (gg_66 b) (rfl) (by omega) rfl (h66) ?_
        refine go_iconst (v := nI 1) dX11_read_190 (by decide) ?_
        refine go_icmp_neN 205 dX11_read_191 (by decide) (by omega) (by omega) (fun c191 => ?_) (fun c191 => ?_)
        · exact absurd c191 (by omega)
        · refine go_aload_n dX11_read_194 rfl ?_
          refine go_iconst (v := nI 5) dX11_read_195 (by decide) ?_
          refine go_ldc2 dX11_read_196 klX11_237 ?_
          refine gs_callVv dX11_read_199 cvX11_read_220 (hx5) rfl (gg_47 b) rfl rfl rfl ⟨rfl, rfl⟩ rfl ?_
          refine go_goto 213 dX11_read_202 (by decide) ?_
          exact rest _ (by rw [if_neg c170]) (by omega)
      · refine go_aload_n dX11_read_173 rfl ?_
        refine go_iconst (v := nI 4) dX11_read_174 (by decide) ?_
        refine go_ldc2 dX11_read_175 klX11_235 ?_
        refine gs_callVv dX11_read_178 cvX11_read_220 (hx4) rfl (gg_47 b) rfl rfl rfl ⟨rfl, rfl⟩ rfl ?_
        refine go_goto 213 dX11_read_181 (by decide) ?_
        exact rest _ (by rw [if_pos c170]) (by omega)
def mkd (c : Int32) : Int32 := if wi c (nI 48) (nI 53) = true then c - nI 48 else nI 6
def kok (c : Int32) : Bool := wi c (nI 48) (nI 53) || decide (c = nI 42)
/-- a rule is read: the fault's place, or bar, kind and tests -/
def mrd (f : Nat → Int32) (l : Nat) : Nat ⊕ (Bool × Int32 × List TS) :=
  match pwl f (if f 0 = nI 98 then [98, 97, 114, 32] else [108, 101, 116, 32]) 0 with
  | (false, p) => .inl p
  | (true, p) => if kok (f p) = true then (match mlp f l 2 (p + 1) 0 with
      | .inl e => .inl e
      | .inr ts => .inr (decide (f 0 = nI 98), mkd (f p), ts)) else .inl p
theorem mrd_b (f : Nat → Int32) (l e : Nat) (h : mrd f l = .inl e) : e ≤ l + 17 := by
  rw [mrd] at h
  have h1 := pwl_b f (if f 0 = nI 98 then [98, 97, 114, 32] else [108, 101, 116, 32]) 0
  have h2 : (if f 0 = nI 98 then [98, 97, 114, 32] else [108, 101, 116, 32] : List Nat).length = 4 := by split <;> rfl
  cases hp : pwl f (if f 0 = nI 98 then [98, 97, 114, 32] else [108, 101, 116, 32]) 0 with
  | mk o p =>
    rw [hp] at h h1
    simp only at h1
    cases o with
    | false => cases h; omega
    | true =>
      simp only at h
      split at h
      · cases hm : mlp f l 2 (p + 1) 0 with
        | inl e' => rw [hm] at h; cases h; have := mlp_b f l _ _ _ _ hm; omega
        | inr ts => rw [hm] at h; cases h
      · cases h; omega
def RDQ (σ : wg_S) (l r : Nat) (υ : wg_S) : Prop := RR υ σ r ∧ match mrd (mr σ l) l with
  | .inl e => υ 47 29 = nI e
  | .inr (x, k, ts) => υ 47 29 = -1 ∧ υ 64 r = bi x ∧ υ 65 r = k ∧ υ 66 r = nI ts.length ∧ TSR υ r 0 ts
theorem cX11_read_ok (κ : gm_K) (b : Bool) (σ : wg_S) (l r : Nat) (hl : σ 47 20 = nI l) (hl2 : l ≤ 120) (hr : r < 12) (hK : KC σ) : FeV κ mX11_read [.ref 47, .int (nI r)] (gg b) σ (RDQ σ l r) := by
  refine go_start (by decide) (Nat.le_of_ble_eq_true rfl) ?_
  -- behind the first word
  have rest : ∀ (x : Bool) (cs : List Nat) (τ : wg_S), x = decide (mr σ l 0 = nI 98) → cs = (if mr σ l 0 = nI 98 then [98, 97, 114, 32] else [108, 101, 116, 32]) → RR τ σ r → KC τ → τ 47 20 = nI l → τ 47 29 = -1 → τ 64 r = bi x → τ 66 r = nI 0 → Go κ mX11_read 60 [some (.ref 47), some (.int (nI r)), none] [] (wd (gg b) (xst τ (pwl (mr σ l) cs 0))) (0, 0) (fun z h' => ∃ υ, z = none ∧ h' = wd (gg b) υ ∧ RDQ σ l r υ) := by
    intro x cs τ hx hcs hR hK' h20 hF h64 h66
    have h63 : τ 63 = σ 63 := hR.1 63 (by decide) (by decide)
    have hpb := pwl_b (mr σ l) cs 0
    have hcl : cs.length = 4 := by rw [hcs]; split <;> rfl
    cases hp : pwl (mr σ l) cs 0 with
    | mk o p =>
      rw [hp] at hpb
      simp only at hpb
      have hp' := hp
      rw [hcs] at hp'
      cases o with
      | false =>
        have hM : mrd (mr σ l) l = .inl p := by rw [mrd, hp']
        rw [show xst τ (false, p) = us (us τ 47 28 (nI p)) 47 29 (nI p) from rfl]
        have hF2 : us (us τ 47 28 (nI p)) 47 29 (nI p) 47 29 = nI p := us_s
        refine go_aload_n dX11_read_60 rfl ?_
        refine gs_gi dX11_read_61 flX11_211 (gg_47 b) rfl (hF2) ?_
        refine go_if_geN 146 dX11_read_64 (by decide) (by omega) ?_
        refine go_aload_n dX11_read_146 rfl ?_
        refine gs_gi dX11_read_147 flX11_211 (gg_47 b) rfl (hF2) ?_
        refine go_if_geN 247 dX11_read_150 (by decide) (by omega) ?_
        refine go_vret dX11_read_247 rfl rfl ?_
        refine ⟨_, rfl, rfl, (hR.f (Or.inl rfl)).f (Or.inr rfl), ?_⟩
        rw [hM]
        exact us_s
      | true =>
        rw [show xst τ (true, p) = us τ 47 28 (nI p) from rfl]
        have hF1 : us τ 47 28 (nI p) 47 29 = -1 := (us_k (by decide)).trans hF
        have hR1 : RR (us τ 47 28 (nI p)) σ r := hR.f (Or.inl rfl)
        have hlet : Fn κ mX11_letter [.ref 47] (gg b) (us τ 47 28 (nI p)) (some (.int (mr σ l p))) (gg b) (us τ 47 28 (nI p)) := by
          have := cX11_letter_ok κ b (us τ 47 28 (nI p)) l p ((us_k (by decide)).trans h20) us_s hl2 (by omega)
          rwa [mr_us, mr_63 h63] at this
        have hM : mrd (mr σ l) l = if kok (mr σ l p) = true then (match mlp (mr σ l) l 2 (p + 1) 0 with | .inl e => .inl e | .inr ts => .inr (decide (mr σ l 0 = nI 98), mkd (mr σ l p), ts)) else .inl p := by rw [mrd, hp']
        have good : kok (mr σ l p) = true → ∀ k, k = mkd (mr σ l p) → Go κ mX11_read 146 [some (.ref 47), some (.int (nI r)), none] [] (wd (gg b) (us (us (us (us τ 47 28 (nI p)) 65 r k) 47 29 (-1)) 47 28 (nI (p + 1)))) (0, 0) (fun z h' => ∃ υ, z = none ∧ h' = wd (gg b) υ ∧ RDQ σ l r υ) := by
          intro hk k hkd
          rw [if_pos hk] at hM
          have hR2 : RR (us (us (us (us τ 47 28 (nI p)) 65 r k) 47 29 (-1)) 47 28 (nI (p + 1))) σ r := ((hR1.r (Or.inr (Or.inl rfl))).f (Or.inr rfl)).f (Or.inl rfl)
          refine go_mono ?_ (rd_lp κ b l r hl2 hr 2 0 (p + 1) _ rfl (by omega) (KC_R hR2 hK) ((hR2.2.1 20 (by decide) (by decide)).trans hl) us_s ((us_k (by decide)).trans us_s) (by rw [us_p (by decide), us_p (by decide), us_p (by decide), us_p (by decide)]; exact h66))
          rintro z h' ⟨υ, g1, g2, g3, g4, g5, -, g6⟩
          refine ⟨υ, g1, g2, hR2.tr g3, ?_⟩
          rw [mr_63 (hR2.1 63 (by decide) (by decide))] at g6
          rw [hM]
          cases hm : mlp (mr σ l) l 2 (p + 1) 0 with
          | inl e => rw [hm] at g6; exact g6
          | inr ts =>
            rw [hm] at g6
            refine ⟨g6.1, g4.trans ?_, g5.trans ?_, g6.2.1.trans (by rw [Nat.zero_add]), g6.2.2⟩
            · rw [us_p (by decide), us_p (by decide), us_p (by decide), us_p (by decide), h64, hx]
            · rw [us_p (by decide), us_p (by decide), us_s, hkd]
        refine go_aload_n dX11_read_60 rfl ?_
        refine gs_gi dX11_read_61 flX11_211 (gg_47 b) rfl (hF1) ?_
        refine go_if_ge 146 dX11_read_64 (by decide) (fun z => absurd z (by decide)) (fun _ => ?_)
        refine go_aload_n dX11_read_67 rfl ?_
        refine gs_callVi dX11_read_68 cvX11_read_214 (hlet) rfl (gg_47 b) rfl rfl rfl ⟨rfl, rfl⟩ rfl ?_
        refine go_istore_n (lv' := [_, _, _]) dX11_read_71 rfl rfl rfl ?_
        refine go_aload_n dX11_read_72 rfl ?_
        refine gs_gr dX11_read_73 flX11_63 (gg_47 b) rfl ?_
        refine go_iload_n dX11_read_76 rfl ?_
        refine go_iload_n dX11_read_77 rfl ?_
        refine go_i2l dX11_read_78 ?_
        refine go_ldc2 dX11_read_79 klX11_231 ?_
        refine go_ldc2 dX11_read_82 klX11_233 ?_
        refine gs_callSi dX11_read_85 csX11_read_145 (cX11_isIn_ok κ b _ _ (nI 48) (nI 53) _ _ (by decide) (by decide)) rfl rfl rfl ⟨rfl, rfl⟩ rfl ?_
        refine go_if_eqB 98 dX11_read_88 (by decide) (fun c88 => ?_) (fun c88 => ?_)
        · refine go_bipush (v := nI 6) dX11_read_98 (by decide) ?_
          refine gs_iast (_) dX11_read_100 (gg_65 b) (rfl) (by omega) rfl ?_
          refine go_aload_n dX11_read_101 rfl ?_
          refine go_iload_n dX11_read_102 rfl ?_
          refine go_i2l dX11_read_103 ?_
          refine go_ldc2 dX11_read_104 klX11_231 ?_
          refine go_ldc2 dX11_read_107 klX11_233 ?_
          refine gs_callSi dX11_read_110 csX11_read_145 (cX11_isIn_ok κ b _ _ (nI 48) (nI 53) _ _ (by decide) (by decide)) rfl rfl rfl ⟨rfl, rfl⟩ rfl ?_
          refine go_if_neB 122 dX11_read_113 (by decide) (fun c113 => ?_) (fun c113 => ?_)
          · refine go_aload_n dX11_read_122 rfl ?_
            refine gs_gi dX11_read_123 flX11_211 (gg_47 b) rfl (show _ = (-1 : Int32) by rw [us_p (by decide)]; exact hF1) ?_
            refine go_goto 133 dX11_read_126 (by decide) ?_
            refine gs_pi dX11_read_133 flX11_211 (gg_47 b) rfl (fun q hq => by cases hq; exact ⟨rfl, rfl⟩) ?_
            refine go_aload_n dX11_read_136 rfl ?_
            refine go_dup dX11_read_137 rfl ?_
            refine gs_gi dX11_read_138 flX11_208 (gg_47 b) rfl (show _ = nI p by rw [us_k (by decide), us_p (by decide), us_s]) ?_
            refine go_iconst (v := nI 1) dX11_read_141 (by decide) ?_
            refine go_iaddN dX11_read_142 ?_
            refine gs_pi dX11_read_143 flX11_208 (gg_47 b) rfl (fun q hq => by cases hq; exact ⟨rfl, rfl⟩) ?_
            exact absurd (c88.symm.trans c113) (by decide)
          · refine go_iload_n dX11_read_116 rfl ?_
            refine go_bipush (v := nI 42) dX11_read_117 (by decide) ?_
            refine go_icmp_ne 129 dX11_read_119 (by decide) (fun c119 => ?_) (fun c119 => ?_)
            · refine go_aload_n dX11_read_129 rfl ?_
              refine gs_gi dX11_read_130 flX11_208 (gg_47 b) rfl (show _ = nI p by rw [us_p (by decide), us_s]) ?_
              refine gs_pi dX11_read_133 flX11_211 (gg_47 b) rfl (fun q hq => by cases hq; exact ⟨rfl, rfl⟩) ?_
              refine go_aload_n dX11_read_136 rfl ?_
              refine go_dup dX11_read_137 rfl ?_
              refine gs_gi dX11_read_138 flX11_208 (gg_47 b) rfl (show _ = nI p by rw [us_k (by decide), us_p (by decide), us_s]) ?_
              refine go_iconst (v := nI 1) dX11_read_141 (by decide) ?_
              refine go_iaddN dX11_read_142 ?_
              refine gs_pi dX11_read_143 flX11_208 (gg_47 b) rfl (fun q hq => by cases hq; exact ⟨rfl, rfl⟩) ?_
              have hng : ¬ kok (mr σ l p) = true := by simp [kok, c88, c119]
              rw [if_neg hng] at hM
              have hR2 : RR (us (us (us (us τ 47 28 (nI p)) 65 r (nI 6)) 47 29 (nI p)) 47 28 (nI (p + 1))) σ r := ((hR1.r (Or.inr (Or.inl rfl))).f (Or.inr rfl)).f (Or.inl rfl)
              have hF3 : us (us (us (us τ 47 28 (nI p)) 65 r (nI 6)) 47 29 (nI p)) 47 28 (nI (p + 1)) 47 29 = nI p := (us_k (by decide)).trans us_s
              refine go_aload_n dX11_read_146 rfl ?_
              refine gs_gi dX11_read_147 flX11_211 (gg_47 b) rfl (hF3) ?_
              refine go_if_geN 247 dX11_read_150 (by decide) (by omega) ?_
              refine go_vret dX11_read_247 rfl rfl ?_
              exact ⟨_, rfl, rfl, hR2, by rw [hM]; exact hF3⟩
            · refine go_aload_n dX11_read_122 rfl ?_
              refine gs_gi dX11_read_123 flX11_211 (gg_47 b) rfl (show _ = (-1 : Int32) by rw [us_p (by decide)]; exact hF1) ?_
              refine go_goto 133 dX11_read_126 (by decide) ?_
              refine gs_pi dX11_read_133 flX11_211 (gg_47 b) rfl (fun q hq => by cases hq; exact ⟨rfl, rfl⟩) ?_
              refine go_aload_n dX11_read_136 rfl ?_
              refine go_dup dX11_read_137 rfl ?_
              refine gs_gi dX11_read_138 flX11_208 (gg_47 b) rfl (show _ = nI p by rw [us_k (by decide), us_p (by decide), us_s]) ?_
              refine go_iconst (v := nI 1) dX11_read_141 (by decide) ?_
              refine go_iaddN dX11_read_142 ?_
              refine gs_pi dX11_read_143 flX11_208 (gg_47 b) rfl (fun q hq => by cases hq; exact ⟨rfl, rfl⟩) ?_
              exact go_wk (by exact ⟨rfl, rfl, trivial⟩) (good (by simp [kok, c88, c119]) _ (by simp [mkd, c88]))
        · refine go_iload_n dX11_read_91 rfl ?_
          refine go_bipush (v := nI 48) dX11_read_92 (by decide) ?_
          refine go_isub dX11_read_94 ?_
          refine go_goto 100 dX11_read_95 (by decide) ?_
          refine gs_iast (_) dX11_read_100 (gg_65 b) (rfl) (by omega) rfl ?_
          refine go_aload_n dX11_read_101 rfl ?_
          refine go_iload_n dX11_read_102 rfl ?_
          refine go_i2l dX11_read_103 ?_
          refine go_ldc2 dX11_read_104 klX11_231 ?_
          refine go_ldc2 dX11_read_107 klX11_233 ?_
          refine gs_callSi dX11_read_110 csX11_read_145 (cX11_isIn_ok κ b _ _ (nI 48) (nI 53) _ _ (by decide) (by decide)) rfl rfl rfl ⟨rfl, rfl⟩ rfl ?_
          refine go_if_neB 122 dX11_read_113 (by decide) (fun c113 => ?_) (fun c113 => ?_)
          · refine go_aload_n dX11_read_122 rfl ?_
            refine gs_gi dX11_read_123 flX11_211 (gg_47 b) rfl (show _ = (-1 : Int32) by rw [us_p (by decide)]; exact hF1) ?_
            refine go_goto 133 dX11_read_126 (by decide) ?_
            refine gs_pi dX11_read_133 flX11_211 (gg_47 b) rfl (fun q hq => by cases hq; exact ⟨rfl, rfl⟩) ?_
            refine go_aload_n dX11_read_136 rfl ?_
            refine go_dup dX11_read_137 rfl ?_
            refine gs_gi dX11_read_138 flX11_208 (gg_47 b) rfl (show _ = nI p by rw [us_k (by decide), us_p (by decide), us_s]) ?_
            refine go_iconst (v := nI 1) dX11_read_141 (by decide) ?_
            refine go_iaddN dX11_read_142 ?_
            refine gs_pi dX11_read_143 flX11_208 (gg_47 b) rfl (fun q hq => by cases hq; exact ⟨rfl, rfl⟩) ?_
            exact go_wk (by exact ⟨rfl, rfl, trivial⟩) (good (by simp [kok, c88]) _ (by simp [mkd, c88]))
          · refine go_iload_n dX11_read_116 rfl ?_
            refine go_bipush (v := nI 42) dX11_read_117 (by decide) ?_
            refine go_icmp_ne 129 dX11_read_119 (by decide) (fun c119 => ?_) (fun c119 => ?_)
            · refine go_aload_n dX11_read_129 rfl ?_
              refine gs_gi dX11_read_130 flX11_208 (gg_47 b) rfl (show _ = nI p by rw [us_p (by decide), us_s]) ?_
              refine gs_pi dX11_read_133 flX11_211 (gg_47 b) rfl (fun q hq => by cases hq; exact ⟨rfl, rfl⟩) ?_
              refine go_aload_n dX11_read_136 rfl ?_
              refine go_dup dX11_read_137 rfl ?_
              refine gs_gi dX11_read_138 flX11_208 (gg_47 b) rfl (show _ = nI p by rw [us_k (by decide), us_p (by decide), us_s]) ?_
              refine go_iconst (v := nI 1) dX11_read_141 (by decide) ?_
              refine go_iaddN dX11_read_142 ?_
              refine gs_pi dX11_read_143 flX11_208 (gg_47 b) rfl (fun q hq => by cases hq; exact ⟨rfl, rfl⟩) ?_
              exact absurd (c88.symm.trans c113) (by decide)
            · refine go_aload_n dX11_read_122 rfl ?_
              refine gs_gi dX11_read_123 flX11_211 (gg_47 b) rfl (show _ = (-1 : Int32) by rw [us_p (by decide)]; exact hF1) ?_
              refine go_goto 133 dX11_read_126 (by decide) ?_
              refine gs_pi dX11_read_133 flX11_211 (gg_47 b) rfl (fun q hq => by cases hq; exact ⟨rfl, rfl⟩) ?_
              refine go_aload_n dX11_read_136 rfl ?_
              refine go_dup dX11_read_137 rfl ?_
              refine gs_gi dX11_read_138 flX11_208 (gg_47 b) rfl (show _ = nI p by rw [us_k (by decide), us_p (by decide), us_s]) ?_
              refine go_iconst (v := nI 1) dX11_read_141 (by decide) ?_
              refine go_iaddN dX11_read_142 ?_
              refine gs_pi dX11_read_143 flX11_208 (gg_47 b) rfl (fun q hq => by cases hq; exact ⟨rfl, rfl⟩) ?_
              exact absurd (c88.symm.trans c113) (by decide)
  have hlet0 : Fn κ mX11_letter [.ref 47] (gg b) (us (us (us σ 47 28 (nI 0)) 47 29 (-1)) 66 r (nI 0)) (some (.int (mr σ l 0))) (gg b) (us (us (us σ 47 28 (nI 0)) 47 29 (-1)) 66 r (nI 0)) := by
    have := cX11_letter_ok κ b (us (us (us σ 47 28 (nI 0)) 47 29 (-1)) 66 r (nI 0)) l 0 (by rw [us_p (by decide), us_k (by decide), us_k (by decide)]; exact hl) (by rw [us_p (by decide), us_k (by decide), us_s]) hl2 (by decide)
    rwa [mr_63 (show _ = σ 63 by rw [us_p (by decide), us_p (by decide), us_p (by decide)])] at this
  refine go_aload_n dX11_read_0 rfl ?_
  refine go_iconst (v := nI 0) dX11_read_1 (by decide) ?_
  refine gs_pi dX11_read_2 flX11_208 (gg_47 b) rfl (fun q hq => by cases hq; exact ⟨rfl, rfl⟩) ?_
  refine go_aload_n dX11_read_5 rfl ?_
  refine go_iconst (v := -1) dX11_read_6 (by decide) ?_
  refine gs_pi dX11_read_7 flX11_211 (gg_47 b) rfl (fun q hq => by cases hq; exact ⟨rfl, rfl⟩) ?_
  refine go_aload_n dX11_read_10 rfl ?_
  refine gs_gr dX11_read_11 flX11_66 (gg_47 b) rfl ?_
  refine go_iload_n dX11_read_14 rfl ?_
  refine go_iconst (v := nI 0) dX11_read_15 (by decide) ?_
  refine gs_iast (_) dX11_read_16 (gg_66 b) (rfl) (by omega) rfl ?_
  refine go_aload_n dX11_read_17 rfl ?_
  refine gs_gr dX11_read_18 flX11_59 (gg_47 b) rfl ?_
  refine go_iload_n dX11_read_21 rfl ?_
  refine go_aload_n dX11_read_22 rfl ?_
  refine gs_callVi dX11_read_23 cvX11_read_214 (hlet0) rfl (gg_47 b) rfl rfl rfl ⟨rfl, rfl⟩ rfl ?_
  refine go_bipush (v := nI 98) dX11_read_26 (by decide) ?_
  refine go_icmp_ne 35 dX11_read_28 (by decide) (fun c28 => ?_) (fun c28 => ?_)
  · have hbv : vp_nar .boolean (nI 0) = bi (decide (mr σ l 0 = nI 98)) := by rw [decide_eq_false c28]; decide
    refine go_iconst (v := nI 0) dX11_read_35 (by decide) ?_
    refine gs_zast (_) dX11_read_36 (gg_64 b) (rfl) (by omega) rfl ?_
    refine go_aload_n dX11_read_37 rfl ?_
    refine go_iconst (v := nI 4) dX11_read_38 (by decide) ?_
    refine go_aload_n dX11_read_39 rfl ?_
    refine gs_gr dX11_read_40 flX11_59 (gg_47 b) rfl ?_
    refine go_iload_n dX11_read_43 rfl ?_
    refine gs_zald (_) dX11_read_44 (gg_64 b) (rfl) (by omega) rfl (us_s.trans hbv) ?_
    refine go_if_eqB 54 dX11_read_45 (by decide) (fun c45 => ?_) (fun c45 => ?_)
    · refine go_ldc2 dX11_read_54 klX11_229 ?_
      have hR : RR (us (us (us (us σ 47 28 (nI 0)) 47 29 (-1)) 66 r (nI 0)) 64 r (vp_nar .boolean (nI 0))) σ r := (((RR.rf.f (Or.inl rfl)).f (Or.inr rfl)).r (Or.inr (Or.inr rfl))).r (Or.inl rfl)
      have e63 : (us (us (us (us σ 47 28 (nI 0)) 47 29 (-1)) 66 r (nI 0)) 64 r (vp_nar .boolean (nI 0))) 63 = σ 63 := hR.1 63 (by decide) (by decide)
      have e28 : (us (us (us (us σ 47 28 (nI 0)) 47 29 (-1)) 66 r (nI 0)) 64 r (vp_nar .boolean (nI 0))) 47 28 = nI 0 := by rw [us_p (by decide), us_p (by decide), us_k (by decide), us_s]
      have e29 : (us (us (us (us σ 47 28 (nI 0)) 47 29 (-1)) 66 r (nI 0)) 64 r (vp_nar .boolean (nI 0))) 47 29 = -1 := by rw [us_p (by decide), us_p (by decide), us_s]
      have hx := cX11_expect_ok κ b (us (us (us (us σ 47 28 (nI 0)) 47 29 (-1)) 66 r (nI 0)) 64 r (vp_nar .boolean (nI 0))) l 0 4 1818588192 [108, 101, 116, 32] rfl (by decide) okb_let ((hR.2.1 20 (by decide) (by decide)).trans hl) hl2 e28 e29 (by decide)
      rw [mr_63 e63] at hx
      refine gs_callVv dX11_read_57 cvX11_read_220 hx rfl (gg_47 b) rfl rfl rfl ⟨rfl, rfl⟩ rfl ?_
      exact rest (decide (mr σ l 0 = nI 98)) [108, 101, 116, 32] _ rfl (by rw [if_neg c28]) hR (KC_R hR hK) ((hR.2.1 20 (by decide) (by decide)).trans hl) e29 (us_s.trans hbv) (by rw [us_p (by decide), us_s])
    · refine go_ldc2 dX11_read_48 klX11_227 ?_
      refine go_goto 57 dX11_read_51 (by decide) ?_
      exact absurd (of_decide_eq_true c45) c28
  · have hbv : vp_nar .boolean (nI 1) = bi (decide (mr σ l 0 = nI 98)) := by rw [decide_eq_true c28]; decide
    refine go_iconst (v := nI 1) dX11_read_31 (by decide) ?_
    refine go_goto 36 dX11_read_32 (by decide) ?_
    refine gs_zast (_) dX11_read_36 (gg_64 b) (rfl) (by omega) rfl ?_
    refine go_aload_n dX11_read_37 rfl ?_
    refine go_iconst (v := nI 4) dX11_read_38 (by decide) ?_
    refine go_aload_n dX11_read_39 rfl ?_
    refine gs_gr dX11_read_40 flX11_59 (gg_47 b) rfl ?_
    refine go_iload_n dX11_read_43 rfl ?_
    refine gs_zald (_) dX11_read_44 (gg_64 b) (rfl) (by omega) rfl (us_s.trans hbv) ?_
    refine go_if_eqB 54 dX11_read_45 (by decide) (fun c45 => ?_) (fun c45 => ?_)
    · refine go_ldc2 dX11_read_54 klX11_229 ?_
      exact absurd c28 (of_decide_eq_false c45)
    · refine go_ldc2 dX11_read_48 klX11_227 ?_
      refine go_goto 57 dX11_read_51 (by decide) ?_
      have hR : RR (us (us (us (us σ 47 28 (nI 0)) 47 29 (-1)) 66 r (nI 0)) 64 r (vp_nar .boolean (nI 1))) σ r := (((RR.rf.f (Or.inl rfl)).f (Or.inr rfl)).r (Or.inr (Or.inr rfl))).r (Or.inl rfl)
      have e63 : (us (us (us (us σ 47 28 (nI 0)) 47 29 (-1)) 66 r (nI 0)) 64 r (vp_nar .boolean (nI 1))) 63 = σ 63 := hR.1 63 (by decide) (by decide)
      have e28 : (us (us (us (us σ 47 28 (nI 0)) 47 29 (-1)) 66 r (nI 0)) 64 r (vp_nar .boolean (nI 1))) 47 28 = nI 0 := by rw [us_p (by decide), us_p (by decide), us_k (by decide), us_s]
      have e29 : (us (us (us (us σ 47 28 (nI 0)) 47 29 (-1)) 66 r (nI 0)) 64 r (vp_nar .boolean (nI 1))) 47 29 = -1 := by rw [us_p (by decide), us_p (by decide), us_s]
      have hx := cX11_expect_ok κ b (us (us (us (us σ 47 28 (nI 0)) 47 29 (-1)) 66 r (nI 0)) 64 r (vp_nar .boolean (nI 1))) l 0 4 1650553376 [98, 97, 114, 32] rfl (by decide) okb_bar ((hR.2.1 20 (by decide) (by decide)).trans hl) hl2 e28 e29 (by decide)
      rw [mr_63 e63] at hx
      refine gs_callVv dX11_read_57 cvX11_read_220 hx rfl (gg_47 b) rfl rfl rfl ⟨rfl, rfl⟩ rfl ?_
      exact rest (decide (mr σ l 0 = nI 98)) [98, 97, 114, 32] _ rfl (by rw [if_pos c28]) hR (KC_R hR hK) ((hR.2.1 20 (by decide) (by decide)).trans hl) e29 (us_s.trans hbv) (by rw [us_p (by decide), us_s])
def RUQ (σ : wg_S) (l r : Nat) (x : Int32) (τ : wg_S) : Prop := if σ 47 21 = nI 12 then x = -4 ∧ τ = σ else ∃ υ, RDQ σ l r υ ∧ match mrd (mr σ l) l with
  | .inl e => x = -10 - nI e ∧ τ = us υ 47 20 (nI 0)
  | .inr _ => x = nI r ∧ τ = us (us υ 47 20 (nI 0)) 47 21 (nI (r + 1))
theorem cX11_rule_ok (κ : gm_K) (b : Bool) (σ : wg_S) (l r : Nat) (hl : σ 47 20 = nI l) (hl2 : l ≤ 120) (hR : σ 47 21 = nI r) (hr : r ≤ 12) (hK : KC σ) : FeI κ mX11_rule [.ref 47] (gg b) σ (RUQ σ l r) := by
  refine go_start (by decide) (Nat.le_of_ble_eq_true rfl) ?_
  refine go_aload_n dX11_rule_0 rfl ?_
  refine gs_gi dX11_rule_1 flX11_243 (gg_47 b) rfl (rfl) ?_
  refine go_bipush (v := nI 12) dX11_rule_4 (by decide) ?_
  refine go_icmp_ne 12 dX11_rule_6 (by decide) (fun c6 => ?_) (fun c6 => ?_)
  · have hlt : r < 12 := by
      rcases Nat.lt_or_ge r 12 with h | h
      · exact h
      · exact absurd (hR.trans (by rw [show r = 12 by omega])) c6
    refine go_aload_n dX11_rule_12 rfl ?_
    refine go_aload_n dX11_rule_13 rfl ?_
    refine gs_gi dX11_rule_14 flX11_243 (gg_47 b) rfl (hR) ?_
    refine gs_callVe dX11_rule_17 cvX11_rule_246 (cX11_read_ok κ b σ l r hl hl2 hlt hK) rfl (gg_47 b) rfl rfl rfl ⟨rfl, rfl⟩ rfl (fun υ H => ?_)
    have hR2 : us υ 47 20 (nI 0) 47 21 = nI r := (us_k (by decide)).trans ((H.1.2.1 21 (by decide) (by decide)).trans hR)
    obtain ⟨hRR, hq⟩ := id H
    have hmb := mrd_b (mr σ l) l
    cases hm : mrd (mr σ l) l with
    | inl e =>
      rw [hm] at hq
      have he := hmb e hm
      have hF : us υ 47 20 (nI 0) 47 29 = nI e := (us_k (by decide)).trans hq
      refine go_aload_n dX11_rule_20 rfl ?_
      refine go_iconst (v := nI 0) dX11_rule_21 (by decide) ?_
      refine gs_pi dX11_rule_22 flX11_205 (gg_47 b) rfl (fun q hq => by cases hq; exact ⟨rfl, rfl⟩) ?_
      refine go_aload_n dX11_rule_25 rfl ?_
      refine gs_gi dX11_rule_26 flX11_211 (gg_47 b) rfl (hF) ?_
      refine go_if_ltN 40 dX11_rule_29 (by decide) (by omega) ?_
      refine go_bipush (v := -10) dX11_rule_32 (by decide) ?_
      refine go_aload_n dX11_rule_34 rfl ?_
      refine gs_gi dX11_rule_35 flX11_211 (gg_47 b) rfl (hF) ?_
      refine go_isub dX11_rule_38 ?_
      refine go_iret dX11_rule_39 rfl rfl ?_
      refine ⟨_, _, rfl, rfl, ?_⟩
      rw [RUQ, if_neg c6]
      refine ⟨υ, H, ?_⟩
      rw [hm]
      exact ⟨rfl, rfl⟩
    | inr y =>
      rw [hm] at hq
      obtain ⟨x, k, ts⟩ := y
      have hF : us υ 47 20 (nI 0) 47 29 = -1 := (us_k (by decide)).trans hq.1
      refine go_aload_n dX11_rule_20 rfl ?_
      refine go_iconst (v := nI 0) dX11_rule_21 (by decide) ?_
      refine gs_pi dX11_rule_22 flX11_205 (gg_47 b) rfl (fun q hq => by cases hq; exact ⟨rfl, rfl⟩) ?_
      refine go_aload_n dX11_rule_25 rfl ?_
      refine gs_gi dX11_rule_26 flX11_211 (gg_47 b) rfl (hF) ?_
      refine go_if_lt 40 dX11_rule_29 (by decide) (fun _ => ?_) (fun z => absurd z (by decide))
      refine go_aload_n dX11_rule_40 rfl ?_
      refine go_dup dX11_rule_41 rfl ?_
      refine gs_gi dX11_rule_42 flX11_243 (gg_47 b) rfl (hR2) ?_
      refine go_iconst (v := nI 1) dX11_rule_45 (by decide) ?_
      refine go_iaddN dX11_rule_46 ?_
      refine gs_pi dX11_rule_47 flX11_243 (gg_47 b) rfl (fun q hq => by cases hq; exact ⟨rfl, rfl⟩) ?_
      refine go_aload_n dX11_rule_50 rfl ?_
      refine gs_gi dX11_rule_51 flX11_243 (gg_47 b) rfl (us_s) ?_
      refine go_iconst (v := nI 1) dX11_rule_54 (by decide) ?_
      refine go_isubN dX11_rule_55 (by omega) ?_
      refine go_iret dX11_rule_56 rfl rfl ?_
      refine ⟨_, _, rfl, rfl, ?_⟩
      rw [RUQ, if_neg c6]
      refine ⟨υ, H, ?_⟩
      rw [hm]
      exact ⟨rfl, rfl⟩
  · refine go_bipush (v := -4) dX11_rule_9 (by decide) ?_
    refine go_iret dX11_rule_11 rfl rfl ?_
    exact ⟨_, σ, rfl, rfl, by rw [RUQ, if_pos c6]; exact ⟨rfl, rfl⟩⟩
