/-! reading a rule: the class's reader and the reference's -/
theorem fnd_head (g : Nat → Bool) : ∀ n, fnd g (n + 1) = if g 0 then some 0 else (fnd (fun i => g (i + 1)) n).map (· + 1)
  | 0 => by by_cases h : g 0 = true <;> simp [fnd, h]
  | n + 1 => by
    rw [show fnd g (n + 1 + 1) = match fnd g (n + 1) with | some x => some x | none => if g (n + 1) then some (n + 1) else none from rfl, fnd_head g n]
    by_cases h : g 0 = true
    · simp [h]
    · rw [if_neg h, if_neg h, show fnd (fun i => g (i + 1)) (n + 1) = match fnd (fun i => g (i + 1)) n with | some x => some x | none => if g (n + 1) then some n else none from rfl]
      cases fnd (fun i => g (i + 1)) n with
      | some x => rfl
      | none => by_cases h2 : g (n + 1) = true <;> simp [h2]
theorem pw_l (f : Nat → Int32) : ∀ (cs : List Nat) (a : Nat), (match fnd (fun i => !decide (f (a + i) = nI (cs.getD i 0))) cs.length with | none => (true, a + cs.length) | some i => (false, a + i)) = pwl f cs a
  | [], a => rfl
  | c :: cs, a => by
    rw [List.length_cons, fnd_head, pwl]
    by_cases h : f a = nI c
    · rw [if_neg (by simp [h]), if_pos h, ← pw_l f cs (a + 1)]
      have e : (fun i => !decide (f (a + (i + 1)) = nI ((c :: cs).getD (i + 1) 0))) = (fun i => !decide (f (a + 1 + i) = nI (cs.getD i 0))) := by
        funext i
        rw [List.getD_cons_succ, show a + (i + 1) = a + 1 + i by omega]
      rw [e]
      cases fnd (fun i => !decide (f (a + 1 + i) = nI (cs.getD i 0))) cs.length with
      | none => simp only [Option.map_none]; congr 1; omega
      | some x => simp only [Option.map_some]; congr 1; omega
    · rw [if_pos (by simp [h]), if_neg h]; rfl
theorem tl_len : ∀ k, k < 10 → tl k = (tx_ch.getD k []).length := by decide +kernel
theorem pw_pwl {k : Nat} (hk : k < 10) (f : Nat → Int32) (a : Nat) : pw f k a = pwl f (tx_ch.getD k []) a := by
  rw [← pw_l, pw, tl_len k hk]
  rfl
theorem pwl_app (f : Nat → Int32) (ds : List Nat) : ∀ (cs : List Nat) (a : Nat), pwl f (cs ++ ds) a = match pwl f cs a with | (false, p) => (false, p) | (true, p) => pwl f ds p
  | [], a => rfl
  | c :: cs, a => by
    rw [List.cons_append, pwl, pwl]
    by_cases h : f a = nI c
    · rw [if_pos h, if_pos h, pwl_app f ds cs (a + 1)]
    · rw [if_neg h, if_neg h]
theorem rWord_l {σ : wg_S} {l a k : Nat} (hk : k < 10) : rWord σ l a k = ((pwl (hr σ l) (tx_ch.getD k []) a).1, (pwl (hr σ l) (tx_ch.getD k []) a).2, s_at σ (pwl (hr σ l) (tx_ch.getD k []) a).2) := by
  rw [rWord, pw_pwl hk]
theorem hr_f {σ τ : wg_S} (h : τ 18 = σ 18) (l : Nat) : hr τ l = hr σ l := funext (fun a => hr_of h l a)
theorem fx_m (x : Int32) : (fx x = none ∧ mfd x 5 = 0 ∧ ¬ x = nI 109) ∨ ∃ q, q < 5 ∧ fx x = some q ∧ mfd x 5 = q := by
  by_cases h0 : x = nI 109
  · subst h0; exact Or.inr ⟨0, by decide, by decide, by decide⟩
  by_cases h1 : x = nI 104
  · subst h1; exact Or.inr ⟨1, by decide, by decide, by decide⟩
  by_cases h2 : x = nI 116
  · subst h2; exact Or.inr ⟨2, by decide, by decide, by decide⟩
  by_cases h3 : x = nI 115
  · subst h3; exact Or.inr ⟨3, by decide, by decide, by decide⟩
  by_cases h4 : x = nI 100
  · subst h4; exact Or.inr ⟨4, by decide, by decide, by decide⟩
  refine Or.inl ⟨?_, ?_, h0⟩
  · rw [fx, if_neg h0, if_neg h1, if_neg h2, if_neg h3, if_neg h4]
  · rw [mfd, if_neg (show ¬ x = nI (ltr (4 * 4)) from h4), mfd, if_neg (show ¬ x = nI (ltr (4 * 3)) from h3), mfd, if_neg (show ¬ x = nI (ltr (4 * 2)) from h2), mfd, if_neg (show ¬ x = nI (ltr (4 * 1)) from h1), mfd, if_neg (show ¬ x = nI (ltr (4 * 0)) from h0), mfd]
theorem wrd_t : ∀ q, q < 5 → tx_ch.getD (5 + q) [] = wrd q := by decide +kernel
/-- a sign as the class keeps it, and as the reference does -/
def sgr (x s : Int32) : Prop := (x = nI 61 ∧ s = nI 0) ∨ (x = nI 60 ∧ s = nI 1) ∨ (x = nI 62 ∧ s = nI 2)
def TF (τ σ : wg_S) (t : Nat) : Prop := (∀ i, i ≠ t → τ 19 i = σ 19 i ∧ τ 20 i = σ 20 i ∧ τ 21 i = σ 21 i) ∧ τ 17 3 = σ 17 3 ∧ τ 17 4 = σ 17 4
theorem nd_0 {f : Nat → Int32} {a : Nat} : 0 < nd f a ↔ wi (f a) (nI 48) (nI 57) = true := by
  have e : dg f a 0 = wi (f a) (nI 48) (nI 57) := rfl
  rw [← e, nd, fnd_head]
  cases h : dg f a 0
  · simp
  · simp only [Bool.not_true, Bool.false_eq_true, if_false, iff_true]
    cases fnd (fun i => !dg f a (i + 1)) 2 with
    | none => decide
    | some x => simp
theorem R_test {σ : wg_S} {l a t : Nat} : (rTest σ l a t).1 = (mtest (hr σ l) a).1 ∧ (rTest σ l a t).2.1 = (mtest (hr σ l) a).2.1 ∧ ((mtest (hr σ l) a).1 = true → (rTest σ l a t).2.2 19 t = nI (mtest (hr σ l) a).2.2.1 ∧ sgr ((rTest σ l a t).2.2 20 t) (mtest (hr σ l) a).2.2.2.1 ∧ (rTest σ l a t).2.2 21 t = (mtest (hr σ l) a).2.2.2.2) ∧ TF (rTest σ l a t).2.2 σ t := by
  have rf : TF σ σ t := ⟨fun _ _ => ⟨rfl, rfl, rfl⟩, rfl, rfl⟩
  rw [rTest, mtest, rField]
  rcases fx_m (hr σ l a) with ⟨h1, h2, h3⟩ | ⟨q, hq, h1, h2⟩
  · rw [h1, h2]
    have e : pwl (hr σ l) (wrd 0) a = (false, a) := by
      show pwl (hr σ l) [109, 97, 114, 107] a = _
      rw [pwl, if_neg h3]
    rw [e]
    exact ⟨rfl, rfl, fun q => absurd q Bool.false_ne_true, rf⟩
  · rw [h1, h2]
    have e : rWord (us σ 19 t (nI q)) l a (5 + q) = ((pwl (hr σ l) (wrd q) a).1, (pwl (hr σ l) (wrd q) a).2, s_at (us σ 19 t (nI q)) (pwl (hr σ l) (wrd q) a).2) := by
      rw [rWord_l (by omega), wrd_t q hq, hr_f (us_p (by decide)) l]
    have g : ∀ τ : wg_S, (∀ p, p ≠ 17 → p ≠ 19 → p ≠ 20 → p ≠ 21 → τ p = σ p) → hr τ l = hr σ l := fun τ h => hr_f (h 18 (by decide) (by decide) (by decide) (by decide)) l
    show (match rWord (us σ 19 t (nI q)) l a (5 + q) with
      | (false, a1, τ) => (false, a1, τ)
      | (true, a1, τ) => match rSign τ l a1 t with
        | (false, a2, υ) => (false, a2, υ)
        | (true, a2, υ) => rNum υ l a2 t).1 = _ ∧ (match rWord (us σ 19 t (nI q)) l a (5 + q) with
      | (false, a1, τ) => (false, a1, τ)
      | (true, a1, τ) => match rSign τ l a1 t with
        | (false, a2, υ) => (false, a2, υ)
        | (true, a2, υ) => rNum υ l a2 t).2.1 = _ ∧ (_ → (match rWord (us σ 19 t (nI q)) l a (5 + q) with
      | (false, a1, τ) => (false, a1, τ)
      | (true, a1, τ) => match rSign τ l a1 t with
        | (false, a2, υ) => (false, a2, υ)
        | (true, a2, υ) => rNum υ l a2 t).2.2 19 t = _ ∧ sgr ((match rWord (us σ 19 t (nI q)) l a (5 + q) with
      | (false, a1, τ) => (false, a1, τ)
      | (true, a1, τ) => match rSign τ l a1 t with
        | (false, a2, υ) => (false, a2, υ)
        | (true, a2, υ) => rNum υ l a2 t).2.2 20 t) _ ∧ (match rWord (us σ 19 t (nI q)) l a (5 + q) with
      | (false, a1, τ) => (false, a1, τ)
      | (true, a1, τ) => match rSign τ l a1 t with
        | (false, a2, υ) => (false, a2, υ)
        | (true, a2, υ) => rNum υ l a2 t).2.2 21 t = _) ∧ TF (match rWord (us σ 19 t (nI q)) l a (5 + q) with
      | (false, a1, τ) => (false, a1, τ)
      | (true, a1, τ) => match rSign τ l a1 t with
        | (false, a2, υ) => (false, a2, υ)
        | (true, a2, υ) => rNum υ l a2 t).2.2 σ t
    rw [e]
    rcases hP : pwl (hr σ l) (wrd q) a with ⟨bb, p⟩
    have t1 : TF (s_at (us σ 19 t (nI q)) p) σ t := by
      refine ⟨fun i hi => ?_, ?_, ?_⟩
      · rw [s_at_p (by decide), us_k hi, s_at_p (by decide), us_p (by decide), s_at_p (by decide), us_p (by decide)]
        exact ⟨rfl, rfl, rfl⟩
      · rw [s_at_k (by decide), us_p (by decide)]
      · rw [s_at_k (by decide), us_p (by decide)]
    cases bb with
    | false => exact ⟨rfl, rfl, fun q => absurd q Bool.false_ne_true, t1⟩
    | true =>
      have hh : hr (s_at (us σ 19 t (nI q)) p) l = hr σ l := g _ (fun p' q1 q2 q3 q4 => by rw [s_at_p q1, us_p q2])
      dsimp only
      rw [rSign, hh]
      by_cases hs : hr σ l p = nI 61 ∨ hr σ l p = nI 60 ∨ hr σ l p = nI 62
      · have hi : isg (hr σ l p) = true := by rcases hs with z | z | z <;> rw [z] <;> decide
        have hsr : sgr (hr σ l p) (tsg (hr σ l p)) := by
          rcases hs with z | z | z
          · rw [z]; exact Or.inl ⟨rfl, by decide⟩
          · rw [z]; exact Or.inr (Or.inl ⟨rfl, by decide⟩)
          · rw [z]; exact Or.inr (Or.inr ⟨rfl, by decide⟩)
        have hh2 : hr (s_at (us (s_at (us σ 19 t (nI q)) p) 20 t (hr σ l p)) (p + 1)) l = hr σ l := g _ (fun p' q1 q2 q3 q4 => by rw [s_at_p q1, us_p q3, s_at_p q1, us_p q2])
        rw [if_pos hs, if_pos hi]
        dsimp only
        rw [rNum, hh2]
        have t2 : TF (us (s_at (s_at (us (s_at (us σ 19 t (nI q)) p) 20 t (hr σ l p)) (p + 1)) (p + 1 + nd (hr σ l) (p + 1))) 21 t (nv (hr σ l) (p + 1) (nd (hr σ l) (p + 1)))) σ t := by
          refine ⟨fun i hi => ?_, ?_, ?_⟩
          · refine ⟨?_, ?_, ?_⟩
            · rw [us_p (by decide), s_at_p (by decide), s_at_p (by decide), us_p (by decide), s_at_p (by decide), us_k hi]
            · rw [us_p (by decide), s_at_p (by decide), s_at_p (by decide), us_k hi, s_at_p (by decide), us_p (by decide)]
            · rw [us_k hi, s_at_p (by decide), s_at_p (by decide), us_p (by decide), s_at_p (by decide), us_p (by decide)]
          · rw [us_p (by decide), s_at_k (by decide), s_at_k (by decide), us_p (by decide), s_at_k (by decide), us_p (by decide)]
          · rw [us_p (by decide), s_at_k (by decide), s_at_k (by decide), us_p (by decide), s_at_k (by decide), us_p (by decide)]
        by_cases hw : wi (hr σ l (p + 1)) (nI 48) (nI 57) = true
        · rw [if_pos hw, decide_eq_true (nd_0.mpr hw)]
          refine ⟨rfl, rfl, fun _ => ⟨?_, ?_, ?_⟩, t2⟩ <;> dsimp only
          · rw [us_p (by decide), s_at_p (by decide), s_at_p (by decide), us_p (by decide), s_at_p (by decide), us_s]
          · rw [us_p (by decide), s_at_p (by decide), s_at_p (by decide), us_s]
            exact hsr
          · rw [us_s]
        · have h0 : nd (hr σ l) (p + 1) = 0 := Nat.eq_zero_of_not_pos (fun z => hw (nd_0.mp z))
          rw [if_neg hw]
          rw [h0] at t2 ⊢
          exact ⟨rfl, rfl, fun q => absurd q Bool.false_ne_true, t2⟩
      · have hi : ¬ isg (hr σ l p) = true := by
          intro z
          rw [isg, Bool.or_eq_true, Bool.or_eq_true, decide_eq_true_eq, decide_eq_true_eq, decide_eq_true_eq] at z
          rcases z with (z | z) | z
          · exact hs (Or.inl z)
          · exact hs (Or.inr (Or.inl z))
          · exact hs (Or.inr (Or.inr z))
        rw [if_neg hs, if_neg hi]
        exact ⟨rfl, rfl, fun q => absurd q Bool.false_ne_true, t1⟩
/-- what the class's reader has when it has read its tests -/
def TD (τ : wg_S) (t : Nat) (ts : List TS) : Prop := ∀ i q s v, ts[i]? = some (q, s, v) → τ 19 (t + i) = nI q ∧ sgr (τ 20 (t + i)) s ∧ τ 21 (t + i) = v
theorem R_tests {l : Nat} : ∀ (g : Nat) (σ : wg_S) (a t : Nat), σ 17 4 = nI t →
    (∀ e, mlp (hr σ l) l g a t = .inl e → ((rTs l g σ a t).1 && decide (l ≤ (rTs l g σ a t).2.1)) = false ∧ (rTs l g σ a t).2.1 = e) ∧
    (∀ ts, mlp (hr σ l) l g a t = .inr ts → (rTs l g σ a t).1 = true ∧ l ≤ (rTs l g σ a t).2.1 ∧ ts.length ≤ g ∧ (rTs l g σ a t).2.2 17 4 = nI (t + ts.length) ∧ TD (rTs l g σ a t).2.2 t ts) ∧
    (∀ i, i < t → (rTs l g σ a t).2.2 19 i = σ 19 i ∧ (rTs l g σ a t).2.2 20 i = σ 20 i ∧ (rTs l g σ a t).2.2 21 i = σ 21 i) ∧ (rTs l g σ a t).2.2 17 3 = σ 17 3 ∧ (rTs l g σ a t).2.2 17 2 = σ 17 2
  | 0, σ, a, t, h4 => by
    rw [rTs, mlp]
    refine ⟨fun e he => ?_, fun ts he => ?_, fun i _ => ⟨rfl, rfl, rfl⟩, rfl, rfl⟩
    · by_cases h : l ≤ a
      · rw [if_pos h] at he; cases he
      · rw [if_neg h] at he
        cases he
        exact ⟨by rw [decide_eq_false h]; rfl, rfl⟩
    · by_cases h : l ≤ a
      · rw [if_pos h] at he
        cases he
        exact ⟨rfl, h, Nat.le_refl _, h4, fun i q s v z => by simp at z⟩
      · rw [if_neg h] at he; cases he
  | g + 1, σ, a, t, h4 => by
    rw [rTs, mlp]
    by_cases h : l ≤ a
    · rw [if_pos h, if_pos h]
      refine ⟨fun e he => (by cases he), fun ts he => ?_, fun i _ => ⟨rfl, rfl, rfl⟩, rfl, rfl⟩
      cases he
      exact ⟨rfl, h, Nat.zero_le _, h4, fun i q s v z => by simp at z⟩
    rw [if_neg h, if_neg h]
    have hk : (if t = 0 then 3 else 4) < 10 := by split <;> decide
    have hcs : tx_ch.getD (if t = 0 then 3 else 4) [] = if t = 0 then [32, 105, 102, 32] else [32, 97, 110, 100, 32] := by split <;> rfl
    rw [rWord_l hk, hcs]
    rcases hP : pwl (hr σ l) (if t = 0 then [32, 105, 102, 32] else [32, 97, 110, 100, 32]) a with ⟨bb, p⟩
    cases bb with
    | false =>
      refine ⟨fun e he => ?_, fun ts he => (by cases he), fun i _ => ?_, ?_, ?_⟩
      · cases he; exact ⟨rfl, rfl⟩
      · show s_at σ p 19 i = _ ∧ s_at σ p 20 i = _ ∧ s_at σ p 21 i = _
        rw [s_at_p (by decide), s_at_p (by decide), s_at_p (by decide)]
        exact ⟨rfl, rfl, rfl⟩
      · show s_at σ p 17 3 = σ 17 3
        exact s_at_k (by decide)
      · show s_at σ p 17 2 = σ 17 2
        exact s_at_k (by decide)
    | true =>
      dsimp only
      have hh : hr (s_at σ p) l = hr σ l := hr_f (s_at_p (by decide)) l
      obtain ⟨r1, r2, r3, r4⟩ := R_test (σ := s_at σ p) (l := l) (a := p) (t := t)
      have rk := rTest_k (s_at σ p) l p t
      have rk2 := rTest_2 (s_at σ p) l p t
      rw [hh] at r1 r2 r3
      obtain ⟨b2, a2, υ, hT⟩ : ∃ b2 a2 υ, rTest (s_at σ p) l p t = (b2, a2, υ) := ⟨_, _, _, rfl⟩
      obtain ⟨b3, p', x, hm⟩ : ∃ b3 p' x, mtest (hr σ l) p = (b3, p', x) := ⟨_, _, _, rfl⟩
      simp only [hT, hm]
      rw [hT] at r1 r2 r3 r4 rk rk2
      rw [hm] at r1 r2 r3
      dsimp only at r1 r2 r3 r4 rk rk2
      subst r1
      subst r2
      obtain ⟨f1, f2, f3⟩ := r4
      have f1' : ∀ i, i ≠ t → υ 19 i = σ 19 i ∧ υ 20 i = σ 20 i ∧ υ 21 i = σ 21 i := fun i hi => by
        have := f1 i hi
        rw [s_at_p (by decide), s_at_p (by decide), s_at_p (by decide)] at this
        exact this
      have f4' : υ 17 2 = σ 17 2 := rk2.trans (s_at_k (by decide))
      have f2' : υ 17 3 = σ 17 3 := f2.trans (s_at_k (by decide))
      have f3' : υ 17 4 = nI t := f3.trans ((s_at_k (by decide)).trans h4)
      cases b2 with
      | false =>
        refine ⟨fun e he => ?_, fun ts he => (by cases he), fun i hi => f1' i (by omega), f2', f4'⟩
        cases he; exact ⟨rfl, rfl⟩
      | true =>
        dsimp only
        obtain ⟨d1, d2, d3⟩ := r3 rfl
        have h18 : hr (us υ 17 4 (υ 17 4 + nI 1)) l = hr σ l := by
          refine hr_f ?_ l
          rw [us_p (by decide), rk 18 (by decide) (by decide) (by decide) (by decide), s_at_p (by decide)]
        obtain ⟨i1, i2, i3, i4, i5⟩ := R_tests g (us υ 17 4 (υ 17 4 + nI 1)) a2 (t + 1) (by rw [us_s, f3', nI_add])
        rw [h18] at i1 i2
        have i3' : ∀ i, i < t + 1 → (rTs l g (us υ 17 4 (υ 17 4 + nI 1)) a2 (t + 1)).2.2 19 i = υ 19 i ∧ (rTs l g (us υ 17 4 (υ 17 4 + nI 1)) a2 (t + 1)).2.2 20 i = υ 20 i ∧ (rTs l g (us υ 17 4 (υ 17 4 + nI 1)) a2 (t + 1)).2.2 21 i = υ 21 i := fun i hi => by
          have := i3 i hi
          rw [us_p (by decide), us_p (by decide), us_p (by decide)] at this
          exact this
        refine ⟨fun e he => ?_, fun ts he => ?_, fun i hi => ?_, ?_, ?_⟩
        · cases hl : mlp (hr σ l) l g a2 (t + 1) with
          | inl e' => rw [hl] at he; cases he; exact i1 e hl
          | inr ts => rw [hl] at he; cases he
        · cases hl : mlp (hr σ l) l g a2 (t + 1) with
          | inl e' => rw [hl] at he; cases he
          | inr ts' =>
            rw [hl] at he
            cases he
            obtain ⟨j1, j2, j3, j4, j5⟩ := i2 ts' hl
            refine ⟨j1, j2, by rw [List.length_cons]; omega, by rw [j4, List.length_cons]; congr 1; omega, ?_⟩
            intro i q s v hi
            cases i with
            | zero =>
              simp only [List.getElem?_cons_zero, Option.some.injEq] at hi
              subst hi
              obtain ⟨w1, w2, w3⟩ := i3' t (by omega)
              simp only [Nat.add_zero]
              rw [w1, w2, w3]
              exact ⟨d1, d2, d3⟩
            | succ i =>
              simp only [List.getElem?_cons_succ] at hi
              rw [show t + (i + 1) = t + 1 + i by omega]
              exact j5 i q s v hi
        · have w := i3' i (by omega)
          have z := f1' i (by omega)
          exact ⟨w.1.trans z.1, w.2.1.trans z.2.1, w.2.2.trans z.2.2⟩
        · rw [i4, us_k (by decide)]; exact f2'
        · rw [i5, us_k (by decide)]; exact f4'
/-- a rule: the same fault, or the same rule -/
theorem R_read {σ : wg_S} {l : Nat} : (∀ e, mrd (hr σ l) l = .inl e → (rRule σ l).1 = false ∧ (rRule σ l).2.1 = e) ∧
    ∀ x k ts, mrd (hr σ l) l = .inr (x, k, ts) → (rRule σ l).1 = true ∧ (rRule σ l).2.2 17 2 = bi x ∧ (((rRule σ l).2.2 17 3 = -1 ∧ k = nI 6) ∨ ∃ y, y ≤ 5 ∧ (rRule σ l).2.2 17 3 = nI y ∧ k = nI y) ∧ ts.length ≤ 2 ∧ (rRule σ l).2.2 17 4 = nI ts.length ∧ TD (rRule σ l).2.2 0 ts := by
  have h0 : hr (r0 σ) l = hr σ l := hr_f (by rw [r0, us_p (by decide), us_p (by decide)]) l
  rw [rRule, rVerb, h0, mrd]
  have hv : ∀ τ : wg_S, τ 18 = σ 18 → rWord τ l 0 (if decide (hr σ l 0 = nI 98) then 0 else 1) = ((pwl (hr σ l) (if hr σ l 0 = nI 98 then [98, 97, 114] else [108, 101, 116]) 0).1, (pwl (hr σ l) (if hr σ l 0 = nI 98 then [98, 97, 114] else [108, 101, 116]) 0).2, s_at τ (pwl (hr σ l) (if hr σ l 0 = nI 98 then [98, 97, 114] else [108, 101, 116]) 0).2) := fun τ hτ => by
    by_cases h : hr σ l 0 = nI 98
    · rw [decide_eq_true h, if_pos h, rWord_l (by decide), hr_f hτ]; rfl
    · rw [decide_eq_false h, if_neg h, rWord_l (by decide), hr_f hτ]; rfl
  have happ : (if hr σ l 0 = nI 98 then [98, 97, 114, 32] else [108, 101, 116, 32]) = (if hr σ l 0 = nI 98 then [98, 97, 114] else [108, 101, 116]) ++ [32] := by split <;> rfl
  rw [hv _ (by rw [us_p (by decide), r0, us_p (by decide), us_p (by decide)]), happ, pwl_app]
  rcases pwl (hr σ l) (if hr σ l 0 = nI 98 then [98, 97, 114] else [108, 101, 116]) 0 with ⟨bb, p⟩
  cases bb with
  | false => exact ⟨fun e he => (by cases he; exact ⟨rfl, rfl⟩), fun x k ts he => by cases he⟩
  | true =>
    dsimp only
    have e18 : s_at (us (r0 σ) 17 2 (bi (decide (hr σ l 0 = nI 98)))) p 18 = σ 18 := by rw [s_at_p (by decide), us_p (by decide), r0, us_p (by decide), us_p (by decide)]
    have hw := rWord_l (σ := s_at (us (r0 σ) 17 2 (bi (decide (hr σ l 0 = nI 98)))) p) (l := l) (a := p) (k := 2) (by decide)
    rw [hr_f e18, show tx_ch.getD 2 [] = [32] from rfl] at hw
    rw [hw]
    rcases pwl (hr σ l) [32] p with ⟨bb, p2⟩
    cases bb with
    | false => exact ⟨fun e he => (by cases he; exact ⟨rfl, rfl⟩), fun x k ts he => by cases he⟩
    | true =>
      dsimp only
      generalize hτ : s_at (s_at (us (r0 σ) 17 2 (bi (decide (hr σ l 0 = nI 98)))) p) p2 = τ
      have t18 : τ 18 = σ 18 := by rw [← hτ, s_at_p (by decide)]; exact e18
      have t2 : τ 17 2 = bi (decide (hr σ l 0 = nI 98)) := by rw [← hτ, s_at_k (by decide), s_at_k (by decide), us_s]
      have t4 : τ 17 4 = nI 0 := by rw [← hτ, s_at_k (by decide), s_at_k (by decide), us_k (by decide), r0, us_s]
      have hkind : (kok (hr σ l p2) = false ∧ rKind τ l p2 = (false, p2, τ)) ∨ (kok (hr σ l p2) = true ∧ ∃ υ, rKind τ l p2 = (true, p2 + 1, υ) ∧ υ 18 = σ 18 ∧ υ 17 2 = bi (decide (hr σ l 0 = nI 98)) ∧ υ 17 4 = nI 0 ∧ ((υ 17 3 = -1 ∧ mkd (hr σ l p2) = nI 6) ∨ ∃ y, y ≤ 5 ∧ υ 17 3 = nI y ∧ mkd (hr σ l p2) = nI y)) := by
        rw [rKind, hr_f t18]
        generalize hr σ l p2 = c
        by_cases hc : c = nI 42
        · subst hc
          refine Or.inr ⟨by decide, _, by rw [if_pos rfl], ?_, ?_, ?_, Or.inl ⟨?_, by decide⟩⟩
          · rw [s_at_p (by decide), us_p (by decide)]; exact t18
          · rw [s_at_k (by decide), us_k (by decide)]; exact t2
          · rw [s_at_k (by decide), us_k (by decide)]; exact t4
          · rw [s_at_k (by decide), us_s]
        · rw [if_neg hc]
          by_cases hw : wi c (nI 48) (nI 53) = true
          · obtain ⟨z, hz1, hz2, rfl⟩ := wi_n (by omega) (show ¬ wi c (nI 48) (nI 53) = false by rw [hw]; decide) (by omega)
            have ez : nI z - nI 48 = nI (z - 48) := pk_sub hz1
            refine Or.inr ⟨by rw [kok, hw]; rfl, _, by rw [if_pos hw], ?_, ?_, ?_, Or.inr ⟨z - 48, by omega, ?_, ?_⟩⟩
            · rw [s_at_p (by decide), us_p (by decide)]; exact t18
            · rw [s_at_k (by decide), us_k (by decide)]; exact t2
            · rw [s_at_k (by decide), us_k (by decide)]; exact t4
            · rw [s_at_k (by decide), us_s, ez]
            · rw [mkd, if_pos hw, ez]
          · refine Or.inl ⟨by rw [kok, Bool.eq_false_iff.mpr hw, decide_eq_false hc]; rfl, by rw [if_neg hw]⟩
      rcases hkind with ⟨k1, k2⟩ | ⟨k1, υ, k2, v18, v2, v4, v3⟩
      · rw [k1, k2]
        exact ⟨fun e he => (by cases he; exact ⟨rfl, rfl⟩), fun x k ts he => by cases he⟩
      · rw [k1, k2, if_pos rfl]
        dsimp only
        obtain ⟨i1, i2, i3, i4, i5⟩ := R_tests (l := l) 2 υ (p2 + 1) 0 v4
        rw [hr_f v18] at i1 i2
        obtain ⟨b2, a2, ω, hT⟩ : ∃ b2 a2 ω, rTs l 2 υ (p2 + 1) 0 = (b2, a2, ω) := ⟨_, _, _, rfl⟩
        simp only [hT]
        rw [hT] at i1 i2 i4 i5
        dsimp only at i1 i2 i4 i5
        cases hm : mlp (hr σ l) l 2 (p2 + 1) 0 with
        | inl e =>
          obtain ⟨j1, j2⟩ := i1 e hm
          refine ⟨fun e' he => ?_, fun x k ts he => by cases he⟩
          cases he
          cases b2 with
          | false => exact ⟨rfl, j2⟩
          | true => exact ⟨j1, j2⟩
        | inr ts =>
          obtain ⟨j1, j2, j3, j4, j5⟩ := i2 ts hm
          subst j1
          refine ⟨fun e' he => (by cases he), fun x k ts' he => ?_⟩
          cases he
          refine ⟨decide_eq_true j2, i5.trans v2, ?_, j3, ?_, j5⟩
          · show (ω 17 3 = -1 ∧ _) ∨ ∃ y, y ≤ 5 ∧ ω 17 3 = nI y ∧ _
            rw [i4]; exact v3
          · show ω 17 4 = _
            rw [j4, Nat.zero_add]
theorem zL_fr {σ υ : wg_S} {n m j r r' l l' kl : Nat} {ms : List Nat} (h : zL σ n m j r l kl ms) (hq : ∀ p, p ≠ 17 → p ≠ 18 → p ≠ 19 → p ≠ 20 → p ≠ 21 → p ≠ 22 → p ≠ 23 → p ≠ 24 → p ≠ 25 → p ≠ 26 → p ≠ 27 → p ≠ 28 → p ≠ 47 → p ≠ 63 → p ≠ 64 → p ≠ 65 → p ≠ 66 → p ≠ 67 → p ≠ 68 → p ≠ 69 → υ p = σ p) (hf : ∀ k, k ≠ 20 → k ≠ 21 → k ≠ 28 → k ≠ 29 → υ 47 k = σ 47 k) (hT : zT υ l') (hU : zU υ r') : zL υ n m j r' l' kl ms := by
  obtain ⟨hC, hM, hJ, -, -, hB, hO, hH, hD, hQ, hKC⟩ := h
  refine ⟨?_, ?_, ?_, hT, hU, ?_, ?_, ?_, ?_, ?_, ?_⟩
  · unfold zC; simp (discharger := decide) only [hq, hf]; exact hC
  · unfold zM; simp (discharger := decide) only [hq, hf]; exact hM
  · unfold zJ; simp (discharger := decide) only [hq, hf]; exact hJ
  · unfold zB; simp (discharger := decide) only [hq, hf]; exact hB
  · unfold zO; simp (discharger := decide) only [hq, hf]; exact hO
  · unfold zH; simp (discharger := decide) only [hq, hf]; exact hH
  · unfold zD; simp (discharger := decide) only [hq, hf]; exact hD
  · unfold zQ; simp (discharger := decide) only [hq, hf]; exact hQ
  · unfold KC; simp (discharger := decide) only [hq, hf]; exact hKC
theorem s_radd_p {σ : wg_S} {r p : Nat} (h : p < 22 ∨ 28 < p) : s_radd σ r p = σ p := by
  unfold s_radd
  rw [us_p (by omega), us_p (by omega), us_p (by omega), us_p (by omega), us_p (by omega), us_p (by omega), us_p (by omega), us_p (by omega), us_p (by omega), us_p (by omega)]
theorem s_radd_r {σ : wg_S} {r : Nat} : s_radd σ r 22 0 = nI (r + 1) ∧ s_radd σ r 23 = upd (σ 23) r (σ 17 2) ∧ s_radd σ r 24 = upd (σ 24) r (σ 17 3) ∧ s_radd σ r 25 = upd (σ 25) r (σ 17 4)
    ∧ s_radd σ r 26 = upd (upd (σ 26) (r * 2 + 0) (σ 19 0)) (r * 2 + 1) (σ 19 1) ∧ s_radd σ r 27 = upd (upd (σ 27) (r * 2 + 0) (σ 20 0)) (r * 2 + 1) (σ 20 1) ∧ s_radd σ r 28 = upd (upd (σ 28) (r * 2 + 0) (σ 21 0)) (r * 2 + 1) (σ 21 1) := ⟨rfl, rfl, rfl, rfl, rfl, rfl, rfl⟩
theorem up2_o {f : Nat → Int32} {r k i : Nat} {x y : Int32} (hk : k < r) (hi : i < 2) : upd (upd f (r * 2 + 0) x) (r * 2 + 1) y (k * 2 + i) = f (k * 2 + i) := by
  rw [pk_un (by omega), pk_un (by omega)]
theorem up2_n {f g : Nat → Int32} {r i : Nat} (hi : i < 2) : upd (upd f (r * 2 + 0) (g 0)) (r * 2 + 1) (g 1) (r * 2 + i) = g i := by
  have : i = 0 ∨ i = 1 := by omega
  rcases this with rfl | rfl
  · rw [pk_un (by omega), pk_us]
  · rw [pk_us]
theorem B_rule (κ : gm_K) (T : TXT κ) : Both κ mX10_rule mX11_rule [] := by
  refine both_fe (fun b σ n m j r l kl ms h => ?_)
  have hci := h.ci
  have hmi := h.mi
  have hz : zS σ := ⟨n, m, j, r, l, kl, ms, h⟩
  have hzl := id h
  obtain ⟨hC, hM, hJ, hT, hU, hB, hO, hH, hD, hQ, hKC⟩ := h
  obtain ⟨⟨cN, cN', cn⟩, c2, c3, c4, c5, c6, c7, c8, c9, c10, c11⟩ := id hC
  obtain ⟨⟨mN, mN', mn⟩, m2, m3, m4, m5⟩ := id hM
  obtain ⟨⟨jN, jN', jn⟩, j2, j3⟩ := id hJ
  obtain ⟨⟨tN, tN', tl⟩, t2⟩ := id hT
  obtain ⟨⟨uN, uN', un⟩, u2⟩ := id hU
  obtain ⟨⟨b0, b1, wd0, wd1, wd2⟩, b2, b3, b4⟩ := id hB
  obtain ⟨⟨oN, oN', on⟩, o2⟩ := id hO
  have hK := cX10_rule_ok κ T b σ n m j r hci l tN tl
  by_cases h12 : r = 12
  · have e : K_rule σ l r = (-4, σ) := by rw [K_rule, uN, h12, if_neg (by decide)]
    rw [e] at hK
    refine ⟨-4, b, σ, _, hK, cX11_rule_ok κ b σ l r tN' tl uN' un hKC, fun y υ hq => ?_⟩
    rw [RUQ, uN', h12, if_pos rfl] at hq
    obtain ⟨rfl, rfl⟩ := hq
    exact ⟨rfl, hz⟩
  have hlt : nI r < nI 12 := (nI_ltI (by omega) (by omega)).mpr (by omega)
  have hne : ¬ nI r = nI 12 := fun q => h12 ((nI_eq (by omega) (by omega)).mp q)
  have hf : hr σ l = mr σ l := by
    funext a
    rw [hr, mr]
    by_cases ha : a < l
    · rw [if_pos ha, if_pos ha]; exact t2 a ha
    · rw [if_neg ha, if_neg ha]
  obtain ⟨q1, q2⟩ := R_read (σ := σ) (l := l)
  have hk := rRule_k σ l
  obtain ⟨bb, a, τ, hR⟩ : ∃ bb a τ, rRule σ l = (bb, a, τ) := ⟨_, _, _, rfl⟩
  rw [hR] at q1 q2 hk
  dsimp only at q1 q2 hk
  have eK : K_rule σ l r = match (bb, a, τ) with
    | (false, a, τ) => (-10 - nI a, us τ 17 0 (nI 0))
    | (true, _, τ) => (nI r, s_radd (us τ 17 0 (nI 0)) r) := by
    rw [K_rule, uN, if_pos hlt, hR]
    cases bb <;> rfl
  cases hm : mrd (hr σ l) l with
  | inl e =>
    obtain ⟨rfl, rfl⟩ := q1 e hm
    dsimp only at eK
    rw [eK] at hK
    have hp : ∀ p, p ≠ 17 → p ≠ 19 → p ≠ 20 → p ≠ 21 → us τ 17 0 (nI 0) p = σ p := fun p g1 g2 g3 g4 => by rw [us_p g1, hk p g1 g2 g3 g4]
    have hkc : KC (us τ 17 0 (nI 0)) := by unfold KC; simp (discharger := decide) only [hp]; exact hKC
    refine ⟨_, b, _, _, hK, cX11_rule_ok κ b (us τ 17 0 (nI 0)) l r (by rw [hp 47 (by decide) (by decide) (by decide) (by decide)]; exact tN') tl (by rw [hp 47 (by decide) (by decide) (by decide) (by decide)]; exact uN') un hkc, fun y υ hq => ?_⟩
    have hmr : mr (us τ 17 0 (nI 0)) l = hr σ l := by
      rw [hf]
      funext a
      rw [mr, mr, hp 63 (by decide) (by decide) (by decide) (by decide)]
    rw [RUQ, hp 47 (by decide) (by decide) (by decide) (by decide), uN', if_neg hne, hmr, hm] at hq
    obtain ⟨ω, hd, rfl, rfl⟩ := hq
    refine ⟨rfl, n, m, j, r, 0, kl, ms, ?_⟩
    obtain ⟨⟨f1, f2, f3, f4⟩, -⟩ := hd
    refine zL_fr hzl (fun p a1 a2 a3 a4 a5 a6 a7 a8 a9 a10 a11 a12 a13 a14 a15 a16 a17 a18 a19 a20 => ?_) (fun k a1 a2 a3 a4 => ?_) ⟨⟨?_, ?_, by omega⟩, fun k hk => absurd hk (by omega)⟩ ⟨⟨?_, ?_, un⟩, fun k hk => ?_⟩
    · rw [us_p a13, f1 p a13 (by omega), hp p a1 a3 a4 a5]
    · rw [us_k a1, f2 k a3 a4, hp 47 (by decide) (by decide) (by decide) (by decide)]
    · rw [us_p (by decide), f1 17 (by decide) (by decide), us_s]
    · rw [us_s]
    · rw [us_p (by decide), f1 22 (by decide) (by decide), hp 22 (by decide) (by decide) (by decide) (by decide)]; exact uN
    · rw [us_k (by decide), f2 21 (by decide) (by decide), hp 47 (by decide) (by decide) (by decide) (by decide)]; exact uN'
    · have g : ∀ p, p = 64 ∨ p = 65 ∨ p = 66 → us ω 47 20 (nI 0) p k = σ p k := fun p h7 => by
        rw [us_p (by omega), f3 p k h7 (by omega), hp p (by omega) (by omega) (by omega) (by omega)]
      have g2 : ∀ p i, p = 67 ∨ p = 68 ∨ p = 69 → i < 2 → us ω 47 20 (nI 0) p (2 * k + i) = σ p (2 * k + i) := fun p i h7 hi => by
        rw [us_p (by omega), f4 p (2 * k + i) h7 (by omega) (by omega), hp p (by omega) (by omega) (by omega) (by omega)]
      have g3 : ∀ p, 22 ≤ p → p ≤ 28 → us ω 47 20 (nI 0) p = σ p := fun p h7 h8 => by
        rw [us_p (by omega), f1 p (by omega) (by omega), hp p (by omega) (by omega) (by omega) (by omega)]
      obtain ⟨w1, w2, t, ht, w3, w4, w5⟩ := u2 k hk
      refine ⟨?_, ?_, t, ht, ?_, ?_, fun i hi => ?_⟩
      · rw [g3 23 (by omega) (by omega), g 64 (by omega)]; exact w1
      · rw [g3 24 (by omega) (by omega), g 65 (by omega)]; exact w2
      · rw [g3 25 (by omega) (by omega)]; exact w3
      · rw [g 66 (by omega)]; exact w4
      · rw [g3 26 (by omega) (by omega), g3 27 (by omega) (by omega), g3 28 (by omega) (by omega), g2 67 i (by omega) (by omega), g2 68 i (by omega) (by omega), g2 69 i (by omega) (by omega)]
        exact w5 i hi
  | inr X =>
    obtain ⟨x, k, ts⟩ := X
    obtain ⟨rfl, d2, d3, d4, d5, d6⟩ := q2 x k ts hm
    dsimp only at eK
    rw [eK] at hK
    have hp : ∀ p, p ≠ 17 → p ≠ 19 → p ≠ 20 → p ≠ 21 → p < 22 ∨ 28 < p → s_radd (us τ 17 0 (nI 0)) r p = σ p := fun p g1 g2 g3 g4 g5 => by rw [s_radd_p g5, us_p g1, hk p g1 g2 g3 g4]
    have hkc : KC (s_radd (us τ 17 0 (nI 0)) r) := by unfold KC; simp (discharger := decide) only [hp]; exact hKC
    refine ⟨_, b, _, _, hK, cX11_rule_ok κ b (s_radd (us τ 17 0 (nI 0)) r) l r (by rw [hp 47 (by decide) (by decide) (by decide) (by decide) (by decide)]; exact tN') tl (by rw [hp 47 (by decide) (by decide) (by decide) (by decide) (by decide)]; exact uN') un hkc, fun y υ hq => ?_⟩
    have hmr : mr (s_radd (us τ 17 0 (nI 0)) r) l = hr σ l := by
      rw [hf]
      funext a
      rw [mr, mr, hp 63 (by decide) (by decide) (by decide) (by decide) (by decide)]
    rw [RUQ, hp 47 (by decide) (by decide) (by decide) (by decide) (by decide), uN', if_neg hne, hmr, hm] at hq
    obtain ⟨ω, hd, rfl, rfl⟩ := hq
    rw [RDQ, hmr, hm] at hd
    obtain ⟨⟨f1, f2, f3, f4⟩, e29, e64, e65, e66, eT⟩ := hd
    obtain ⟨s22, s23, s24, s25, s26, s27, s28⟩ := s_radd_r (σ := us τ 17 0 (nI 0)) (r := r)
    have k19 : ∀ p, p = 19 ∨ p = 20 ∨ p = 21 → us τ 17 0 (nI 0) p = τ p := fun p h7 => us_p (by omega)
    have klo : ∀ p, 22 ≤ p → p ≤ 28 → us τ 17 0 (nI 0) p = σ p := fun p h7 h8 => by rw [us_p (by omega), hk p (by omega) (by omega) (by omega) (by omega)]
    have k17 : ∀ i, i ≠ 0 → us τ 17 0 (nI 0) 17 i = τ 17 i := fun i hi => us_k hi
    rw [klo 23 (by omega) (by omega), k17 2 (by decide)] at s23
    rw [klo 24 (by omega) (by omega), k17 3 (by decide)] at s24
    rw [klo 25 (by omega) (by omega), k17 4 (by decide)] at s25
    rw [klo 26 (by omega) (by omega), k19 19 (by omega)] at s26
    rw [klo 27 (by omega) (by omega), k19 20 (by omega)] at s27
    rw [klo 28 (by omega) (by omega), k19 21 (by omega)] at s28
    have flo : ∀ p, p < 47 → us (us ω 47 20 (nI 0)) 47 21 (nI (r + 1)) p = s_radd (us τ 17 0 (nI 0)) r p := fun p h7 => by rw [us_p (by omega), us_p (by omega), f1 p (by omega) (by omega)]
    refine ⟨rfl, n, m, j, r + 1, 0, kl, ms, ?_⟩
    refine zL_fr hzl (fun p a1 a2 a3 a4 a5 a6 a7 a8 a9 a10 a11 a12 a13 a14 a15 a16 a17 a18 a19 a20 => ?_) (fun k a1 a2 a3 a4 => ?_) ⟨⟨?_, ?_, by omega⟩, fun k hk => absurd hk (by omega)⟩ ⟨⟨?_, ?_, by omega⟩, fun k' hk' => ?_⟩
    · rw [us_p a13, us_p a13, f1 p a13 (by omega), hp p a1 a3 a4 a5 (by omega)]
    · rw [us_k a2, us_k a1, f2 k a3 a4, hp 47 (by decide) (by decide) (by decide) (by decide) (by decide)]
    · rw [flo 17 (by decide), s_radd_p (by omega), us_s]
    · rw [us_k (by decide), us_s]
    · rw [flo 22 (by decide)]; exact s22
    · rw [us_s]
    · rw [flo 23 (by decide), flo 24 (by decide), flo 25 (by decide), flo 26 (by decide), flo 27 (by decide), flo 28 (by decide), s23, s24, s25, s26, s27, s28]
      have g0 : ∀ p, p ≠ 47 → us (us ω 47 20 (nI 0)) 47 21 (nI (r + 1)) p = ω p := fun p h7 => by rw [us_p h7, us_p h7]
      rw [g0 64 (by decide), g0 65 (by decide), g0 66 (by decide), g0 67 (by decide), g0 68 (by decide), g0 69 (by decide)]
      by_cases e : k' = r
      · subst e
        rw [pk_us, pk_us, pk_us, d2, e64, e65, e66, d5]
        refine ⟨rfl, d3, ts.length, d4, rfl, rfl, fun i hi => ?_⟩
        obtain ⟨q, s, v, hv⟩ : ∃ q s v, ts[i]? = some (q, s, v) := ⟨_, _, _, List.getElem?_eq_getElem hi⟩
        obtain ⟨v1, v2, v3⟩ := d6 i q s v hv
        obtain ⟨x1, x2, x3⟩ := eT i q s v hv
        rw [Nat.zero_add] at v1 v2 v3
        rw [Nat.add_zero] at x1 x2 x3
        rw [up2_n (g := τ 19) (by omega), up2_n (g := τ 20) (by omega), up2_n (g := τ 21) (by omega), x1, x2, x3, v1, v3]
        exact ⟨rfl, v2, rfl⟩
      · have g : ∀ p, p = 64 ∨ p = 65 ∨ p = 66 → ω p k' = σ p k' := fun p h7 => by
          rw [f3 p k' h7 (by omega), hp p (by omega) (by omega) (by omega) (by omega) (by omega)]
        have g2 : ∀ p i, p = 67 ∨ p = 68 ∨ p = 69 → i < 2 → ω p (2 * k' + i) = σ p (2 * k' + i) := fun p i h7 hi => by
          rw [f4 p (2 * k' + i) h7 (by omega) (by omega), hp p (by omega) (by omega) (by omega) (by omega) (by omega)]
        rw [pk_un e, pk_un e, pk_un e, g 64 (by omega), g 65 (by omega), g 66 (by omega)]
        obtain ⟨w1, w2, t, ht, w3, w4, w5⟩ := u2 k' (by omega)
        refine ⟨w1, w2, t, ht, w3, w4, fun i hi => ?_⟩
        rw [up2_o (by omega) (by omega), up2_o (by omega) (by omega), up2_o (by omega) (by omega), g2 67 i (by omega) (by omega), g2 68 i (by omega) (by omega), g2 69 i (by omega) (by omega)]
        exact w5 i hi
