/-- what reading leaves of the tape's own cells: the bar -/
def k2 (σ τ : wg_S) : Prop := τ 17 2 = σ 17 2
theorem rWord_2 (σ : wg_S) (l a k : Nat) : (rWord σ l a k).2.2 17 2 = σ 17 2 := by simp [rWord, s_at, us, upd]
theorem rKind_2 (σ : wg_S) (l a : Nat) : (rKind σ l a).2.2 17 2 = σ 17 2 := by
  unfold rKind
  split
  · simp [s_at, us, upd]
  · split <;> simp [s_at, us, upd]
theorem rSign_2 (σ : wg_S) (l a t : Nat) : (rSign σ l a t).2.2 17 2 = σ 17 2 := by
  unfold rSign
  split <;> simp [s_at, us, upd]
theorem rNum_2 (σ : wg_S) (l a t : Nat) : (rNum σ l a t).2.2 17 2 = σ 17 2 := by simp [rNum, s_at, us, upd]
theorem rField_2 (σ : wg_S) (l a t : Nat) : (rField σ l a t).2.2 17 2 = σ 17 2 := by
  unfold rField
  cases fx (hr σ l a) with
  | none => rfl
  | some q => exact (rWord_2 (us σ 19 t (nI q)) l a (5 + q)).trans (congrFun (us_p (by decide)) 2)
theorem rTest_2 (σ : wg_S) (l a t : Nat) : (rTest σ l a t).2.2 17 2 = σ 17 2 := by
  have h1 := rField_2 σ l a t
  unfold rTest
  cases e1 : rField σ l a t with
  | mk x p =>
    obtain ⟨a1, τ⟩ := p
    rw [e1] at h1
    cases x with
    | false => exact h1
    | true =>
      have h2 := rSign_2 τ l a1 t
      show (match rSign τ l a1 t with | (false, a2, υ) => (false, a2, υ) | (true, a2, υ) => rNum υ l a2 t).2.2 17 2 = _
      cases e2 : rSign τ l a1 t with
      | mk y p =>
        obtain ⟨a2, υ⟩ := p
        rw [e2] at h2
        cases y with
        | false => exact h2.trans h1
        | true => exact ((rNum_2 υ l a2 t).trans h2).trans h1
def rTs (l : Nat) : Nat → wg_S → Nat → Nat → Bool × Nat × wg_S
  | 0, σ, a, _ => (true, a, σ)
  | f + 1, σ, a, t => if l ≤ a then (true, a, σ) else match rWord σ l a (if t = 0 then 3 else 4) with
    | (false, a1, τ) => (false, a1, τ)
    | (true, a1, τ) => match rTest τ l a1 t with
      | (false, a2, υ) => (false, a2, υ)
      | (true, a2, υ) => rTs l f (us υ 17 4 (υ 17 4 + nI 1)) a2 (t + 1)
theorem rTs_tp {l : Nat} : ∀ (f : Nat) {σ : wg_S} {a t : Nat}, TP σ l a → TP (rTs l f σ a t).2.2 l (rTs l f σ a t).2.1 ∧ (rTs l f σ a t).2.2 17 2 = σ 17 2
  | 0, σ, a, t, h => ⟨h, rfl⟩
  | f + 1, σ, a, t, h => by
    rw [rTs]
    by_cases hl : l ≤ a
    · rw [if_pos hl]; exact ⟨h, rfl⟩
    · rw [if_neg hl]
      have hk : (if t = 0 then 3 else 4) < 10 := by split <;> decide
      have h1 := rWord_tp hk h
      have h1' := rWord_2 σ l a (if t = 0 then 3 else 4)
      cases e1 : rWord σ l a (if t = 0 then 3 else 4) with
      | mk x p =>
        obtain ⟨a1, τ⟩ := p
        rw [e1] at h1 h1'
        cases x with
        | false => exact ⟨h1, h1'⟩
        | true =>
          have h2 := rTest_tp (t := t) h1
          have h2' := rTest_2 τ l a1 t
          show TP (match rTest τ l a1 t with | (false, a2, υ) => (false, a2, υ) | (true, a2, υ) => rTs l f (us υ 17 4 (υ 17 4 + nI 1)) a2 (t + 1)).2.2 l (match rTest τ l a1 t with | (false, a2, υ) => (false, a2, υ) | (true, a2, υ) => rTs l f (us υ 17 4 (υ 17 4 + nI 1)) a2 (t + 1)).2.1 ∧ (match rTest τ l a1 t with | (false, a2, υ) => (false, a2, υ) | (true, a2, υ) => rTs l f (us υ 17 4 (υ 17 4 + nI 1)) a2 (t + 1)).2.2 17 2 = _
          cases e2 : rTest τ l a1 t with
          | mk y p =>
            obtain ⟨a2, υ⟩ := p
            rw [e2] at h2 h2'
            cases y with
            | false => exact ⟨h2, h2'.trans h1'⟩
            | true =>
              have h3 := rTs_tp f (σ := us υ 17 4 (υ 17 4 + nI 1)) (a := a2) (t := t + 1) (TP_of (us_k (by decide)) (us_k (by decide)) h2)
              exact ⟨h3.1, ((h3.2.trans (us_k (by decide))).trans h2').trans h1'⟩
theorem cX9_tests_ok (κ : gm_K) (T : TXT κ) (b : Bool) (l : Nat) : ∀ (f : Nat) (σ : wg_S) (a t : Nat), t + f = 2 → TP σ l a → Go κ mX9_readTests 2 [some (.ref 17), some (.int (nI t))] [] (wd (gg b) σ) (0, 0) (fun z h' => z = some (.int (bi (rTs l f σ a t).1)) ∧ h' = wd (gg b) (rTs l f σ a t).2.2)
  | 0, σ, a, t, ht, hT => by
    obtain rfl : t = 2 := by omega
    refine go_iload_n dX9_readTests_2 rfl ?_
    refine go_iconst (v := nI 2) dX9_readTests_3 (by decide) ?_
    refine go_icmp_ge 58 dX9_readTests_4 (by decide) (fun _ => ?_) (fun z => absurd z (by decide))
    refine go_iconst (v := nI 1) dX9_readTests_58 (by decide) ?_
    refine go_zret dX9_readTests_59 rfl rfl (by decide) ?_
    exact ⟨rfl, rfl⟩
  | f + 1, σ, a, t, ht, hT => by
    have ih := cX9_tests_ok κ T b l f
    have hE := cX9_isAtEnd_ok κ b σ l a hT
    have hu : rTs l (f + 1) σ a t = if l ≤ a then (true, a, σ) else match rWord σ l a (if t = 0 then 3 else 4) with | (false, a1, τ) => (false, a1, τ) | (true, a1, τ) => match rTest τ l a1 t with | (false, a2, υ) => (false, a2, υ) | (true, a2, υ) => rTs l f (us υ 17 4 (υ 17 4 + nI 1)) a2 (t + 1) := rfl
    by_cases hl : l ≤ a
    · rw [if_pos hl] at hu
      rw [decide_eq_true hl] at hE
      refine go_iload_n dX9_readTests_2 rfl ?_
      refine go_iconst (v := nI 2) dX9_readTests_3 (by decide) ?_
      refine go_icmp_geN 58 dX9_readTests_4 (by decide) (by omega) (by omega) (fun c4 => ?_) (fun c4 => ?_)
      · exact absurd c4 (by omega)
      · refine go_aload_n dX9_readTests_7 rfl ?_
        refine gs_callVi dX9_readTests_8 cvX9_readTests_59 (hE) rfl (gg_17 b) rfl rfl rfl ⟨rfl, rfl⟩ rfl ?_
        refine go_if_neB 58 dX9_readTests_11 (by decide) (fun c11 => ?_) (fun c11 => ?_)
        · refine go_iconst (v := nI 1) dX9_readTests_58 (by decide) ?_
          refine go_zret dX9_readTests_59 rfl rfl (by decide) ?_
          rw [hu]
          exact ⟨rfl, rfl⟩
        · cases c11
    · rw [if_neg hl] at hu
      rw [decide_eq_false hl] at hE
      have hk : (if t = 0 then 3 else 4) < 10 := by split <;> decide
      have hW := cX9_readWord_ok κ T b σ l a hT _ hk
      have hW2 := rWord_tp hk hT
      -- the word, whichever it is
      have word : ∀ Φ, Go κ mX9_readTests 26 [some (.ref 17), some (.int (nI t))] [.retAddr (if t = 0 then 3 else 4), .ref 17] (wd (gg b) σ) (0, 0) Φ → Go κ mX9_readTests 2 [some (.ref 17), some (.int (nI t))] [] (wd (gg b) σ) (0, 0) Φ := by
        intro Φ hend
        refine go_iload_n dX9_readTests_2 rfl ?_
        refine go_iconst (v := nI 2) dX9_readTests_3 (by decide) ?_
        refine go_icmp_geN 58 dX9_readTests_4 (by decide) (by omega) (by omega) (fun c4 => ?_) (fun c4 => ?_)
        · exact absurd c4 (by omega)
        · refine go_aload_n dX9_readTests_7 rfl ?_
          refine gs_callVi dX9_readTests_8 cvX9_readTests_59 (hE) rfl (gg_17 b) rfl rfl rfl ⟨rfl, rfl⟩ rfl ?_
          refine go_if_neB 58 dX9_readTests_11 (by decide) (fun c11 => ?_) (fun c11 => ?_)
          · cases c11
          · refine go_aload_n dX9_readTests_14 rfl ?_
            refine go_iload_n dX9_readTests_15 rfl ?_
            refine go_if_neN 24 dX9_readTests_16 (by decide) (by omega) (fun c16 => ?_) (fun c16 => ?_)
            · rw [if_neg c16] at hend
              refine go_ldcS T 4 (by decide) rfl rfl dX9_readTests_24 ?_
              exact hend
            · rw [if_pos c16] at hend
              refine go_ldcS T 3 (by decide) rfl rfl dX9_readTests_19 ?_
              refine go_goto 26 dX9_readTests_21 (by decide) ?_
              exact hend
      refine word _ ?_
      cases e1 : rWord σ l a (if t = 0 then 3 else 4) with
      | mk x p =>
        obtain ⟨a1, τ⟩ := p
        rw [e1] at hW hW2 hu
        refine gs_callVi dX9_readTests_26 cvX9_readTests_49 hW rfl (gg_17 b) rfl rfl rfl ⟨rfl, rfl⟩ rfl ?_
        cases x with
        | false =>
          change rTs l (f + 1) σ a t = (false, a1, τ) at hu
          refine go_if_eqB 40 dX9_readTests_29 (by decide) (fun c29 => ?_) (fun c29 => ?_)
          · refine go_iconst (v := nI 0) dX9_readTests_40 (by decide) ?_
            refine go_zret dX9_readTests_41 rfl rfl (by decide) ?_
            rw [hu]
            exact ⟨rfl, rfl⟩
          · cases c29
        | true =>
          have hS := cX9_readTest_ok κ T b τ l a1 hW2 t (by omega)
          have hS2 := rTest_tp (t := t) hW2
          cases e2 : rTest τ l a1 t with
          | mk y p =>
            obtain ⟨a2, υ⟩ := p
            rw [e2] at hS hS2
            simp only [e2] at hu
            cases y with
            | false =>
              change rTs l (f + 1) σ a t = (false, a2, υ) at hu
              refine go_if_eqB 40 dX9_readTests_29 (by decide) (fun c29 => ?_) (fun c29 => ?_)
              · cases c29
              · refine go_aload_n dX9_readTests_32 rfl ?_
                refine go_iload_n dX9_readTests_33 rfl ?_
                refine gs_callVi dX9_readTests_34 cvX9_readTests_78 (hS) rfl (gg_17 b) rfl rfl rfl ⟨rfl, rfl⟩ rfl ?_
                refine go_if_neB 42 dX9_readTests_37 (by decide) (fun c37 => ?_) (fun c37 => ?_)
                · cases c37
                · refine go_iconst (v := nI 0) dX9_readTests_40 (by decide) ?_
                  refine go_zret dX9_readTests_41 rfl rfl (by decide) ?_
                  rw [hu]
                  exact ⟨rfl, rfl⟩
            | true =>
              change rTs l (f + 1) σ a t = rTs l f (us υ 17 4 (υ 17 4 + nI 1)) a2 (t + 1) at hu
              refine go_if_eqB 40 dX9_readTests_29 (by decide) (fun c29 => ?_) (fun c29 => ?_)
              · cases c29
              · refine go_aload_n dX9_readTests_32 rfl ?_
                refine go_iload_n dX9_readTests_33 rfl ?_
                refine gs_callVi dX9_readTests_34 cvX9_readTests_78 (hS) rfl (gg_17 b) rfl rfl rfl ⟨rfl, rfl⟩ rfl ?_
                refine go_if_neB 42 dX9_readTests_37 (by decide) (fun c37 => ?_) (fun c37 => ?_)
                · refine go_aload_n dX9_readTests_42 rfl ?_
                  refine go_dup dX9_readTests_43 rfl ?_
                  refine gs_gi dX9_readTests_44 flX9_25 (gg_17 b) rfl (rfl) ?_
                  refine go_iconst (v := nI 1) dX9_readTests_47 (by decide) ?_
                  refine go_iadd dX9_readTests_48 ?_
                  refine gs_pi dX9_readTests_49 flX9_25 (gg_17 b) rfl (fun q hq => by cases hq; exact ⟨rfl, rfl⟩) ?_
                  refine go_iincN (lv' := [_, _]) 1 dX9_readTests_52 (by decide) rfl rfl rfl rfl ?_
                  refine go_goto 2 dX9_readTests_55 (by decide) ?_
                  rw [hu]
                  exact ih _ a2 (t + 1) (by omega) (TP_of (us_k (by decide)) (us_k (by decide)) hS2)
                · cases c37
theorem cX9_readTests_ok (κ : gm_K) (T : TXT κ) (b : Bool) (σ : wg_S) (l a : Nat) (hT : TP σ l a) : Fn κ mX9_readTests [.ref 17] (gg b) σ (some (.int (bi (rTs l 2 σ a 0).1))) (gg b) (rTs l 2 σ a 0).2.2 := by
  refine go_start (by decide) (Nat.le_of_ble_eq_true rfl) ?_
  refine go_iconst (v := nI 0) dX9_readTests_0 (by decide) ?_
  refine go_istore_n (lv' := [_, _]) dX9_readTests_1 rfl rfl rfl ?_
  exact cX9_tests_ok κ T b l 2 σ a 0 rfl hT
def r0 (σ : wg_S) : wg_S := us (us σ 17 1 (nI 0)) 17 4 (nI 0)
def rRule (σ : wg_S) (l : Nat) : Bool × Nat × wg_S := match rVerb (r0 σ) l 0 with
  | (false, a, τ) => (false, a, τ)
  | (true, a1, τ1) => match rWord τ1 l a1 2 with
    | (false, a, τ) => (false, a, τ)
    | (true, a2, τ2) => match rKind τ2 l a2 with
      | (false, a, τ) => (false, a, τ)
      | (true, a3, τ3) => match rTs l 2 τ3 a3 0 with
        | (false, a, τ) => (false, a, τ)
        | (true, a4, τ4) => (decide (l ≤ a4), a4, τ4)
theorem r0_tp {σ : wg_S} {l : Nat} (hl : σ 17 0 = nI l) (hl2 : l ≤ 120) : TP (r0 σ) l 0 := ⟨((us_k (by decide)).trans (us_k (by decide))).trans hl, (us_k (by decide)).trans us_s, hl2, Nat.zero_le _⟩
theorem rVerb_2 (σ : wg_S) (l a : Nat) : (rVerb σ l a).2.2 17 2 = bi (decide (hr σ l a = nI 98)) := (rWord_2 _ _ _ _).trans us_s
def RO (l : Nat) (x : Bool) (R : Bool × Nat × wg_S) : Prop := TP R.2.2 l R.2.1 ∧ R.2.2 17 2 = bi x
theorem cX9_readRule_ok (κ : gm_K) (T : TXT κ) (b : Bool) (σ : wg_S) (l : Nat) (hl : σ 17 0 = nI l) (hl2 : l ≤ 120) : Fn κ mX9_readRule [.ref 17] (gg b) σ (some (.int (bi (rRule σ l).1))) (gg b) (rRule σ l).2.2 ∧ RO l (decide (hr (r0 σ) l 0 = nI 98)) (rRule σ l) := by
  have H0 := r0_tp hl hl2
  have hu : rRule σ l = match rVerb (r0 σ) l 0 with | (false, a, τ) => (false, a, τ) | (true, a1, τ1) => match rWord τ1 l a1 2 with | (false, a, τ) => (false, a, τ) | (true, a2, τ2) => match rKind τ2 l a2 with | (false, a, τ) => (false, a, τ) | (true, a3, τ3) => match rTs l 2 τ3 a3 0 with | (false, a, τ) => (false, a, τ) | (true, a4, τ4) => (decide (l ≤ a4), a4, τ4) := rfl
  have G1 := cX9_readVerb_ok κ T b (r0 σ) l 0 H0
  have H1 := rVerb_tp H0
  have J1 := rVerb_2 (r0 σ) l 0
  cases e1 : rVerb (r0 σ) l 0 with
  | mk x p =>
    obtain ⟨a1, τ1⟩ := p
    rw [e1] at G1 H1 J1
    simp only [e1] at hu
    cases x with
    | false =>
      change rRule σ l = (false, a1, τ1) at hu
      rw [hu]
      refine ⟨?_, H1, J1⟩
      refine go_start (by decide) (Nat.le_of_ble_eq_true rfl) ?_
      refine go_aload_n dX9_readRule_0 rfl ?_
      refine go_iconst (v := nI 0) dX9_readRule_1 (by decide) ?_
      refine gs_pi dX9_readRule_2 flX9_15 (gg_17 b) rfl (fun q hq => by cases hq; exact ⟨rfl, rfl⟩) ?_
      refine go_aload_n dX9_readRule_5 rfl ?_
      refine go_iconst (v := nI 0) dX9_readRule_6 (by decide) ?_
      refine gs_pi dX9_readRule_7 flX9_25 (gg_17 b) rfl (fun q hq => by cases hq; exact ⟨rfl, rfl⟩) ?_
      refine go_aload_n dX9_readRule_10 rfl ?_
      refine gs_callVi dX9_readRule_11 cvX9_readRule_43 (G1) rfl (gg_17 b) rfl rfl rfl ⟨rfl, rfl⟩ rfl ?_
      refine go_if_eqB 51 dX9_readRule_14 (by decide) (fun c14 => ?_) (fun c14 => ?_)
      · refine go_iconst (v := nI 0) dX9_readRule_51 (by decide) ?_
        refine go_zret dX9_readRule_52 rfl rfl (by decide) ?_
        exact ⟨rfl, rfl⟩
      · cases c14
    | true =>
      have G2 := cX9_readWord_ok κ T b τ1 l a1 H1 2 (by decide)
      have H2 := rWord_tp (k := 2) (by decide) H1
      have J2 := rWord_2 τ1 l a1 2
      cases e2 : rWord τ1 l a1 2 with
      | mk x p =>
        obtain ⟨a2, τ2⟩ := p
        rw [e2] at G2 H2 J2
        simp only [e2] at hu
        cases x with
        | false =>
          change rRule σ l = (false, a2, τ2) at hu
          rw [hu]
          refine ⟨?_, H2, (J2).trans J1⟩
          refine go_start (by decide) (Nat.le_of_ble_eq_true rfl) ?_
          refine go_aload_n dX9_readRule_0 rfl ?_
          refine go_iconst (v := nI 0) dX9_readRule_1 (by decide) ?_
          refine gs_pi dX9_readRule_2 flX9_15 (gg_17 b) rfl (fun q hq => by cases hq; exact ⟨rfl, rfl⟩) ?_
          refine go_aload_n dX9_readRule_5 rfl ?_
          refine go_iconst (v := nI 0) dX9_readRule_6 (by decide) ?_
          refine gs_pi dX9_readRule_7 flX9_25 (gg_17 b) rfl (fun q hq => by cases hq; exact ⟨rfl, rfl⟩) ?_
          refine go_aload_n dX9_readRule_10 rfl ?_
          refine gs_callVi dX9_readRule_11 cvX9_readRule_43 (G1) rfl (gg_17 b) rfl rfl rfl ⟨rfl, rfl⟩ rfl ?_
          refine go_if_eqB 51 dX9_readRule_14 (by decide) (fun c14 => ?_) (fun c14 => ?_)
          · cases c14
          · refine go_aload_n dX9_readRule_17 rfl ?_
            refine go_ldcS T 2 (by decide) rfl rfl dX9_readRule_18 ?_
            refine gs_callVi dX9_readRule_20 cvX9_readRule_49 (G2) rfl (gg_17 b) rfl rfl rfl ⟨rfl, rfl⟩ rfl ?_
            refine go_if_eqB 51 dX9_readRule_23 (by decide) (fun c23 => ?_) (fun c23 => ?_)
            · refine go_iconst (v := nI 0) dX9_readRule_51 (by decide) ?_
              refine go_zret dX9_readRule_52 rfl rfl (by decide) ?_
              exact ⟨rfl, rfl⟩
            · cases c23
        | true =>
          have G3 := cX9_readKind_ok κ T b τ2 l a2 H2
          have H3 := rKind_tp H2
          have J3 := rKind_2 τ2 l a2
          cases e3 : rKind τ2 l a2 with
          | mk x p =>
            obtain ⟨a3, τ3⟩ := p
            rw [e3] at G3 H3 J3
            simp only [e3] at hu
            cases x with
            | false =>
              change rRule σ l = (false, a3, τ3) at hu
              rw [hu]
              refine ⟨?_, H3, ((J3).trans J2).trans J1⟩
              refine go_start (by decide) (Nat.le_of_ble_eq_true rfl) ?_
              refine go_aload_n dX9_readRule_0 rfl ?_
              refine go_iconst (v := nI 0) dX9_readRule_1 (by decide) ?_
              refine gs_pi dX9_readRule_2 flX9_15 (gg_17 b) rfl (fun q hq => by cases hq; exact ⟨rfl, rfl⟩) ?_
              refine go_aload_n dX9_readRule_5 rfl ?_
              refine go_iconst (v := nI 0) dX9_readRule_6 (by decide) ?_
              refine gs_pi dX9_readRule_7 flX9_25 (gg_17 b) rfl (fun q hq => by cases hq; exact ⟨rfl, rfl⟩) ?_
              refine go_aload_n dX9_readRule_10 rfl ?_
              refine gs_callVi dX9_readRule_11 cvX9_readRule_43 (G1) rfl (gg_17 b) rfl rfl rfl ⟨rfl, rfl⟩ rfl ?_
              refine go_if_eqB 51 dX9_readRule_14 (by decide) (fun c14 => ?_) (fun c14 => ?_)
              · cases c14
              · refine go_aload_n dX9_readRule_17 rfl ?_
                refine go_ldcS T 2 (by decide) rfl rfl dX9_readRule_18 ?_
                refine gs_callVi dX9_readRule_20 cvX9_readRule_49 (G2) rfl (gg_17 b) rfl rfl rfl ⟨rfl, rfl⟩ rfl ?_
                refine go_if_eqB 51 dX9_readRule_23 (by decide) (fun c23 => ?_) (fun c23 => ?_)
                · cases c23
                · refine go_aload_n dX9_readRule_26 rfl ?_
                  refine gs_callVi dX9_readRule_27 cvX9_readRule_53 (G3) rfl (gg_17 b) rfl rfl rfl ⟨rfl, rfl⟩ rfl ?_
                  refine go_if_eqB 51 dX9_readRule_30 (by decide) (fun c30 => ?_) (fun c30 => ?_)
                  · refine go_iconst (v := nI 0) dX9_readRule_51 (by decide) ?_
                    refine go_zret dX9_readRule_52 rfl rfl (by decide) ?_
                    exact ⟨rfl, rfl⟩
                  · cases c30
            | true =>
              have G4 := cX9_readTests_ok κ T b τ3 l a3 H3
              have H4 := (rTs_tp 2 (t := 0) H3).1
              have J4 := (rTs_tp 2 (t := 0) H3).2
              cases e4 : rTs l 2 τ3 a3 0 with
              | mk x p =>
                obtain ⟨a4, τ4⟩ := p
                rw [e4] at G4 H4 J4
                simp only [e4] at hu
                cases x with
                | false =>
                  change rRule σ l = (false, a4, τ4) at hu
                  rw [hu]
                  refine ⟨?_, H4, (((J4).trans J3).trans J2).trans J1⟩
                  refine go_start (by decide) (Nat.le_of_ble_eq_true rfl) ?_
                  refine go_aload_n dX9_readRule_0 rfl ?_
                  refine go_iconst (v := nI 0) dX9_readRule_1 (by decide) ?_
                  refine gs_pi dX9_readRule_2 flX9_15 (gg_17 b) rfl (fun q hq => by cases hq; exact ⟨rfl, rfl⟩) ?_
                  refine go_aload_n dX9_readRule_5 rfl ?_
                  refine go_iconst (v := nI 0) dX9_readRule_6 (by decide) ?_
                  refine gs_pi dX9_readRule_7 flX9_25 (gg_17 b) rfl (fun q hq => by cases hq; exact ⟨rfl, rfl⟩) ?_
                  refine go_aload_n dX9_readRule_10 rfl ?_
                  refine gs_callVi dX9_readRule_11 cvX9_readRule_43 (G1) rfl (gg_17 b) rfl rfl rfl ⟨rfl, rfl⟩ rfl ?_
                  refine go_if_eqB 51 dX9_readRule_14 (by decide) (fun c14 => ?_) (fun c14 => ?_)
                  · cases c14
                  · refine go_aload_n dX9_readRule_17 rfl ?_
                    refine go_ldcS T 2 (by decide) rfl rfl dX9_readRule_18 ?_
                    refine gs_callVi dX9_readRule_20 cvX9_readRule_49 (G2) rfl (gg_17 b) rfl rfl rfl ⟨rfl, rfl⟩ rfl ?_
                    refine go_if_eqB 51 dX9_readRule_23 (by decide) (fun c23 => ?_) (fun c23 => ?_)
                    · cases c23
                    · refine go_aload_n dX9_readRule_26 rfl ?_
                      refine gs_callVi dX9_readRule_27 cvX9_readRule_53 (G3) rfl (gg_17 b) rfl rfl rfl ⟨rfl, rfl⟩ rfl ?_
                      refine go_if_eqB 51 dX9_readRule_30 (by decide) (fun c30 => ?_) (fun c30 => ?_)
                      · cases c30
                      · refine go_aload_n dX9_readRule_33 rfl ?_
                        refine gs_callVi dX9_readRule_34 cvX9_readRule_56 (G4) rfl (gg_17 b) rfl rfl rfl ⟨rfl, rfl⟩ rfl ?_
                        refine go_if_eqB 51 dX9_readRule_37 (by decide) (fun c37 => ?_) (fun c37 => ?_)
                        · refine go_iconst (v := nI 0) dX9_readRule_51 (by decide) ?_
                          refine go_zret dX9_readRule_52 rfl rfl (by decide) ?_
                          exact ⟨rfl, rfl⟩
                        · cases c37
                | true =>
                  change rRule σ l = (decide (l ≤ a4), a4, τ4) at hu
                  rw [hu]
                  refine ⟨?_, H4, ((J4.trans J3).trans J2).trans J1⟩
                  refine go_start (by decide) (Nat.le_of_ble_eq_true rfl) ?_
                  refine go_aload_n dX9_readRule_0 rfl ?_
                  refine go_iconst (v := nI 0) dX9_readRule_1 (by decide) ?_
                  refine gs_pi dX9_readRule_2 flX9_15 (gg_17 b) rfl (fun q hq => by cases hq; exact ⟨rfl, rfl⟩) ?_
                  refine go_aload_n dX9_readRule_5 rfl ?_
                  refine go_iconst (v := nI 0) dX9_readRule_6 (by decide) ?_
                  refine gs_pi dX9_readRule_7 flX9_25 (gg_17 b) rfl (fun q hq => by cases hq; exact ⟨rfl, rfl⟩) ?_
                  refine go_aload_n dX9_readRule_10 rfl ?_
                  refine gs_callVi dX9_readRule_11 cvX9_readRule_43 (G1) rfl (gg_17 b) rfl rfl rfl ⟨rfl, rfl⟩ rfl ?_
                  refine go_if_eqB 51 dX9_readRule_14 (by decide) (fun c14 => ?_) (fun c14 => ?_)
                  · cases c14
                  · refine go_aload_n dX9_readRule_17 rfl ?_
                    refine go_ldcS T 2 (by decide) rfl rfl dX9_readRule_18 ?_
                    refine gs_callVi dX9_readRule_20 cvX9_readRule_49 (G2) rfl (gg_17 b) rfl rfl rfl ⟨rfl, rfl⟩ rfl ?_
                    refine go_if_eqB 51 dX9_readRule_23 (by decide) (fun c23 => ?_) (fun c23 => ?_)
                    · cases c23
                    · refine go_aload_n dX9_readRule_26 rfl ?_
                      refine gs_callVi dX9_readRule_27 cvX9_readRule_53 (G3) rfl (gg_17 b) rfl rfl rfl ⟨rfl, rfl⟩ rfl ?_
                      refine go_if_eqB 51 dX9_readRule_30 (by decide) (fun c30 => ?_) (fun c30 => ?_)
                      · cases c30
                      · refine go_aload_n dX9_readRule_33 rfl ?_
                        refine gs_callVi dX9_readRule_34 cvX9_readRule_56 (G4) rfl (gg_17 b) rfl rfl rfl ⟨rfl, rfl⟩ rfl ?_
                        refine go_if_eqB 51 dX9_readRule_37 (by decide) (fun c37 => ?_) (fun c37 => ?_)
                        · cases c37
                        · refine go_aload_n dX9_readRule_40 rfl ?_
                          refine gs_callVi dX9_readRule_41 cvX9_readRule_59 (cX9_isAtEnd_ok κ b τ4 l a4 H4) rfl (gg_17 b) rfl rfl rfl ⟨rfl, rfl⟩ rfl ?_
                          refine go_if_eqB 51 dX9_readRule_44 (by decide) (fun c44 => ?_) (fun c44 => ?_)
                          · refine go_iconst (v := nI 0) dX9_readRule_51 (by decide) ?_
                            refine go_zret dX9_readRule_52 rfl rfl (by decide) ?_
                            rw [c44]
                            exact ⟨rfl, rfl⟩
                          · refine go_iconst (v := nI 1) dX9_readRule_47 (by decide) ?_
                            refine go_goto 52 dX9_readRule_48 (by decide) ?_
                            refine go_zret dX9_readRule_52 rfl rfl (by decide) ?_
                            rw [c44]
                            exact ⟨rfl, rfl⟩
def K_rule (σ : wg_S) (l r : Nat) : Int32 × wg_S := if σ 22 0 < nI 12 then (match rRule σ l with
    | (false, a, τ) => (-10 - nI a, us τ 17 0 (nI 0))
    | (true, _, τ) => (nI r, s_radd (us τ 17 0 (nI 0)) r)) else (-4, σ)
theorem TP_22 : True := trivial
/-- reading changes the tape's own cells alone -/
def kp (σ τ : wg_S) : Prop := ∀ p, p ≠ 17 → p ≠ 19 → p ≠ 20 → p ≠ 21 → τ p = σ p
theorem kp_t {σ τ υ : wg_S} (h1 : kp σ τ) (h2 : kp τ υ) : kp σ υ := fun p a b c d => (h2 p a b c d).trans (h1 p a b c d)
theorem kp_u {σ : wg_S} {q k : Nat} {v : Int32} (h : q = 17 ∨ q = 19 ∨ q = 20 ∨ q = 21) : kp σ (us σ q k v) := fun p a b c d => us_p (by rcases h with rfl | rfl | rfl | rfl <;> assumption)
theorem rWord_k (σ : wg_S) (l a k : Nat) : kp σ (rWord σ l a k).2.2 := kp_u (Or.inl rfl)
theorem rKind_k (σ : wg_S) (l a : Nat) : kp σ (rKind σ l a).2.2 := by
  unfold rKind
  split
  · exact kp_t (kp_u (Or.inl rfl)) (kp_u (Or.inl rfl))
  · split
    · exact kp_t (kp_u (Or.inl rfl)) (kp_u (Or.inl rfl))
    · exact fun _ _ _ _ _ => rfl
theorem rSign_k (σ : wg_S) (l a t : Nat) : kp σ (rSign σ l a t).2.2 := by
  unfold rSign
  split
  · exact kp_t (kp_u (Or.inr (Or.inr (Or.inl rfl)))) (kp_u (Or.inl rfl))
  · exact fun _ _ _ _ _ => rfl
theorem rNum_k (σ : wg_S) (l a t : Nat) : kp σ (rNum σ l a t).2.2 := kp_t (kp_u (Or.inl rfl)) (kp_u (Or.inr (Or.inr (Or.inr rfl))))
theorem rField_k (σ : wg_S) (l a t : Nat) : kp σ (rField σ l a t).2.2 := by
  unfold rField
  cases fx (hr σ l a) with
  | none => exact fun _ _ _ _ _ => rfl
  | some q => exact kp_t (kp_u (Or.inr (Or.inl rfl))) (rWord_k (us σ 19 t (nI q)) l a (5 + q))
theorem rTest_k (σ : wg_S) (l a t : Nat) : kp σ (rTest σ l a t).2.2 := by
  have h1 := rField_k σ l a t
  unfold rTest
  cases e1 : rField σ l a t with
  | mk x p =>
    obtain ⟨a1, τ⟩ := p
    rw [e1] at h1
    cases x with
    | false => exact h1
    | true =>
      have h2 := rSign_k τ l a1 t
      show kp σ (match rSign τ l a1 t with | (false, a2, υ) => (false, a2, υ) | (true, a2, υ) => rNum υ l a2 t).2.2
      cases e2 : rSign τ l a1 t with
      | mk y p =>
        obtain ⟨a2, υ⟩ := p
        rw [e2] at h2
        cases y with
        | false => exact kp_t h1 h2
        | true => exact kp_t (kp_t h1 h2) (rNum_k υ l a2 t)
theorem rTs_k {l : Nat} : ∀ (f : Nat) (σ : wg_S) (a t : Nat), kp σ (rTs l f σ a t).2.2
  | 0, σ, a, t => fun _ _ _ _ _ => rfl
  | f + 1, σ, a, t => by
    rw [rTs]
    by_cases hl : l ≤ a
    · rw [if_pos hl]; exact fun _ _ _ _ _ => rfl
    · rw [if_neg hl]
      have h1 := rWord_k σ l a (if t = 0 then 3 else 4)
      cases e1 : rWord σ l a (if t = 0 then 3 else 4) with
      | mk x p =>
        obtain ⟨a1, τ⟩ := p
        rw [e1] at h1
        cases x with
        | false => exact h1
        | true =>
          have h2 := rTest_k τ l a1 t
          show kp σ (match rTest τ l a1 t with | (false, a2, υ) => (false, a2, υ) | (true, a2, υ) => rTs l f (us υ 17 4 (υ 17 4 + nI 1)) a2 (t + 1)).2.2
          cases e2 : rTest τ l a1 t with
          | mk y p =>
            obtain ⟨a2, υ⟩ := p
            rw [e2] at h2
            cases y with
            | false => exact kp_t h1 h2
            | true => exact kp_t (kp_t (kp_t h1 h2) (kp_u (Or.inl rfl))) (rTs_k f (us υ 17 4 (υ 17 4 + nI 1)) a2 (t + 1))
theorem rRule_k (σ : wg_S) (l : Nat) : kp σ (rRule σ l).2.2 := by
  have h0 : kp σ (r0 σ) := kp_t (kp_u (Or.inl rfl)) (kp_u (Or.inl rfl))
  have h1 : kp (r0 σ) (rVerb (r0 σ) l 0).2.2 := kp_t (kp_u (Or.inl rfl)) (rWord_k _ _ _ _)
  unfold rRule
  cases e1 : rVerb (r0 σ) l 0 with
  | mk x p =>
    obtain ⟨a1, τ1⟩ := p
    rw [e1] at h1
    have h1 := kp_t h0 h1
    cases x with
    | false => exact h1
    | true =>
      show kp σ (match rWord τ1 l a1 2 with | (false, a, τ) => (false, a, τ) | (true, a2, τ2) => match rKind τ2 l a2 with | (false, a, τ) => (false, a, τ) | (true, a3, τ3) => match rTs l 2 τ3 a3 0 with | (false, a, τ) => (false, a, τ) | (true, a4, τ4) => (decide (l ≤ a4), a4, τ4)).2.2
      have h2 := rWord_k τ1 l a1 2
      cases e2 : rWord τ1 l a1 2 with
      | mk x p =>
        obtain ⟨a2, τ2⟩ := p
        rw [e2] at h2
        have h2 := kp_t h1 h2
        cases x with
        | false => exact h2
        | true =>
          show kp σ (match rKind τ2 l a2 with | (false, a, τ) => (false, a, τ) | (true, a3, τ3) => match rTs l 2 τ3 a3 0 with | (false, a, τ) => (false, a, τ) | (true, a4, τ4) => (decide (l ≤ a4), a4, τ4)).2.2
          have h3 := rKind_k τ2 l a2
          cases e3 : rKind τ2 l a2 with
          | mk x p =>
            obtain ⟨a3, τ3⟩ := p
            rw [e3] at h3
            have h3 := kp_t h2 h3
            cases x with
            | false => exact h3
            | true =>
              show kp σ (match rTs l 2 τ3 a3 0 with | (false, a, τ) => (false, a, τ) | (true, a4, τ4) => (decide (l ≤ a4), a4, τ4)).2.2
              have h4 := rTs_k (l := l) 2 τ3 a3 0
              cases e4 : rTs l 2 τ3 a3 0 with
              | mk x p =>
                obtain ⟨a4, τ4⟩ := p
                rw [e4] at h4
                have h4 := kp_t h3 h4
                cases x with
                | false => exact h4
                | true => exact h4
theorem cX10_rule_ok (κ : gm_K) (T : TXT κ) (b : Bool) (σ : wg_S) (n m j r : Nat) (C : CI σ n m j r) (l : Nat) (hl : σ 17 0 = nI l) (hl2 : l ≤ 120) : Fn κ mX10_rule [.ref 0] (gg b) σ (some (.int (K_rule σ l r).1)) (gg b) (K_rule σ l r).2 := by
  obtain ⟨⟨hN, hn⟩, ⟨hM, hm⟩, ⟨hJ, hj⟩, ⟨hR, hr⟩, hT⟩ := id C
  obtain ⟨hG, hO1, hO2⟩ := cX9_readRule_ok κ T b σ l hl hl2
  have hk := rRule_k σ l
  have hK : σ 22 0 < nI 12 → K_rule σ l r = match rRule σ l with | (false, a, τ) => (-10 - nI a, us τ 17 0 (nI 0)) | (true, _, τ) => (nI r, s_radd (us τ 17 0 (nI 0)) r) := fun h => if_pos h
  refine go_start (by decide) (Nat.le_of_ble_eq_true rfl) ?_
  cases e : rRule σ l with
  | mk x p =>
    obtain ⟨a, τ⟩ := p
    rw [e] at hG hO1 hO2 hk hK
    cases x with
    | false =>
      refine go_aload_n dX10_rule_0 rfl ?_
      refine gs_gr dX10_rule_1 flX10_40 (gg_0 b) rfl ?_
      refine gs_gi dX10_rule_4 flX10_176 (gg_22 b) rfl (rfl) ?_
      refine go_bipush (v := nI 12) dX10_rule_7 (by decide) ?_
      refine go_icmp_lt 15 dX10_rule_9 (by decide) (fun c9 => ?_) (fun c9 => ?_)
      · refine go_aload_n dX10_rule_15 rfl ?_
        refine gs_gr dX10_rule_16 flX10_33 (gg_0 b) rfl ?_
        refine gs_callVi dX10_rule_19 cvX10_rule_177 (hG) rfl (gg_17 b) rfl rfl rfl ⟨rfl, rfl⟩ rfl ?_
        refine go_istore_n (lv' := [_, _]) dX10_rule_22 rfl rfl rfl ?_
        refine go_aload_n dX10_rule_23 rfl ?_
        refine gs_gr dX10_rule_24 flX10_33 (gg_0 b) rfl ?_
        refine go_iconst (v := nI 0) dX10_rule_27 (by decide) ?_
        refine gs_pi dX10_rule_28 flX10_169 (gg_17 b) rfl (fun q hq => by cases hq; exact ⟨rfl, rfl⟩) ?_
        refine go_iload_n dX10_rule_31 rfl ?_
        refine go_if_eqB 49 dX10_rule_32 (by decide) (fun c32 => ?_) (fun c32 => ?_)
        · refine go_bipush (v := -10) dX10_rule_49 (by decide) ?_
          refine go_aload_n dX10_rule_51 rfl ?_
          refine gs_gr dX10_rule_52 flX10_33 (gg_0 b) rfl ?_
          refine gs_gi dX10_rule_55 flX10_184 (gg_17 b) rfl (show _ = nI a by rw [us_k (by decide)]; exact hO1.2.1) ?_
          refine go_isub dX10_rule_58 ?_
          refine go_iret dX10_rule_59 rfl rfl ?_
          rw [hK c9]
          exact ⟨rfl, rfl⟩
        · cases c32
      · refine go_bipush (v := -4) dX10_rule_12 (by decide) ?_
        refine go_iret dX10_rule_14 rfl rfl ?_
        rw [K_rule, if_neg c9]
        exact ⟨rfl, rfl⟩
    | true =>
      refine go_aload_n dX10_rule_0 rfl ?_
      refine gs_gr dX10_rule_1 flX10_40 (gg_0 b) rfl ?_
      refine gs_gi dX10_rule_4 flX10_176 (gg_22 b) rfl (rfl) ?_
      refine go_bipush (v := nI 12) dX10_rule_7 (by decide) ?_
      refine go_icmp_lt 15 dX10_rule_9 (by decide) (fun c9 => ?_) (fun c9 => ?_)
      · have hlt : r < 12 := by rw [hR] at c9; exact (nI_ltI (by omega) (by decide)).mp c9
        refine go_aload_n dX10_rule_15 rfl ?_
        refine gs_gr dX10_rule_16 flX10_33 (gg_0 b) rfl ?_
        refine gs_callVi dX10_rule_19 cvX10_rule_177 (hG) rfl (gg_17 b) rfl rfl rfl ⟨rfl, rfl⟩ rfl ?_
        refine go_istore_n (lv' := [_, _]) dX10_rule_22 rfl rfl rfl ?_
        refine go_aload_n dX10_rule_23 rfl ?_
        refine gs_gr dX10_rule_24 flX10_33 (gg_0 b) rfl ?_
        refine go_iconst (v := nI 0) dX10_rule_27 (by decide) ?_
        refine gs_pi dX10_rule_28 flX10_169 (gg_17 b) rfl (fun q hq => by cases hq; exact ⟨rfl, rfl⟩) ?_
        refine go_iload_n dX10_rule_31 rfl ?_
        refine go_if_eqB 49 dX10_rule_32 (by decide) (fun c32 => ?_) (fun c32 => ?_)
        · cases c32
        · refine go_aload_n dX10_rule_35 rfl ?_
          refine gs_gr dX10_rule_36 flX10_40 (gg_0 b) rfl ?_
          refine go_aload_n dX10_rule_39 rfl ?_
          refine gs_gr dX10_rule_40 flX10_33 (gg_0 b) rfl ?_
          refine gs_callVi dX10_rule_43 cvX10_rule_181 (cX6_add_ok κ b (us τ 17 0 (nI 0)) r hlt (by rw [us_p (by decide), show τ 22 = σ 22 from hk 22 (by decide) (by decide) (by decide) (by decide)]; exact hR) _ (hO2.symm.trans (us_k (by decide)).symm)) rfl (gg_22 b) rfl rfl rfl ⟨rfl, rfl⟩ rfl ?_
          refine go_goto 59 dX10_rule_46 (by decide) ?_
          refine go_iret dX10_rule_59 rfl rfl ?_
          rw [hK c9]
          exact ⟨rfl, rfl⟩
      · refine go_bipush (v := -4) dX10_rule_12 (by decide) ?_
        refine go_iret dX10_rule_14 rfl rfl ?_
        rw [K_rule, if_neg c9]
        exact ⟨rfl, rfl⟩
