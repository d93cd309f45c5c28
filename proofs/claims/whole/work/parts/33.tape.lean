def hr (σ : wg_S) (l a : Nat) : Int32 := if a < l then σ 18 a else -1
def s_at (σ : wg_S) (x : Nat) : wg_S := us σ 17 1 (nI x)
theorem hr_lt {σ : wg_S} {l a c : Nat} (hc : c < 2 ^ 31) (h : hr σ l a = nI c) : a < l := by
  unfold hr at h
  by_cases h1 : a < l
  · exact h1
  · rw [if_neg h1] at h; exact absurd h.symm (nI_m1 hc)
theorem hr_of {σ τ : wg_S} (h : τ 18 = σ 18) (l a : Nat) : hr τ l a = hr σ l a := by rw [hr, hr, h]
theorem s_at_p {σ : wg_S} {x p : Nat} (h : p ≠ 17) : s_at σ x p = σ p := us_p h
theorem s_at_k {σ : wg_S} {x k : Nat} (h : k ≠ 1) : s_at σ x 17 k = σ 17 k := us_k h
theorem s_at_1 {σ : wg_S} {x : Nat} : s_at σ x 17 1 = nI x := us_s
theorem s_at_s {σ : wg_S} {x y : Nat} : s_at (s_at σ x) y = s_at σ y := us_us
theorem s_at_id {σ : wg_S} {x : Nat} (h : σ 17 1 = nI x) : s_at σ x = σ := us_id h
/-- the tape is l long, the reader stands at a -/
def TP (σ : wg_S) (l a : Nat) : Prop := σ 17 0 = nI l ∧ σ 17 1 = nI a ∧ l ≤ 120 ∧ a ≤ l
theorem cX9_here_ok (κ : gm_K) (b : Bool) (σ : wg_S) (l a : Nat) (hT : TP σ l a) : Fn κ mX9_here [.ref 17] (gg b) σ (some (.int (hr σ l a))) (gg b) σ := by
  refine go_start (by decide) (Nat.le_of_ble_eq_true rfl) ?_
  obtain ⟨hl, ha, hl2, ha2⟩ := id hT
  refine go_aload_n dX9_here_0 rfl ?_
  refine gs_gi dX9_here_1 flX9_15 (gg_17 b) rfl (ha) ?_
  refine go_if_ltN 39 dX9_here_4 (by decide) (by omega) ?_
  refine go_aload_n dX9_here_7 rfl ?_
  refine gs_gi dX9_here_8 flX9_15 (gg_17 b) rfl (ha) ?_
  refine go_aload_n dX9_here_11 rfl ?_
  refine gs_gi dX9_here_12 flX9_9 (gg_17 b) rfl (hl) ?_
  refine go_icmp_geN 39 dX9_here_15 (by decide) (by omega) (by omega) (fun c15 => ?_) (fun c15 => ?_)
  · refine go_iconst (v := -1) dX9_here_39 (by decide) ?_
    refine go_iret dX9_here_40 rfl rfl ?_
    exact ⟨by rw [hr, if_neg (by omega)], rfl⟩
  · refine go_aload_n dX9_here_18 rfl ?_
    refine gs_gi dX9_here_19 flX9_15 (gg_17 b) rfl (ha) ?_
    refine go_bipush (v := nI 120) dX9_here_22 (by decide) ?_
    refine go_icmp_geN 39 dX9_here_24 (by decide) (by omega) (by omega) (fun c24 => ?_) (fun c24 => ?_)
    · exact absurd c24 (by omega)
    · refine go_aload_n dX9_here_27 rfl ?_
      refine gs_gr dX9_here_28 flX9_28 (gg_17 b) rfl ?_
      refine go_aload_n dX9_here_31 rfl ?_
      refine gs_gi dX9_here_32 flX9_15 (gg_17 b) rfl (ha) ?_
      refine gs_iald (_) dX9_here_35 (gg_18 b) (rfl) (by omega) rfl (rfl) ?_
      refine go_goto 40 dX9_here_36 (by decide) ?_
      refine go_iret dX9_here_40 rfl rfl ?_
      exact ⟨by rw [hr, if_pos c15], rfl⟩
theorem cX9_isAtEnd_ok (κ : gm_K) (b : Bool) (σ : wg_S) (l a : Nat) (hT : TP σ l a) : Fn κ mX9_isAtEnd [.ref 17] (gg b) σ (some (.int (bi (decide (l ≤ a))))) (gg b) σ := by
  refine go_start (by decide) (Nat.le_of_ble_eq_true rfl) ?_
  obtain ⟨hl, ha, hl2, ha2⟩ := id hT
  refine go_aload_n dX9_isAtEnd_0 rfl ?_
  refine gs_gi dX9_isAtEnd_1 flX9_15 (gg_17 b) rfl (ha) ?_
  refine go_aload_n dX9_isAtEnd_4 rfl ?_
  refine gs_gi dX9_isAtEnd_5 flX9_9 (gg_17 b) rfl (hl) ?_
  refine go_icmp_ltN 15 dX9_isAtEnd_8 (by decide) (by omega) (by omega) (fun c8 => ?_) (fun c8 => ?_)
  · refine go_iconst (v := nI 0) dX9_isAtEnd_15 (by decide) ?_
    refine go_zret dX9_isAtEnd_16 rfl rfl (by decide) ?_
    exact ⟨by rw [decide_eq_false (by omega)]; rfl, rfl⟩
  · refine go_iconst (v := nI 1) dX9_isAtEnd_11 (by decide) ?_
    refine go_goto 16 dX9_isAtEnd_12 (by decide) ?_
    refine go_zret dX9_isAtEnd_16 rfl rfl (by decide) ?_
    exact ⟨by rw [decide_eq_true c8]; rfl, rfl⟩
def pm (f : Nat → Int32) (k a i : Nat) : Bool := !decide (f (a + i) = nI (tc k i))
/-- a word is read: whether it is there, and where the reader stands behind it -/
def pw (f : Nat → Int32) (k a : Nat) : Bool × Nat := match fnd (pm f k a) (tl k) with
  | none => (true, a + tl k)
  | some i => (false, a + i)
theorem tc_s : ∀ k, k < 10 → ∀ i, i < tl k → tc k i < 128 := by decide +kernel
theorem tl_1 : ∀ k, k < 10 → 0 < tl k ∧ tl k ≤ 5 := by decide +kernel
theorem pm_le {σ : wg_S} {l k a : Nat} (hk : k < 10) (ha : a ≤ l) : ∀ i, i ≤ tl k → fnd (pm (hr σ l) k a) i = none → a + i ≤ l
  | 0, _, _ => ha
  | i + 1, hi, h => by
    rw [show fnd (pm (hr σ l) k a) (i + 1) = match fnd (pm (hr σ l) k a) i with | some x => some x | none => if pm (hr σ l) k a i then some i else none from rfl] at h
    cases e : fnd (pm (hr σ l) k a) i with
    | some x => rw [e] at h; cases h
    | none =>
      rw [e] at h
      by_cases hp : pm (hr σ l) k a i = true
      · simp [hp] at h
      · have h1 : hr σ l (a + i) = nI (tc k i) := by simpa [pm] using hp
        have := hr_lt (by have := tc_s k hk i (by omega); omega) h1
        omega
theorem fnd_pre {f : Nat → Bool} {x : Nat} : ∀ {n : Nat}, fnd f n = some x → fnd f x = none
  | 0, h => by simp [fnd] at h
  | n + 1, h => by
    rw [show fnd f (n + 1) = match fnd f n with | some x => some x | none => if f n then some n else none from rfl] at h
    cases e : fnd f n with
    | some y => rw [e] at h; cases h; exact fnd_pre e
    | none =>
      rw [e] at h
      by_cases hp : f n = true
      · simp [hp] at h; subst h; exact e
      · simp [hp] at h
theorem pw_le {σ : wg_S} {l k a : Nat} (hk : k < 10) (ha : a ≤ l) : (pw (hr σ l) k a).2 ≤ l := by
  unfold pw
  cases e : fnd (pm (hr σ l) k a) (tl k) with
  | none => exact pm_le hk ha _ (Nat.le_refl _) e
  | some i => exact pm_le hk ha i (by have := (fnd_lt e).1; omega) (fnd_pre e)
def rWord (σ : wg_S) (l a k : Nat) : Bool × Nat × wg_S := ((pw (hr σ l) k a).1, (pw (hr σ l) k a).2, s_at σ (pw (hr σ l) k a).2)
theorem rWord_tp {σ : wg_S} {l a k : Nat} (hk : k < 10) (hT : TP σ l a) : TP (rWord σ l a k).2.2 l (rWord σ l a k).2.1 := ⟨(show s_at σ (pw (hr σ l) k a).2 17 0 = nI l from (s_at_k (by decide)).trans hT.1), (show s_at σ (pw (hr σ l) k a).2 17 1 = nI (pw (hr σ l) k a).2 from s_at_1), hT.2.2.1, pw_le hk hT.2.2.2⟩
theorem go_strI {κ : gm_K} {μ : gm_M} {pc : Nat} {lv : List (Option Value)} {st : List Value} {h : gm_H} {n : Nat × Nat} {Φ : Option Value → gm_H → Prop} {μ' : gm_M} {idx k b : Nat} {As stk : List Value} {x : Int32} (T : TXT κ) (hb : b < 10) (hd : decode μ.2.1 pc = .ok (.invokevirtual idx, 3)) (hw : gm_CV μ μ' idx k) (hc : μ'.1.cls = "java/lang/String") (hC : Fh κ μ' (.retAddr b :: As) h (some (.int x))) (hst : stk = As.reverse ++ .retAddr b :: st) (hk : As.length = k) (hs : Nat.ble ((st.map fun v => v.category).sum) 8 = true) (h0 : μ'.2.2.2.2.cells = 0 ∧ μ'.2.2.2.2.slots = 0) (hn : (Nat.ble n.1 μ.2.2.2.2.cells && Nat.ble n.2 μ.2.2.2.2.slots) = true) (kk : Go κ μ (pc + 3) lv (.int x :: st) h n Φ) : Go κ μ pc lv stk h n Φ := by
  obtain ⟨v, -, hv⟩ := T
  exact go_callVO hd hw hC hst (by rw [hc]; exact tx_O hb hv) hk hs (by rw [h0.1, h0.2]; exact hn) (fun r h' hq => by obtain ⟨rfl, rfl⟩ := hq; rw [h0.1, h0.2]; exact kk)
theorem cX9_readWord_ok (κ : gm_K) (T : TXT κ) (b : Bool) (σ : wg_S) (l a : Nat) (hT : TP σ l a) (k : Nat) (hk : k < 10) : Fn κ mX9_readWord [.ref 17, .retAddr k] (gg b) σ (some (.int (bi (rWord σ l a k).1))) (gg b) (rWord σ l a k).2.2 := by
  obtain ⟨hl, ha, hl2, ha2⟩ := id hT
  have htl := tl_1 k hk
  refine go_start (by decide) (Nat.le_of_ble_eq_true rfl) ?_
  have loop : ∀ (i : Nat), i ≤ tl k → fnd (pm (hr σ l) k a) i = none → Go κ mX9_readWord 2 [some (.ref 17), some (.retAddr k), some (.int (nI i))] [] (wd (gg b) (s_at σ (a + i))) (0, 0) (fun z h' => z = some (.int (bi (rWord σ l a k).1)) ∧ h' = wd (gg b) (rWord σ l a k).2.2) := by
    refine lo_up (tl k) (fun i hi ih hf => ?_)
    have hle := pm_le hk ha2 i hi hf
    have hT' : TP (s_at σ (a + i)) l (a + i) := ⟨by rw [s_at_k (by decide)]; exact hl, s_at_1, hl2, hle⟩
    refine go_iload_n dX9_readWord_2 rfl ?_
    refine go_aload_o dX9_readWord_3 rfl ?_
    refine go_strI T hk dX9_readWord_4 cvX9_readWord_101 rfl (cJ0_length_ok T hk) rfl rfl rfl ⟨rfl, rfl⟩ rfl ?_
    refine go_icmp_geN 40 dX9_readWord_7 (by decide) (by omega) (by omega) (fun c7 => ?_) (fun c7 => ?_)
    · refine go_iconst (v := nI 1) dX9_readWord_40 (by decide) ?_
      refine go_zret dX9_readWord_41 rfl rfl (by decide) ?_
      have e : i = tl k := by omega
      subst e
      rw [rWord, pw, hf]
      exact ⟨rfl, rfl⟩
    · refine go_aload_n dX9_readWord_10 rfl ?_
      refine gs_callVi dX9_readWord_11 cvX9_readWord_62 (cX9_here_ok κ b _ l (a + i) hT') rfl (gg_17 b) rfl rfl rfl ⟨rfl, rfl⟩ rfl ?_
      refine go_aload_o dX9_readWord_14 rfl ?_
      refine go_iload_n dX9_readWord_15 rfl ?_
      refine go_strI T hk dX9_readWord_16 cvX9_readWord_105 rfl (cJ0_charAt_ok T hk c7) rfl rfl rfl ⟨rfl, rfl⟩ rfl ?_
      rw [hr_of (s_at_p (by decide))]
      refine go_icmp_eq 24 dX9_readWord_19 (by decide) (fun c19 => ?_) (fun c19 => ?_)
      · refine go_aload_n dX9_readWord_24 rfl ?_
        refine go_dup dX9_readWord_25 rfl ?_
        refine gs_gi dX9_readWord_26 flX9_15 (gg_17 b) rfl s_at_1 ?_
        refine go_iconst (v := nI 1) dX9_readWord_29 (by decide) ?_
        refine go_iaddN dX9_readWord_30 ?_
        refine gs_pi dX9_readWord_31 flX9_15 (gg_17 b) rfl (fun q hq => by cases hq; exact ⟨rfl, rfl⟩) ?_
        refine go_iincN (lv' := [_, _, _]) 1 dX9_readWord_34 (by decide) rfl rfl rfl rfl ?_
        refine go_goto 2 dX9_readWord_37 (by decide) ?_
        exact go_wkh (by exact ⟨rfl, rfl, rfl, trivial⟩) (congrArg (wd (gg b)) (show s_at (s_at σ (a + i)) (a + i + 1) = s_at σ (a + (i + 1)) by rw [s_at_s]; rfl)) (ih c7 (by simp [fnd, hf, pm, c19]))
      · refine go_iconst (v := nI 0) dX9_readWord_22 (by decide) ?_
        refine go_zret dX9_readWord_23 rfl rfl (by decide) ?_
        rw [rWord, pw, fnd_hit hf (by simp [pm, c19]) _ c7]
        exact ⟨rfl, rfl⟩
  refine go_iconst (v := nI 0) dX9_readWord_0 (by decide) ?_
  refine go_istore_n (lv' := [_, _, _]) dX9_readWord_1 rfl rfl rfl ?_
  exact go_wkh (by exact ⟨rfl, rfl, rfl, trivial⟩) (congrArg (wd (gg b)) (s_at_id ha).symm) (loop 0 (Nat.zero_le _) rfl)
def rVerb (σ : wg_S) (l a : Nat) : Bool × Nat × wg_S := rWord (us σ 17 2 (bi (decide (hr σ l a = nI 98)))) l a (if decide (hr σ l a = nI 98) then 0 else 1)
theorem TP_of {σ τ : wg_S} {l a : Nat} (h0 : τ 17 0 = σ 17 0) (h1 : τ 17 1 = σ 17 1) (hT : TP σ l a) : TP τ l a := ⟨h0.trans hT.1, h1.trans hT.2.1, hT.2.2⟩
def rKind (σ : wg_S) (l a : Nat) : Bool × Nat × wg_S := if hr σ l a = nI 42 then (true, a + 1, s_at (us σ 17 3 (-1)) (a + 1)) else if wi (hr σ l a) (nI 48) (nI 53) = true then (true, a + 1, s_at (us σ 17 3 (hr σ l a - nI 48)) (a + 1)) else (false, a, σ)
def rSign (σ : wg_S) (l a t : Nat) : Bool × Nat × wg_S := if hr σ l a = nI 61 ∨ hr σ l a = nI 60 ∨ hr σ l a = nI 62 then (true, a + 1, s_at (us σ 20 t (hr σ l a)) (a + 1)) else (false, a, σ)
def dg (f : Nat → Int32) (a d : Nat) : Bool := wi (f (a + d)) (nI 48) (nI 57)
def nv (f : Nat → Int32) (a : Nat) : Nat → Int32
  | 0 => nI 0
  | d + 1 => nv f a d * nI 10 + f (a + d) - nI 48
def nd (f : Nat → Int32) (a : Nat) : Nat := (fnd (fun d => !dg f a d) 3).getD 3
def rNum (σ : wg_S) (l a t : Nat) : Bool × Nat × wg_S := (decide (0 < nd (hr σ l) a), a + nd (hr σ l) a, us (s_at σ (a + nd (hr σ l) a)) 21 t (nv (hr σ l) a (nd (hr σ l) a)))
def fx (x : Int32) : Option Nat := if x = nI 109 then some 0 else if x = nI 104 then some 1 else if x = nI 116 then some 2 else if x = nI 115 then some 3 else if x = nI 100 then some 4 else none
def rField (σ : wg_S) (l a t : Nat) : Bool × Nat × wg_S := match fx (hr σ l a) with
  | none => (false, a, σ)
  | some q => rWord (us σ 19 t (nI q)) l a (5 + q)
theorem wi_lt {σ : wg_S} {l a x y : Nat} (hx : x < 2 ^ 30) (hy : y < 2 ^ 30) (h : wi (hr σ l a) (nI x) (nI y) = true) : a < l := by
  obtain ⟨z, h1, h2, h3⟩ := wi_ix hx hy h
  exact hr_lt (by omega) h3
theorem rKind_tp {σ : wg_S} {l a : Nat} (hT : TP σ l a) : TP (rKind σ l a).2.2 l (rKind σ l a).2.1 := by
  unfold rKind
  by_cases h1 : hr σ l a = nI 42
  · rw [if_pos h1]
    have := hr_lt (by decide) h1
    exact ⟨(show s_at (us σ 17 3 (-1)) (a + 1) 17 0 = nI l from ((s_at_k (by decide)).trans (us_k (by decide))).trans hT.1), s_at_1 (σ := us σ 17 3 (-1)), hT.2.2.1, this⟩
  · rw [if_neg h1]
    by_cases h2 : wi (hr σ l a) (nI 48) (nI 53) = true
    · rw [if_pos h2]
      have := wi_lt (by decide) (by decide) h2
      exact ⟨(show s_at (us σ 17 3 (hr σ l a - nI 48)) (a + 1) 17 0 = nI l from ((s_at_k (by decide)).trans (us_k (by decide))).trans hT.1), s_at_1 (σ := us σ 17 3 (hr σ l a - nI 48)), hT.2.2.1, this⟩
    · rw [if_neg h2]; exact hT
theorem rSign_tp {σ : wg_S} {l a t : Nat} (hT : TP σ l a) : TP (rSign σ l a t).2.2 l (rSign σ l a t).2.1 := by
  unfold rSign
  by_cases h1 : hr σ l a = nI 61 ∨ hr σ l a = nI 60 ∨ hr σ l a = nI 62
  · rw [if_pos h1]
    have : a < l := by rcases h1 with h | h | h <;> exact hr_lt (by decide) h
    exact ⟨(show s_at (us σ 20 t (hr σ l a)) (a + 1) 17 0 = nI l from ((s_at_k (by decide)).trans (congrFun (us_p (by decide)) 0)).trans hT.1), s_at_1 (σ := us σ 20 t (hr σ l a)), hT.2.2.1, this⟩
  · rw [if_neg h1]; exact hT
theorem nd_le {σ : wg_S} {l a : Nat} (ha : a ≤ l) : ∀ i, fnd (fun d => !dg (hr σ l) a d) i = none → a + i ≤ l
  | 0, _ => ha
  | i + 1, h => by
    rw [show fnd (fun d => !dg (hr σ l) a d) (i + 1) = match fnd (fun d => !dg (hr σ l) a d) i with | some x => some x | none => if (!dg (hr σ l) a i) = true then some i else none from rfl] at h
    cases e : fnd (fun d => !dg (hr σ l) a d) i with
    | some x => rw [e] at h; cases h
    | none =>
      rw [e] at h
      by_cases hp : dg (hr σ l) a i = true
      · have := wi_lt (by decide) (by decide) hp
        omega
      · simp [hp] at h
theorem rNum_tp {σ : wg_S} {l a t : Nat} (hT : TP σ l a) : TP (rNum σ l a t).2.2 l (rNum σ l a t).2.1 := by
  have hle : a + nd (hr σ l) a ≤ l := by
    unfold nd
    cases e : fnd (fun d => !dg (hr σ l) a d) 3 with
    | none => exact nd_le hT.2.2.2 3 e
    | some x => exact nd_le hT.2.2.2 x (fnd_pre e)
  exact ⟨(show us (s_at σ (a + nd (hr σ l) a)) 21 t (nv (hr σ l) a (nd (hr σ l) a)) 17 0 = nI l from ((congrFun (us_p (by decide)) 0).trans (s_at_k (by decide))).trans hT.1), (show us (s_at σ (a + nd (hr σ l) a)) 21 t (nv (hr σ l) a (nd (hr σ l) a)) 17 1 = nI (a + nd (hr σ l) a) from (congrFun (us_p (by decide)) 1).trans s_at_1), hT.2.2.1, hle⟩
theorem fx_lt {x : Int32} {q : Nat} (h : fx x = some q) : q < 5 := by
  unfold fx at h
  repeat' split at h
  all_goals (cases h; try decide)
theorem rField_tp {σ : wg_S} {l a t : Nat} (hT : TP σ l a) : TP (rField σ l a t).2.2 l (rField σ l a t).2.1 := by
  unfold rField
  cases e : fx (hr σ l a) with
  | none => exact hT
  | some q =>
    have := fx_lt e
    exact rWord_tp (by omega) (TP_of (congrFun (us_p (by decide)) 0) (congrFun (us_p (by decide)) 1) hT)
theorem cX9_readVerb_ok (κ : gm_K) (T : TXT κ) (b : Bool) (σ : wg_S) (l a : Nat) (hT : TP σ l a) : Fn κ mX9_readVerb [.ref 17] (gg b) σ (some (.int (bi (rVerb σ l a).1))) (gg b) (rVerb σ l a).2.2 := by
  refine go_start (by decide) (Nat.le_of_ble_eq_true rfl) ?_
  refine go_aload_n dX9_readVerb_0 rfl ?_
  refine go_aload_n dX9_readVerb_1 rfl ?_
  refine gs_callVi dX9_readVerb_2 cvX9_readVerb_62 (cX9_here_ok κ b σ l a hT) rfl (gg_17 b) rfl rfl rfl ⟨rfl, rfl⟩ rfl ?_
  refine go_bipush (v := nI 98) dX9_readVerb_5 (by decide) ?_
  refine go_icmp_ne 14 dX9_readVerb_7 (by decide) (fun c7 => ?_) (fun c7 => ?_)
  · have hx : decide (hr σ l a = nI 98) = false := decide_eq_false c7
    refine go_iconst (v := nI 0) dX9_readVerb_14 (by decide) ?_
    refine gs_pz dX9_readVerb_15 flX9_18 (gg_17 b) rfl (fun q hq => by cases hq; exact ⟨rfl, rfl⟩) (by decide) (by decide) ?_
    refine go_aload_n dX9_readVerb_18 rfl ?_
    refine go_aload_n dX9_readVerb_19 rfl ?_
    refine gs_gi dX9_readVerb_20 flX9_18 (gg_17 b) rfl us_s ?_
    refine go_if_eq 31 dX9_readVerb_23 (by decide) (fun _ => ?_) (fun z => absurd (by decide) z)
    refine go_ldcS T 1 (by decide) rfl rfl dX9_readVerb_31 ?_
    refine gs_callVi dX9_readVerb_33 cvX9_readVerb_49 (cX9_readWord_ok κ T b _ l a (TP_of (us_k (by decide)) (us_k (by decide)) hT) 1 (by decide)) rfl (gg_17 b) rfl rfl rfl ⟨rfl, rfl⟩ rfl ?_
    refine go_zret dX9_readVerb_36 rfl rfl (bi_nar _) ?_
    rw [rVerb, hx]
    exact ⟨rfl, rfl⟩
  · have hx : decide (hr σ l a = nI 98) = true := decide_eq_true c7
    refine go_iconst (v := nI 1) dX9_readVerb_10 (by decide) ?_
    refine go_goto 15 dX9_readVerb_11 (by decide) ?_
    refine gs_pz dX9_readVerb_15 flX9_18 (gg_17 b) rfl (fun q hq => by cases hq; exact ⟨rfl, rfl⟩) (by decide) (by decide) ?_
    refine go_aload_n dX9_readVerb_18 rfl ?_
    refine go_aload_n dX9_readVerb_19 rfl ?_
    refine gs_gi dX9_readVerb_20 flX9_18 (gg_17 b) rfl us_s ?_
    refine go_if_eq 31 dX9_readVerb_23 (by decide) (fun z => absurd z (by decide)) (fun _ => ?_)
    refine go_ldcS T 0 (by decide) rfl rfl dX9_readVerb_26 ?_
    refine go_goto 33 dX9_readVerb_28 (by decide) ?_
    refine gs_callVi dX9_readVerb_33 cvX9_readVerb_49 (cX9_readWord_ok κ T b _ l a (TP_of (us_k (by decide)) (us_k (by decide)) hT) 0 (by decide)) rfl (gg_17 b) rfl rfl rfl ⟨rfl, rfl⟩ rfl ?_
    refine go_zret dX9_readVerb_36 rfl rfl (bi_nar _) ?_
    rw [rVerb, hx]
    exact ⟨rfl, rfl⟩
theorem rVerb_tp {σ : wg_S} {l a : Nat} (hT : TP σ l a) : TP (rVerb σ l a).2.2 l (rVerb σ l a).2.1 := by
  unfold rVerb
  refine rWord_tp ?_ (TP_of (us_k (by decide)) (us_k (by decide)) hT)
  split <;> decide
theorem cX9_readKind_ok (κ : gm_K) (T : TXT κ) (b : Bool) (σ : wg_S) (l a : Nat) (hT : TP σ l a) : Fn κ mX9_readKind [.ref 17] (gg b) σ (some (.int (bi (rKind σ l a).1))) (gg b) (rKind σ l a).2.2 := by
  refine go_start (by decide) (Nat.le_of_ble_eq_true rfl) ?_
  obtain ⟨hl, ha, hl2, ha2⟩ := id hT
  refine go_aload_n dX9_readKind_0 rfl ?_
  refine gs_callVi dX9_readKind_1 cvX9_readKind_62 (cX9_here_ok κ b σ l a hT) rfl (gg_17 b) rfl rfl rfl ⟨rfl, rfl⟩ rfl ?_
  refine go_istore_n (lv' := [_, _]) dX9_readKind_4 rfl rfl rfl ?_
  refine go_iload_n dX9_readKind_5 rfl ?_
  refine go_bipush (v := nI 42) dX9_readKind_6 (by decide) ?_
  refine go_icmp_eq 24 dX9_readKind_8 (by decide) (fun c8 => ?_) (fun c8 => ?_)
  · refine go_aload_n dX9_readKind_24 rfl ?_
    refine go_iload_n dX9_readKind_25 rfl ?_
    refine go_bipush (v := nI 42) dX9_readKind_26 (by decide) ?_
    refine go_icmp_ne 35 dX9_readKind_28 (by decide) (fun c28 => ?_) (fun c28 => ?_)
    · exact absurd c8 c28
    · skip
      refine go_iconst (v := -1) dX9_readKind_31 (by decide) ?_
      refine go_goto 39 dX9_readKind_32 (by decide) ?_
      refine gs_pi dX9_readKind_39 flX9_22 (gg_17 b) rfl (fun q hq => by cases hq; exact ⟨rfl, rfl⟩) ?_
      refine go_aload_n dX9_readKind_42 rfl ?_
      refine go_dup dX9_readKind_43 rfl ?_
      refine gs_gi dX9_readKind_44 flX9_15 (gg_17 b) rfl (show _ = nI a by rw [us_k (by decide)]; exact ha) ?_
      refine go_iconst (v := nI 1) dX9_readKind_47 (by decide) ?_
      refine go_iaddN dX9_readKind_48 ?_
      refine gs_pi dX9_readKind_49 flX9_15 (gg_17 b) rfl (fun q hq => by cases hq; exact ⟨rfl, rfl⟩) ?_
      refine go_iconst (v := nI 1) dX9_readKind_52 (by decide) ?_
      refine go_zret dX9_readKind_53 rfl rfl (by decide) ?_
      rw [rKind, if_pos c8]; exact ⟨rfl, rfl⟩
  · refine go_iload_n dX9_readKind_11 rfl ?_
    refine go_bipush (v := nI 48) dX9_readKind_12 (by decide) ?_
    refine go_bipush (v := nI 53) dX9_readKind_14 (by decide) ?_
    refine gs_callSNi dX9_readKind_16 cnX9_readKind_70 (cX10_isWithin_ok κ b σ _ _ _) rfl rfl rfl ⟨rfl, rfl⟩ rfl ?_
    refine go_if_neB 24 dX9_readKind_19 (by decide) (fun c19 => ?_) (fun c19 => ?_)
    · refine go_aload_n dX9_readKind_24 rfl ?_
      refine go_iload_n dX9_readKind_25 rfl ?_
      refine go_bipush (v := nI 42) dX9_readKind_26 (by decide) ?_
      refine go_icmp_ne 35 dX9_readKind_28 (by decide) (fun c28 => ?_) (fun c28 => ?_)
      · skip
        refine go_iload_n dX9_readKind_35 rfl ?_
        refine go_bipush (v := nI 48) dX9_readKind_36 (by decide) ?_
        refine go_isub dX9_readKind_38 ?_
        refine gs_pi dX9_readKind_39 flX9_22 (gg_17 b) rfl (fun q hq => by cases hq; exact ⟨rfl, rfl⟩) ?_
        refine go_aload_n dX9_readKind_42 rfl ?_
        refine go_dup dX9_readKind_43 rfl ?_
        refine gs_gi dX9_readKind_44 flX9_15 (gg_17 b) rfl (show _ = nI a by rw [us_k (by decide)]; exact ha) ?_
        refine go_iconst (v := nI 1) dX9_readKind_47 (by decide) ?_
        refine go_iaddN dX9_readKind_48 ?_
        refine gs_pi dX9_readKind_49 flX9_15 (gg_17 b) rfl (fun q hq => by cases hq; exact ⟨rfl, rfl⟩) ?_
        refine go_iconst (v := nI 1) dX9_readKind_52 (by decide) ?_
        refine go_zret dX9_readKind_53 rfl rfl (by decide) ?_
        rw [rKind, if_neg c8, if_pos c19]; exact ⟨rfl, rfl⟩
      · exact absurd c28 c8
    · refine go_iconst (v := nI 0) dX9_readKind_22 (by decide) ?_
      refine go_zret dX9_readKind_23 rfl rfl (by decide) ?_
      rw [rKind, if_neg c8, if_neg (by simp [c19])]
      exact ⟨rfl, rfl⟩
theorem cX9_readSign_ok (κ : gm_K) (T : TXT κ) (b : Bool) (σ : wg_S) (l a : Nat) (hT : TP σ l a) (t : Nat) (ht : t < 2) : Fn κ mX9_readSign [.ref 17, .int (nI t)] (gg b) σ (some (.int (bi (rSign σ l a t).1))) (gg b) (rSign σ l a t).2.2 := by
  refine go_start (by decide) (Nat.le_of_ble_eq_true rfl) ?_
  obtain ⟨hl, ha, hl2, ha2⟩ := id hT
  refine go_aload_n dX9_readSign_0 rfl ?_
  refine gs_callVi dX9_readSign_1 cvX9_readSign_62 (cX9_here_ok κ b σ l a hT) rfl (gg_17 b) rfl rfl rfl ⟨rfl, rfl⟩ rfl ?_
  refine go_istore_n (lv' := [_, _, _]) dX9_readSign_4 rfl rfl rfl ?_
  refine go_iload_n dX9_readSign_5 rfl ?_
  refine go_bipush (v := nI 61) dX9_readSign_6 (by decide) ?_
  refine go_icmp_eq 25 dX9_readSign_8 (by decide) (fun c8 => ?_) (fun c8 => ?_)
  · refine go_aload_n dX9_readSign_25 rfl ?_
    refine gs_gr dX9_readSign_26 flX9_35 (gg_17 b) rfl ?_
    refine go_iload_n dX9_readSign_29 rfl ?_
    refine go_iload_n dX9_readSign_30 rfl ?_
    refine gs_iast (_) dX9_readSign_31 (gg_20 b) (rfl) (by omega) rfl ?_
    refine go_aload_n dX9_readSign_32 rfl ?_
    refine go_dup dX9_readSign_33 rfl ?_
    refine gs_gi dX9_readSign_34 flX9_15 (gg_17 b) rfl (show _ = nI a by rw [us_p (by decide)]; exact ha) ?_
    refine go_iconst (v := nI 1) dX9_readSign_37 (by decide) ?_
    refine go_iaddN dX9_readSign_38 ?_
    refine gs_pi dX9_readSign_39 flX9_15 (gg_17 b) rfl (fun q hq => by cases hq; exact ⟨rfl, rfl⟩) ?_
    refine go_iconst (v := nI 1) dX9_readSign_42 (by decide) ?_
    refine go_zret dX9_readSign_43 rfl rfl (by decide) ?_
    rw [rSign, if_pos (by simp [c8])]
    exact ⟨rfl, rfl⟩
  · refine go_iload_n dX9_readSign_11 rfl ?_
    refine go_bipush (v := nI 60) dX9_readSign_12 (by decide) ?_
    refine go_icmp_eq 25 dX9_readSign_14 (by decide) (fun c14 => ?_) (fun c14 => ?_)
    · refine go_aload_n dX9_readSign_25 rfl ?_
      refine gs_gr dX9_readSign_26 flX9_35 (gg_17 b) rfl ?_
      refine go_iload_n dX9_readSign_29 rfl ?_
      refine go_iload_n dX9_readSign_30 rfl ?_
      refine gs_iast (_) dX9_readSign_31 (gg_20 b) (rfl) (by omega) rfl ?_
      refine go_aload_n dX9_readSign_32 rfl ?_
      refine go_dup dX9_readSign_33 rfl ?_
      refine gs_gi dX9_readSign_34 flX9_15 (gg_17 b) rfl (show _ = nI a by rw [us_p (by decide)]; exact ha) ?_
      refine go_iconst (v := nI 1) dX9_readSign_37 (by decide) ?_
      refine go_iaddN dX9_readSign_38 ?_
      refine gs_pi dX9_readSign_39 flX9_15 (gg_17 b) rfl (fun q hq => by cases hq; exact ⟨rfl, rfl⟩) ?_
      refine go_iconst (v := nI 1) dX9_readSign_42 (by decide) ?_
      refine go_zret dX9_readSign_43 rfl rfl (by decide) ?_
      rw [rSign, if_pos (by simp [c8, c14])]
      exact ⟨rfl, rfl⟩
    · refine go_iload_n dX9_readSign_17 rfl ?_
      refine go_bipush (v := nI 62) dX9_readSign_18 (by decide) ?_
      refine go_icmp_eq 25 dX9_readSign_20 (by decide) (fun c20 => ?_) (fun c20 => ?_)
      · refine go_aload_n dX9_readSign_25 rfl ?_
        refine gs_gr dX9_readSign_26 flX9_35 (gg_17 b) rfl ?_
        refine go_iload_n dX9_readSign_29 rfl ?_
        refine go_iload_n dX9_readSign_30 rfl ?_
        refine gs_iast (_) dX9_readSign_31 (gg_20 b) (rfl) (by omega) rfl ?_
        refine go_aload_n dX9_readSign_32 rfl ?_
        refine go_dup dX9_readSign_33 rfl ?_
        refine gs_gi dX9_readSign_34 flX9_15 (gg_17 b) rfl (show _ = nI a by rw [us_p (by decide)]; exact ha) ?_
        refine go_iconst (v := nI 1) dX9_readSign_37 (by decide) ?_
        refine go_iaddN dX9_readSign_38 ?_
        refine gs_pi dX9_readSign_39 flX9_15 (gg_17 b) rfl (fun q hq => by cases hq; exact ⟨rfl, rfl⟩) ?_
        refine go_iconst (v := nI 1) dX9_readSign_42 (by decide) ?_
        refine go_zret dX9_readSign_43 rfl rfl (by decide) ?_
        rw [rSign, if_pos (by simp [c8, c14, c20])]
        exact ⟨rfl, rfl⟩
      · refine go_iconst (v := nI 0) dX9_readSign_23 (by decide) ?_
        refine go_zret dX9_readSign_24 rfl rfl (by decide) ?_
        rw [rSign, if_neg (by simp [c8, c14, c20])]
        exact ⟨rfl, rfl⟩
theorem cX9_readNumber_ok (κ : gm_K) (T : TXT κ) (b : Bool) (σ : wg_S) (l a : Nat) (hT : TP σ l a) (t : Nat) (ht : t < 2) : Fn κ mX9_readNumber [.ref 17, .int (nI t)] (gg b) σ (some (.int (bi (rNum σ l a t).1))) (gg b) (rNum σ l a t).2.2 := by
  refine go_start (by decide) (Nat.le_of_ble_eq_true rfl) ?_
  obtain ⟨hl, ha, hl2, ha2⟩ := id hT
  have fin : ∀ (d : Nat), d ≤ 3 → nd (hr σ l) a = d → Go κ mX9_readNumber 52 [some (.ref 17), some (.int (nI t)), some (.int (nI d)), some (.int (nv (hr σ l) a d))] [] (wd (gg b) (s_at σ (a + d))) (0, 0) (fun z h' => z = some (.int (bi (rNum σ l a t).1)) ∧ h' = wd (gg b) (rNum σ l a t).2.2) := by
    intro d hd hn
    refine go_aload_n dX9_readNumber_52 rfl ?_
    refine gs_gr dX9_readNumber_53 flX9_38 (gg_17 b) rfl ?_
    refine go_iload_n dX9_readNumber_56 rfl ?_
    refine go_iload_n dX9_readNumber_57 rfl ?_
    refine gs_iast (_) dX9_readNumber_58 (gg_21 b) (rfl) (by omega) rfl ?_
    refine go_iload_n dX9_readNumber_59 rfl ?_
    refine go_if_le 67 dX9_readNumber_60 (by decide) (fun c60 => ?_) (fun c60 => ?_)
    · refine go_iconst (v := nI 0) dX9_readNumber_67 (by decide) ?_
      refine go_zret dX9_readNumber_68 rfl rfl (by decide) ?_
      rw [rNum, hn]; exact ⟨by rw [decide_eq_false (fun z => nI_nle z (by omega) c60)]; rfl, rfl⟩
    · refine go_iconst (v := nI 1) dX9_readNumber_63 (by decide) ?_
      refine go_goto 68 dX9_readNumber_64 (by decide) ?_
      refine go_zret dX9_readNumber_68 rfl rfl (by decide) ?_
      rw [rNum, hn]; exact ⟨by rw [decide_eq_true (Nat.pos_of_ne_zero (fun z => c60 (by rw [z]; decide)))]; rfl, rfl⟩
  have loop : ∀ (d : Nat), d ≤ 3 → fnd (fun d => !dg (hr σ l) a d) d = none → Go κ mX9_readNumber 4 [some (.ref 17), some (.int (nI t)), some (.int (nI d)), some (.int (nv (hr σ l) a d))] [] (wd (gg b) (s_at σ (a + d))) (0, 0) (fun z h' => z = some (.int (bi (rNum σ l a t).1)) ∧ h' = wd (gg b) (rNum σ l a t).2.2) := by
    refine lo_up 3 (fun i hi ih hf => ?_)
    have hle := nd_le ha2 i hf
    have hT' : TP (s_at σ (a + i)) l (a + i) := ⟨by rw [s_at_k (by decide)]; exact hl, s_at_1, hl2, hle⟩
    have hh := cX9_here_ok κ b _ l (a + i) hT'
    rw [hr_of (s_at_p (by decide))] at hh
    refine go_iload_n dX9_readNumber_4 rfl ?_
    refine go_iconst (v := nI 3) dX9_readNumber_5 (by decide) ?_
    refine go_icmp_geN 52 dX9_readNumber_6 (by decide) (by omega) (by omega) (fun c6 => ?_) (fun c6 => ?_)
    · have e : i = 3 := by omega
      subst e
      exact fin 3 (by decide) (by rw [nd, hf]; rfl)
    · refine go_aload_n dX9_readNumber_9 rfl ?_
      refine gs_callVi dX9_readNumber_10 cvX9_readNumber_62 (hh) rfl (gg_17 b) rfl rfl rfl ⟨rfl, rfl⟩ rfl ?_
      refine go_bipush (v := nI 48) dX9_readNumber_13 (by decide) ?_
      refine go_bipush (v := nI 57) dX9_readNumber_15 (by decide) ?_
      refine gs_callSNi dX9_readNumber_17 cnX9_readNumber_70 (cX10_isWithin_ok κ b _ _ _ _) rfl rfl rfl ⟨rfl, rfl⟩ rfl ?_
      refine go_if_eqB 52 dX9_readNumber_20 (by decide) (fun c20 => ?_) (fun c20 => ?_)
      · exact fin i hi (by rw [nd, fnd_hit hf (by simp [dg, c20]) 3 c6]; rfl)
      · refine go_iload_n dX9_readNumber_23 rfl ?_
        refine go_bipush (v := nI 10) dX9_readNumber_24 (by decide) ?_
        refine go_imul dX9_readNumber_26 ?_
        refine go_aload_n dX9_readNumber_27 rfl ?_
        refine gs_callVi dX9_readNumber_28 cvX9_readNumber_62 (hh) rfl (gg_17 b) rfl rfl rfl ⟨rfl, rfl⟩ rfl ?_
        refine go_iadd dX9_readNumber_31 ?_
        refine go_bipush (v := nI 48) dX9_readNumber_32 (by decide) ?_
        refine go_isub dX9_readNumber_34 ?_
        refine go_istore_n (lv' := [_, _, _, _]) dX9_readNumber_35 rfl rfl rfl ?_
        refine go_iincN (lv' := [_, _, _, _]) 1 dX9_readNumber_36 (by decide) rfl rfl rfl rfl ?_
        refine go_aload_n dX9_readNumber_39 rfl ?_
        refine go_dup dX9_readNumber_40 rfl ?_
        refine gs_gi dX9_readNumber_41 flX9_15 (gg_17 b) rfl (s_at_1) ?_
        refine go_iconst (v := nI 1) dX9_readNumber_44 (by decide) ?_
        refine go_iaddN dX9_readNumber_45 ?_
        refine gs_pi dX9_readNumber_46 flX9_15 (gg_17 b) rfl (fun q hq => by cases hq; exact ⟨rfl, rfl⟩) ?_
        refine go_goto 4 dX9_readNumber_49 (by decide) ?_
        exact go_wkh (by exact ⟨rfl, rfl, rfl, rfl, trivial⟩) (congrArg (wd (gg b)) (show s_at (s_at σ (a + i)) (a + i + 1) = s_at σ (a + (i + 1)) by rw [s_at_s]; rfl)) (ih c6 (by rw [show fnd (fun d => !dg (hr σ l) a d) (i + 1) = match fnd (fun d => !dg (hr σ l) a d) i with | some x => some x | none => if (!dg (hr σ l) a i) = true then some i else none from rfl, hf]; simp [dg, c20]))
  refine go_iconst (v := nI 0) dX9_readNumber_0 (by decide) ?_
  refine go_istore_n (lv' := [_, _, _, _]) dX9_readNumber_1 rfl rfl rfl ?_
  refine go_iconst (v := nI 0) dX9_readNumber_2 (by decide) ?_
  refine go_istore_n (lv' := [_, _, _, _]) dX9_readNumber_3 rfl rfl rfl ?_
  exact go_wkh (by exact ⟨rfl, rfl, rfl, rfl, trivial⟩) (congrArg (wd (gg b)) (s_at_id ha).symm) (loop 0 (by decide) rfl)
theorem cX9_readField_ok (κ : gm_K) (T : TXT κ) (b : Bool) (σ : wg_S) (l a : Nat) (hT : TP σ l a) (t : Nat) (ht : t < 2) : Fn κ mX9_readField [.ref 17, .int (nI t)] (gg b) σ (some (.int (bi (rField σ l a t).1))) (gg b) (rField σ l a t).2.2 := by
  refine go_start (by decide) (Nat.le_of_ble_eq_true rfl) ?_
  obtain ⟨hl, ha, hl2, ha2⟩ := id hT
  refine go_aload_n dX9_readField_0 rfl ?_
  refine gs_callVi dX9_readField_1 cvX9_readField_62 (cX9_here_ok κ b σ l a hT) rfl (gg_17 b) rfl rfl rfl ⟨rfl, rfl⟩ rfl ?_
  refine go_lsw [(100, 112), (104, 70), (109, 56), (115, 98), (116, 84)] 126 dX9_readField_4 (by decide) (by decide) (by decide) (fun c4 => ?_) (fun k t hk c4 => ?_)
  · refine go_iconst (v := nI 0) dX9_readField_126 (by decide) ?_
    refine go_zret dX9_readField_127 rfl rfl (by decide) ?_
    rw [rField, show fx (hr σ l a) = none by simp [fx, c4 (100, 112) (by decide), c4 (104, 70) (by decide), c4 (109, 56) (by decide), c4 (115, 98) (by decide), c4 (116, 84) (by decide)]]
    exact ⟨rfl, rfl⟩
  · simp only [List.mem_cons, List.not_mem_nil, or_false, Prod.mk.injEq] at hk
    rcases hk with ⟨rfl, rfl⟩ | ⟨rfl, rfl⟩ | ⟨rfl, rfl⟩ | ⟨rfl, rfl⟩ | ⟨rfl, rfl⟩
    · skip
      refine go_aload_n dX9_readField_112 rfl ?_
      refine gs_gr dX9_readField_113 flX9_32 (gg_17 b) rfl ?_
      refine go_iload_n dX9_readField_116 rfl ?_
      refine go_iconst (v := nI 4) dX9_readField_117 (by decide) ?_
      refine gs_iast (_) dX9_readField_118 (gg_19 b) (rfl) (by omega) rfl ?_
      refine go_aload_n dX9_readField_119 rfl ?_
      refine go_ldcS T 9 (by decide) rfl rfl dX9_readField_120 ?_
      refine gs_callVi dX9_readField_122 cvX9_readField_49 (cX9_readWord_ok κ T b _ l a (TP_of (congrFun (us_p (by decide)) 0) (congrFun (us_p (by decide)) 1) hT) 9 (by decide)) rfl (gg_17 b) rfl rfl rfl ⟨rfl, rfl⟩ rfl ?_
      refine go_zret dX9_readField_125 rfl rfl (bi_nar _) ?_
      rw [rField, show fx (hr σ l a) = some 4 by rw [c4]; decide]
      exact ⟨rfl, rfl⟩
    · skip
      refine go_aload_n dX9_readField_70 rfl ?_
      refine gs_gr dX9_readField_71 flX9_32 (gg_17 b) rfl ?_
      refine go_iload_n dX9_readField_74 rfl ?_
      refine go_iconst (v := nI 1) dX9_readField_75 (by decide) ?_
      refine gs_iast (_) dX9_readField_76 (gg_19 b) (rfl) (by omega) rfl ?_
      refine go_aload_n dX9_readField_77 rfl ?_
      refine go_ldcS T 6 (by decide) rfl rfl dX9_readField_78 ?_
      refine gs_callVi dX9_readField_80 cvX9_readField_49 (cX9_readWord_ok κ T b _ l a (TP_of (congrFun (us_p (by decide)) 0) (congrFun (us_p (by decide)) 1) hT) 6 (by decide)) rfl (gg_17 b) rfl rfl rfl ⟨rfl, rfl⟩ rfl ?_
      refine go_zret dX9_readField_83 rfl rfl (bi_nar _) ?_
      rw [rField, show fx (hr σ l a) = some 1 by rw [c4]; decide]
      exact ⟨rfl, rfl⟩
    · skip
      refine go_aload_n dX9_readField_56 rfl ?_
      refine gs_gr dX9_readField_57 flX9_32 (gg_17 b) rfl ?_
      refine go_iload_n dX9_readField_60 rfl ?_
      refine go_iconst (v := nI 0) dX9_readField_61 (by decide) ?_
      refine gs_iast (_) dX9_readField_62 (gg_19 b) (rfl) (by omega) rfl ?_
      refine go_aload_n dX9_readField_63 rfl ?_
      refine go_ldcS T 5 (by decide) rfl rfl dX9_readField_64 ?_
      refine gs_callVi dX9_readField_66 cvX9_readField_49 (cX9_readWord_ok κ T b _ l a (TP_of (congrFun (us_p (by decide)) 0) (congrFun (us_p (by decide)) 1) hT) 5 (by decide)) rfl (gg_17 b) rfl rfl rfl ⟨rfl, rfl⟩ rfl ?_
      refine go_zret dX9_readField_69 rfl rfl (bi_nar _) ?_
      rw [rField, show fx (hr σ l a) = some 0 by rw [c4]; decide]
      exact ⟨rfl, rfl⟩
    · skip
      refine go_aload_n dX9_readField_98 rfl ?_
      refine gs_gr dX9_readField_99 flX9_32 (gg_17 b) rfl ?_
      refine go_iload_n dX9_readField_102 rfl ?_
      refine go_iconst (v := nI 3) dX9_readField_103 (by decide) ?_
      refine gs_iast (_) dX9_readField_104 (gg_19 b) (rfl) (by omega) rfl ?_
      refine go_aload_n dX9_readField_105 rfl ?_
      refine go_ldcS T 8 (by decide) rfl rfl dX9_readField_106 ?_
      refine gs_callVi dX9_readField_108 cvX9_readField_49 (cX9_readWord_ok κ T b _ l a (TP_of (congrFun (us_p (by decide)) 0) (congrFun (us_p (by decide)) 1) hT) 8 (by decide)) rfl (gg_17 b) rfl rfl rfl ⟨rfl, rfl⟩ rfl ?_
      refine go_zret dX9_readField_111 rfl rfl (bi_nar _) ?_
      rw [rField, show fx (hr σ l a) = some 3 by rw [c4]; decide]
      exact ⟨rfl, rfl⟩
    · skip
      refine go_aload_n dX9_readField_84 rfl ?_
      refine gs_gr dX9_readField_85 flX9_32 (gg_17 b) rfl ?_
      refine go_iload_n dX9_readField_88 rfl ?_
      refine go_iconst (v := nI 2) dX9_readField_89 (by decide) ?_
      refine gs_iast (_) dX9_readField_90 (gg_19 b) (rfl) (by omega) rfl ?_
      refine go_aload_n dX9_readField_91 rfl ?_
      refine go_ldcS T 7 (by decide) rfl rfl dX9_readField_92 ?_
      refine gs_callVi dX9_readField_94 cvX9_readField_49 (cX9_readWord_ok κ T b _ l a (TP_of (congrFun (us_p (by decide)) 0) (congrFun (us_p (by decide)) 1) hT) 7 (by decide)) rfl (gg_17 b) rfl rfl rfl ⟨rfl, rfl⟩ rfl ?_
      refine go_zret dX9_readField_97 rfl rfl (bi_nar _) ?_
      rw [rField, show fx (hr σ l a) = some 2 by rw [c4]; decide]
      exact ⟨rfl, rfl⟩
def rTest (σ : wg_S) (l a t : Nat) : Bool × Nat × wg_S := match rField σ l a t with
  | (false, a1, τ) => (false, a1, τ)
  | (true, a1, τ) => match rSign τ l a1 t with
    | (false, a2, υ) => (false, a2, υ)
    | (true, a2, υ) => rNum υ l a2 t
theorem rTest_tp {σ : wg_S} {l a t : Nat} (hT : TP σ l a) : TP (rTest σ l a t).2.2 l (rTest σ l a t).2.1 := by
  have h1 := rField_tp (t := t) hT
  unfold rTest
  cases e1 : rField σ l a t with
  | mk x p =>
    obtain ⟨a1, τ⟩ := p
    rw [e1] at h1
    cases x with
    | false => exact h1
    | true =>
      have h2 := rSign_tp (t := t) h1
      show TP (match rSign τ l a1 t with | (false, a2, υ) => (false, a2, υ) | (true, a2, υ) => rNum υ l a2 t).2.2 l (match rSign τ l a1 t with | (false, a2, υ) => (false, a2, υ) | (true, a2, υ) => rNum υ l a2 t).2.1
      cases e2 : rSign τ l a1 t with
      | mk y p =>
        obtain ⟨a2, υ⟩ := p
        rw [e2] at h2
        cases y with
        | false => exact h2
        | true => exact rNum_tp h2
theorem cX9_readTest_ok (κ : gm_K) (T : TXT κ) (b : Bool) (σ : wg_S) (l a : Nat) (hT : TP σ l a) (t : Nat) (ht : t < 2) : Fn κ mX9_readTest [.ref 17, .int (nI t)] (gg b) σ (some (.int (bi (rTest σ l a t).1))) (gg b) (rTest σ l a t).2.2 := by
  refine go_start (by decide) (Nat.le_of_ble_eq_true rfl) ?_
  have hF := cX9_readField_ok κ T b σ l a hT t ht
  have hF2 := rField_tp (t := t) hT
  have hu : rTest σ l a t = match rField σ l a t with | (false, a1, τ) => (false, a1, τ) | (true, a1, τ) => match rSign τ l a1 t with | (false, a2, υ) => (false, a2, υ) | (true, a2, υ) => rNum υ l a2 t := rfl
  cases e1 : rField σ l a t with
  | mk x p =>
    obtain ⟨a1, τ⟩ := p
    rw [e1] at hF hF2 hu
    cases x with
    | false =>
      refine go_aload_n dX9_readTest_0 rfl ?_
      refine go_iload_n dX9_readTest_1 rfl ?_
      refine gs_callVi dX9_readTest_2 cvX9_readTest_82 (hF) rfl (gg_17 b) rfl rfl rfl ⟨rfl, rfl⟩ rfl ?_
      refine go_if_eqB 28 dX9_readTest_5 (by decide) (fun c5 => ?_) (fun c5 => ?_)
      · refine go_iconst (v := nI 0) dX9_readTest_28 (by decide) ?_
        refine go_zret dX9_readTest_29 rfl rfl (by decide) ?_
        rw [hu]
        exact ⟨rfl, rfl⟩
      · cases c5
    | true =>
      have hS := cX9_readSign_ok κ T b τ l a1 hF2 t ht
      have hS2 := rSign_tp (t := t) hF2
      cases e2 : rSign τ l a1 t with
      | mk y p =>
        obtain ⟨a2, υ⟩ := p
        rw [e2] at hS hS2
        simp only [e2] at hu
        cases y with
        | false =>
          refine go_aload_n dX9_readTest_0 rfl ?_
          refine go_iload_n dX9_readTest_1 rfl ?_
          refine gs_callVi dX9_readTest_2 cvX9_readTest_82 (hF) rfl (gg_17 b) rfl rfl rfl ⟨rfl, rfl⟩ rfl ?_
          refine go_if_eqB 28 dX9_readTest_5 (by decide) (fun c5 => ?_) (fun c5 => ?_)
          · cases c5
          · refine go_aload_n dX9_readTest_8 rfl ?_
            refine go_iload_n dX9_readTest_9 rfl ?_
            refine gs_callVi dX9_readTest_10 cvX9_readTest_85 (hS) rfl (gg_17 b) rfl rfl rfl ⟨rfl, rfl⟩ rfl ?_
            refine go_if_eqB 28 dX9_readTest_13 (by decide) (fun c13 => ?_) (fun c13 => ?_)
            · refine go_iconst (v := nI 0) dX9_readTest_28 (by decide) ?_
              refine go_zret dX9_readTest_29 rfl rfl (by decide) ?_
              rw [hu]
              exact ⟨rfl, rfl⟩
            · cases c13
        | true =>
          have hQ := cX9_readNumber_ok κ T b υ l a2 hS2 t ht
          change rTest σ l a t = rNum υ l a2 t at hu
          rw [← hu] at hQ
          refine go_aload_n dX9_readTest_0 rfl ?_
          refine go_iload_n dX9_readTest_1 rfl ?_
          refine gs_callVi dX9_readTest_2 cvX9_readTest_82 (hF) rfl (gg_17 b) rfl rfl rfl ⟨rfl, rfl⟩ rfl ?_
          refine go_if_eqB 28 dX9_readTest_5 (by decide) (fun c5 => ?_) (fun c5 => ?_)
          · cases c5
          · refine go_aload_n dX9_readTest_8 rfl ?_
            refine go_iload_n dX9_readTest_9 rfl ?_
            refine gs_callVi dX9_readTest_10 cvX9_readTest_85 (hS) rfl (gg_17 b) rfl rfl rfl ⟨rfl, rfl⟩ rfl ?_
            refine go_if_eqB 28 dX9_readTest_13 (by decide) (fun c13 => ?_) (fun c13 => ?_)
            · cases c13
            · refine go_aload_n dX9_readTest_16 rfl ?_
              refine go_iload_n dX9_readTest_17 rfl ?_
              refine gs_callVi dX9_readTest_18 cvX9_readTest_88 (hQ) rfl (gg_17 b) rfl rfl rfl ⟨rfl, rfl⟩ rfl ?_
              refine go_if_eqB 28 dX9_readTest_21 (by decide) (fun c21 => ?_) (fun c21 => ?_)
              · refine go_iconst (v := nI 0) dX9_readTest_28 (by decide) ?_
                refine go_zret dX9_readTest_29 rfl rfl (by decide) ?_
                rw [c21]
                exact ⟨rfl, rfl⟩
              · refine go_iconst (v := nI 1) dX9_readTest_24 (by decide) ?_
                refine go_goto 29 dX9_readTest_25 (by decide) ?_
                refine go_zret dX9_readTest_29 rfl rfl (by decide) ?_
                rw [c21]
                exact ⟨rfl, rfl⟩
