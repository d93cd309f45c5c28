def mby (w : Int64) (i : Nat) : Int32 := vp_nar .byte (w >>> ((nI (8 * i)).toInt64 &&& 63)).toInt32.toInt8.toInt32
def mfd0 (σ : wg_S) (w : Int64) (l k : Nat) : Nat → wg_S
  | 0 => σ
  | i + 1 => us (us (mfd0 σ w l k i) 63 (l + i) (mby w (k - 1 - i))) 47 20 (nI (l + i + 1))
theorem mfd0_n {σ : wg_S} {w : Int64} {l k : Nat} (h : σ 47 20 = nI l) : ∀ i, mfd0 σ w l k i 47 20 = nI (l + i)
  | 0 => h
  | i + 1 => by rw [mfd0, us_s]; rfl
def M_feed (σ : wg_S) (l : Nat) (w : Int64) (k : Int32) : Int32 × wg_S := if wi k (nI 1) (nI 8) = false then (-2, σ) else if σ 47 20 + k ≤ nI 120 then (nI (l + k.toNatClampNeg), mfd0 σ w l k.toNatClampNeg k.toNatClampNeg) else (-4, σ)
theorem cX11_feed_ok (κ : gm_K) (b : Bool) (σ : wg_S) (l : Nat) (hl : σ 47 20 = nI l) (hl2 : l ≤ 120) (w : Int64) (k : Int32) : Fn κ mX11_feed [.ref 47, .long w, .int k] (gg b) σ (some (.int ((M_feed σ l w k).1))) (gg b) (M_feed σ l w k).2 := by
  refine go_start (by decide) (Nat.le_of_ble_eq_true rfl) ?_
  refine go_iload_n dX11_feed_0 rfl ?_
  refine go_i2l dX11_feed_1 ?_
  refine go_lconst (v := 1) dX11_feed_2 (by decide) ?_
  refine go_ldc2 dX11_feed_3 klX11_203 ?_
  refine gs_callSi dX11_feed_6 csX11_feed_145 (cX11_isIn_ok κ b σ _ (nI 1) (nI 8) _ _ (by decide) (by decide)) rfl rfl rfl ⟨rfl, rfl⟩ rfl ?_
  refine go_if_neB 15 dX11_feed_9 (by decide) (fun c9 => ?_) (fun c9 => ?_)
  · refine go_aload_n dX11_feed_15 rfl ?_
    refine gs_gi dX11_feed_16 flX11_205 (gg_47 b) rfl (rfl) ?_
    refine go_iload_n dX11_feed_19 rfl ?_
    refine go_iadd dX11_feed_20 ?_
    refine go_bipush (v := nI 120) dX11_feed_21 (by decide) ?_
    refine go_icmp_le 29 dX11_feed_23 (by decide) (fun c23 => ?_) (fun c23 => ?_)
    · obtain ⟨k, hk, rfl⟩ : ∃ j, j < 9 ∧ k = nI j := by
        have c9' := c9
        simp only [wi, Bool.and_eq_true, Bool.not_eq_true', decide_eq_false_iff_not] at c9'
        rcases pk_ix k (n := 9) (by decide) with h | h | h
        · exact absurd (Int32.lt_trans h (by decide : (0 : Int32) < nI 1)) c9'.1
        · exact absurd (Int32.lt_of_lt_of_le (by decide : nI 8 < nI 9) h) c9'.2
        · exact h
      have hk1 : 1 ≤ k := by
        rcases Nat.eq_zero_or_pos k with rfl | h
        · exact absurd c9 (by decide)
        · exact h
      have ek := nI_clamp (show k < 2 ^ 31 by omega)
      have hlk : l + k ≤ 120 := by
        have c23' := c23
        rw [hl, nI_add] at c23'
        exact (nI_leI (by omega) (by decide)).mp c23'
      have hK : M_feed σ l w (nI k) = (nI (l + k), mfd0 σ w l k k) := by rw [M_feed, if_neg (by simp [c9]), if_pos c23, ek]
      rw [hK]
      have loop : ∀ (x i : Nat), x + i = k → Go κ mX11_feed 34 [some (.ref 47), some (.long w), none, some (.int (nI k)), some (.int (pI x))] [] (wd (gg b) (mfd0 σ w l k i)) (0, 0) (fun r h' => r = some (.int (nI (l + k))) ∧ h' = wd (gg b) (mfd0 σ w l k k)) := by
        intro x
        induction x with
        | zero =>
          intro i hi
          rw [show pI 0 = -1 from rfl]
          obtain rfl : i = k := by omega
          have hn := mfd0_n (w := w) (k := i) hl i
          refine go_iload dX11_feed_34 rfl ?_
          refine go_if_lt 73 dX11_feed_36 (by decide) (fun _ => ?_) (fun z => absurd z (by decide))
          refine go_aload_n dX11_feed_73 rfl ?_
          refine gs_gi dX11_feed_74 flX11_205 (gg_47 b) rfl (hn) ?_
          refine go_iret dX11_feed_77 rfl rfl ?_
          exact ⟨rfl, rfl⟩
        | succ x ih =>
          intro i hi
          rw [show pI (x + 1) = nI x from rfl]
          have hn := mfd0_n (w := w) (k := k) hl i
          refine go_iload dX11_feed_34 rfl ?_
          refine go_if_ltN 73 dX11_feed_36 (by decide) (by omega) ?_
          refine go_aload_n dX11_feed_39 rfl ?_
          refine gs_gr dX11_feed_40 flX11_55 (gg_47 b) rfl ?_
          refine go_aload_n dX11_feed_43 rfl ?_
          refine gs_gi dX11_feed_44 flX11_205 (gg_47 b) rfl (hn) ?_
          refine go_lload_n dX11_feed_47 rfl ?_
          refine go_bipush (v := nI 8) dX11_feed_48 (by decide) ?_
          refine go_iload dX11_feed_50 rfl ?_
          refine go_imulN dX11_feed_52 ?_
          refine go_lshr dX11_feed_53 ?_
          refine go_l2i dX11_feed_54 ?_
          refine go_i2b dX11_feed_55 ?_
          refine gs_bast (_) dX11_feed_56 (gg_63 b) (rfl) (by omega) rfl ?_
          refine go_aload_n dX11_feed_57 rfl ?_
          refine go_dup dX11_feed_58 rfl ?_
          refine gs_gi dX11_feed_59 flX11_205 (gg_47 b) rfl (show _ = nI (l + i) by rw [us_p (by decide)]; exact hn) ?_
          refine go_iconst (v := nI 1) dX11_feed_62 (by decide) ?_
          refine go_iaddN dX11_feed_63 ?_
          refine gs_pi dX11_feed_64 flX11_205 (gg_47 b) rfl (fun q hq => by cases hq; exact ⟨rfl, rfl⟩) ?_
          refine go_iinc (lv' := [_, _, _, _, _]) dX11_feed_67 rfl (pI_dec x) rfl rfl rfl ?_
          refine go_goto 34 dX11_feed_70 (by decide) ?_
          have e : k - 1 - i = x := by omega
          exact go_wkh (by exact ⟨rfl, rfl, rfl, rfl, trivial⟩) (by rw [mfd0, e]; rfl) (ih (i + 1) (by omega))
      refine go_iload_n dX11_feed_29 rfl ?_
      refine go_iconst (v := nI 1) dX11_feed_30 (by decide) ?_
      refine go_isub dX11_feed_31 ?_
      refine go_istore (lv' := [_, _, _, _, _]) dX11_feed_32 rfl rfl rfl ?_
      exact go_wk (by rw [nI_pI]; exact ⟨rfl, rfl, rfl, rfl, trivial⟩) (loop k 0 (by omega))
    · refine go_bipush (v := -4) dX11_feed_26 (by decide) ?_
      refine go_iret dX11_feed_28 rfl rfl ?_
      exact ⟨by simp +decide [M_feed, c9, c23], by simp +decide [M_feed, c9, c23]⟩
  · refine go_bipush (v := -2) dX11_feed_12 (by decide) ?_
    refine go_iret dX11_feed_14 rfl rfl ?_
    exact ⟨by simp +decide [M_feed, c9], by simp +decide [M_feed, c9]⟩
def mr (σ : wg_S) (l a : Nat) : Int32 := if a < l then σ 63 a &&& nI 255 else -1
theorem cX11_letter_ok (κ : gm_K) (b : Bool) (σ : wg_S) (l a : Nat) (hl : σ 47 20 = nI l) (ha : σ 47 28 = nI a) (hl2 : l ≤ 120) (ha2 : a < 2 ^ 31) : Fn κ mX11_letter [.ref 47] (gg b) σ (some (.int (mr σ l a))) (gg b) σ := by
  refine go_start (by decide) (Nat.le_of_ble_eq_true rfl) ?_
  refine go_aload_n dX11_letter_0 rfl ?_
  refine gs_gi dX11_letter_1 flX11_208 (gg_47 b) rfl (ha) ?_
  refine go_aload_n dX11_letter_4 rfl ?_
  refine gs_gi dX11_letter_5 flX11_205 (gg_47 b) rfl (hl) ?_
  refine go_icmp_geN 27 dX11_letter_8 (by decide) (by omega) (by omega) (fun c8 => ?_) (fun c8 => ?_)
  · refine go_iconst (v := -1) dX11_letter_27 (by decide) ?_
    refine go_iret dX11_letter_28 rfl rfl ?_
    exact ⟨by rw [mr, if_neg (by omega)], rfl⟩
  · refine go_aload_n dX11_letter_11 rfl ?_
    refine gs_gr dX11_letter_12 flX11_55 (gg_47 b) rfl ?_
    refine go_aload_n dX11_letter_15 rfl ?_
    refine gs_gi dX11_letter_16 flX11_208 (gg_47 b) rfl (ha) ?_
    refine gs_bald (_) dX11_letter_19 (gg_63 b) (rfl) (by omega) rfl (rfl) ?_
    refine go_sipush (v := nI 255) dX11_letter_20 (by decide) ?_
    refine go_iand dX11_letter_23 ?_
    refine go_goto 28 dX11_letter_24 (by decide) ?_
    refine go_iret dX11_letter_28 rfl rfl ?_
    exact ⟨by rw [mr, if_pos c8], rfl⟩
theorem cX11_isDigit_ok (κ : gm_K) (b : Bool) (σ : wg_S) (c : Int32) : Fn κ mX11_isDigit [.int c] (gg b) σ (some (.int (bi (wi c (nI 48) (nI 57))))) (gg b) σ := by
  refine go_start (by decide) (Nat.le_of_ble_eq_true rfl) ?_
  refine go_iload_n dX11_isDigit_0 rfl ?_
  refine go_bipush (v := nI 48) dX11_isDigit_1 (by decide) ?_
  refine go_icmp_lt 16 dX11_isDigit_3 (by decide) (fun c3 => ?_) (fun c3 => ?_)
  · refine go_iconst (v := nI 0) dX11_isDigit_16 (by decide) ?_
    refine go_zret dX11_isDigit_17 rfl rfl (by decide) ?_
    exact ⟨by simp +decide [c3, bi, wi], rfl⟩
  · refine go_iload_n dX11_isDigit_6 rfl ?_
    refine go_bipush (v := nI 57) dX11_isDigit_7 (by decide) ?_
    refine go_icmp_gt 16 dX11_isDigit_9 (by decide) (fun c9 => ?_) (fun c9 => ?_)
    · refine go_iconst (v := nI 0) dX11_isDigit_16 (by decide) ?_
      refine go_zret dX11_isDigit_17 rfl rfl (by decide) ?_
      exact ⟨by simp +decide [c3, c9, bi, wi], rfl⟩
    · refine go_iconst (v := nI 1) dX11_isDigit_12 (by decide) ?_
      refine go_goto 17 dX11_isDigit_13 (by decide) ?_
      refine go_zret dX11_isDigit_17 rfl rfl (by decide) ?_
      exact ⟨by simp +decide [c3, c9, bi, wi], rfl⟩
/-- the letters cs are read from a on: whether all are there, and where the reader stands behind them -/
def pwl (f : Nat → Int32) : List Nat → Nat → Bool × Nat
  | [], a => (true, a)
  | c :: cs, a => if f a = nI c then pwl f cs (a + 1) else (false, a)
def okb (t : Int64) : List Nat → Prop
  | [] => True
  | c :: cs => (t >>> ((nI (8 * cs.length)).toInt64 &&& 63)) &&& 255 = (nI c).toInt64 ∧ okb t cs
def xst (σ : wg_S) (r : Bool × Nat) : wg_S := if r.1 then us σ 47 28 (nI r.2) else us (us σ 47 28 (nI r.2)) 47 29 (nI r.2)
theorem mr_us {σ : wg_S} {k : Nat} {v : Int32} (l : Nat) : mr (us σ 47 k v) l = mr σ l := by
  funext a
  rw [mr, mr, us_p (by decide)]
theorem t64_eq (x y : Int32) : x.toInt64 = y.toInt64 ↔ x = y := by
  rw [← Int64.toInt_inj, ← Int32.toInt_inj, Int32.toInt_toInt64, Int32.toInt_toInt64]
theorem pwl_b (f : Nat → Int32) : ∀ cs a, (pwl f cs a).2 ≤ a + cs.length
  | [], a => Nat.le_refl _
  | c :: cs, a => by
    rw [pwl]
    split
    · have := pwl_b f cs (a + 1); simp only [List.length_cons]; omega
    · simp
theorem cX11_expect_ok (κ : gm_K) (b : Bool) (σ : wg_S) (l a many : Nat) (t : Int64) (cs : List Nat) (hmany : many = cs.length) (h8 : cs.length ≤ 8) (ho : okb t cs) (hl : σ 47 20 = nI l) (hl2 : l ≤ 120) (hA : σ 47 28 = nI a) (hF : σ 47 29 = -1) (hb : a < 65000) : Fn κ mX11_expect [.ref 47, .int (nI many), .long t] (gg b) σ none (gg b) (xst σ (pwl (mr σ l) cs a)) := by
  refine go_start (by decide) (Nat.le_of_ble_eq_true rfl) ?_
  have loop : ∀ (cs : List Nat) (a : Nat) (τ : wg_S), cs.length ≤ 8 → okb t cs → τ 47 20 = nI l → τ 47 28 = nI a → τ 47 29 = -1 → a + cs.length < 65536 → Go κ mX11_expect 5 [some (.ref 47), some (.int (nI many)), some (.long t), none, some (.int (pI cs.length))] [] (wd (gg b) τ) (0, 0) (fun r h' => r = none ∧ h' = wd (gg b) (xst τ (pwl (mr τ l) cs a))) := by
    intro cs
    induction cs with
    | nil =>
      intro a τ h8 ho hl hA hF hb
      rw [show pI ([] : List Nat).length = -1 from rfl]
      refine go_iload dX11_expect_5 rfl ?_
      refine go_if_lt 64 dX11_expect_7 (by decide) (fun _ => ?_) (fun z => absurd z (by decide))
      refine go_vret dX11_expect_64 rfl rfl ?_
      refine ⟨rfl, congrArg (wd (gg b)) ?_⟩
      rw [pwl, xst, if_pos rfl, us_id hA]
    | cons c cs ih =>
      intro a τ h8 ho hl hA hF hb
      simp only [List.length_cons] at h8 hb
      rw [show pI (c :: cs).length = nI cs.length from rfl]
      refine go_iload dX11_expect_5 rfl ?_
      refine go_if_ltN 64 dX11_expect_7 (by decide) (by omega) ?_
      refine go_aload_n dX11_expect_10 rfl ?_
      refine gs_gi dX11_expect_11 flX11_211 (gg_47 b) rfl (hF) ?_
      refine go_if_ge 64 dX11_expect_14 (by decide) (fun z => absurd z (by decide)) (fun _ => ?_)
      refine go_aload_n dX11_expect_17 rfl ?_
      refine gs_callVi dX11_expect_18 cvX11_expect_214 (cX11_letter_ok κ b τ l a hl hA hl2 (by omega)) rfl (gg_47 b) rfl rfl rfl ⟨rfl, rfl⟩ rfl ?_
      refine go_i2l dX11_expect_21 ?_
      refine go_lload_n dX11_expect_22 rfl ?_
      refine go_bipush (v := nI 8) dX11_expect_23 (by decide) ?_
      refine go_iload dX11_expect_25 rfl ?_
      refine go_imulN dX11_expect_27 ?_
      refine go_lshr dX11_expect_28 ?_
      refine go_ldc2 dX11_expect_29 klX11_218 ?_
      refine go_land dX11_expect_32 ?_
      refine go_lcmp dX11_expect_33 ?_
      refine go_if_eq 48 dX11_expect_34 (by decide) (fun c34 => ?_) (fun c34 => ?_)
      · rw [lg_cmp_eq, ho.1, t64_eq] at c34
        refine go_aload_n dX11_expect_48 rfl ?_
        refine go_dup dX11_expect_49 rfl ?_
        refine gs_gi dX11_expect_50 flX11_208 (gg_47 b) rfl (hA) ?_
        refine go_iconst (v := nI 1) dX11_expect_53 (by decide) ?_
        refine go_iaddN dX11_expect_54 ?_
        refine gs_pi dX11_expect_55 flX11_208 (gg_47 b) rfl (fun q hq => by cases hq; exact ⟨rfl, rfl⟩) ?_
        refine go_iinc (lv' := [_, _, _, _, _]) dX11_expect_58 rfl (pI_dec _) rfl rfl rfl ?_
        refine go_goto 5 dX11_expect_61 (by decide) ?_
        have e : τ = τ := rfl
        refine go_mono ?_ (ih (a + 1) (us τ 47 28 (nI (a + 1))) (by omega) ho.2 (by rw [us_k (by decide)]; exact hl) us_s (by rw [us_k (by decide)]; exact hF) (by omega))
        rintro r h' ⟨h1, h2⟩
        refine ⟨h1, h2.trans (congrArg (wd (gg b)) ?_)⟩
        rw [mr_us, pwl, if_pos c34]
        unfold xst
        rw [us_us]
      · rw [lg_cmp_eq, ho.1, t64_eq] at c34
        refine go_aload_n dX11_expect_37 rfl ?_
        refine go_aload_n dX11_expect_38 rfl ?_
        refine gs_gi dX11_expect_39 flX11_208 (gg_47 b) rfl (hA) ?_
        refine gs_pi dX11_expect_42 flX11_211 (gg_47 b) rfl (fun q hq => by cases hq; exact ⟨rfl, rfl⟩) ?_
        refine go_goto 58 dX11_expect_45 (by decide) ?_
        refine go_iinc (lv' := [_, _, _, _, _]) dX11_expect_58 rfl (pI_dec _) rfl rfl rfl ?_
        refine go_goto 5 dX11_expect_61 (by decide) ?_
        have hx : pI cs.length = pI cs.length := rfl
        refine go_cut True trivial (fun _ => ?_)
        have hF2 : us τ 47 29 (nI a) 47 29 = nI a := us_s
        cases cs with
        | nil =>
          rw [show pI ([] : List Nat).length = -1 from rfl]
          refine go_iload dX11_expect_5 rfl ?_
          refine go_if_lt 64 dX11_expect_7 (by decide) (fun _ => ?_) (fun z => absurd z (by decide))
          refine go_vret dX11_expect_64 rfl rfl ?_
          refine ⟨rfl, congrArg (wd (gg b)) ?_⟩
          rw [pwl, if_neg c34, xst]
          simp only [Bool.false_eq_true, if_false]
          rw [us_id hA]
        | cons d ds =>
          rw [show pI (d :: ds).length = nI ds.length from rfl]
          simp only [List.length_cons] at h8
          refine go_iload dX11_expect_5 rfl ?_
          refine go_if_ltN 64 dX11_expect_7 (by decide) (by omega) ?_
          refine go_aload_n dX11_expect_10 rfl ?_
          refine gs_gi dX11_expect_11 flX11_211 (gg_47 b) rfl (hF2) ?_
          refine go_if_geN 64 dX11_expect_14 (by decide) (by omega) ?_
          refine go_vret dX11_expect_64 rfl rfl ?_
          refine ⟨rfl, congrArg (wd (gg b)) ?_⟩
          rw [pwl, if_neg c34, xst]
          simp only [Bool.false_eq_true, if_false]
          rw [us_id hA]
  refine go_iload_n dX11_expect_0 rfl ?_
  refine go_iconst (v := nI 1) dX11_expect_1 (by decide) ?_
  refine go_isub dX11_expect_2 ?_
  refine go_topI (show _ = pI cs.length by rw [hmany, nI_pI]) ?_
  refine go_istore (lv' := [_, _, _, _, _]) dX11_expect_3 rfl rfl rfl ?_
  exact go_wk (by exact ⟨rfl, rfl, rfl, rfl, trivial⟩) (loop cs a σ h8 ho hl hA hF (by omega))
