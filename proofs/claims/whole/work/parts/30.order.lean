theorem gs_callVvA {κ : gm_K} {μ : gm_M} {pc : Nat} {lv : List (Option Value)} {st : List Value} {g : wg_G} {σ : wg_S} {n n' : Nat × Nat} {Φ : Option Value → gm_H → Prop} {μ' : gm_M} {idx k b ci : Nat} {As stk : List Value} {fds : List (Option Nat)} {g' : wg_G} {σ' : wg_S} (hd : decode μ.2.1 pc = .ok (.invokevirtual idx, 3)) (hw : gm_CV μ μ' idx k) (hC : Fn κ μ' (.ref b :: As) g σ none g' σ') (hst : stk = As.reverse ++ .ref b :: st) (hb : g[b]? = some (.inl (ci, fds))) (hci : (vwCl[ci]?).map Prod.fst = some μ'.1.cls) (hk : As.length = k) (hs : Nat.ble ((st.map fun v => v.category).sum) 8 = true) (hn : (Nat.ble (n.1 + μ'.2.2.2.2.cells) μ.2.2.2.2.cells && Nat.ble (n.2 + μ'.2.2.2.2.slots) μ.2.2.2.2.slots) = true) (hn' : (n.1 + μ'.2.2.2.2.cells, n.2 + μ'.2.2.2.2.slots) = n')
    (kk : Go κ μ (pc + 3) lv st (wd g' σ') n' Φ) : Go κ μ pc lv stk (wd g σ) n Φ :=
  go_callV hd hw hC hst (wd_o hb) hci hk hs hn (fun r h' hq => by obtain ⟨rfl, rfl⟩ := hq; rw [hn']; exact kk)
theorem CI_of {σ τ : wg_S} {n m j r : Nat} (h1 : τ 1 = σ 1) (h9 : τ 9 = σ 9) (h14 : τ 14 = σ 14) (h22 : τ 22 = σ 22) (h25 : τ 25 = σ 25) (C : CI σ n m j r) : CI τ n m j r := by
  unfold CI tn at *
  rw [h1, h9, h14, h22, h25]
  exact C
def pal (σ : wg_S) (n j r : Nat) (set : Int32) : Nat → Nat × wg_S
  | 0 => (0, σ)
  | i + 1 => if bv set i = nI 1 then ((pal σ n j r set i).1 + 1, s_padd (pal σ n j r set i).2 (pal σ n j r set i).1 (nI i) (ctm (pal σ n j r set i).2 n j r i)) else pal σ n j r set i
theorem pal_s (σ : wg_S) (n j r : Nat) (set : Int32) (i : Nat) : pal σ n j r set (i + 1) = if bv set i = nI 1 then ((pal σ n j r set i).1 + 1, s_padd (pal σ n j r set i).2 (pal σ n j r set i).1 (nI i) (ctm (pal σ n j r set i).2 n j r i)) else pal σ n j r set i := rfl
theorem pal_le (σ : wg_S) (n j r : Nat) (set : Int32) : ∀ i, (pal σ n j r set i).1 ≤ i
  | 0 => Nat.le_refl _
  | i + 1 => by
    rw [pal_s]
    have := pal_le σ n j r set i
    split
    · show _ + 1 ≤ _; omega
    · omega
theorem pal_p {σ : wg_S} {n j r : Nat} {set : Int32} {p : Nat} (h1 : p ≠ 34) (h2 : p ≠ 36) (h3 : p ≠ 37) : ∀ i, (pal σ n j r set i).2 p = σ p
  | 0 => rfl
  | i + 1 => by
    rw [pal_s]
    split
    · show s_padd _ _ _ _ p = _
      rw [s_padd, us_p h1, us_p h3, us_p h2]; exact pal_p h1 h2 h3 i
    · exact pal_p h1 h2 h3 i
theorem pal_n {σ : wg_S} {n j r : Nat} {set : Int32} (h : σ 34 2 = nI 0) : ∀ i, (pal σ n j r set i).2 34 2 = nI (pal σ n j r set i).1
  | 0 => h
  | i + 1 => by
    rw [pal_s]
    split
    · have e : s_padd (pal σ n j r set i).2 (pal σ n j r set i).1 (nI i) (ctm (pal σ n j r set i).2 n j r i) 34 2 = nI ((pal σ n j r set i).1 + 1) := by rw [s_padd, us_s]
      exact e
    · exact pal_n h i
theorem beg_n (b : Bool) (σ : wg_S) : s_beg b σ 34 2 = nI 0 := by cases b <;> simp [s_beg, us, upd, ua]
theorem beg_p (b : Bool) (σ : wg_S) {p : Nat} (h1 : p ≠ 34) (h2 : p ≠ 85) : s_beg b σ p = σ p := by cases b <;> simp [s_beg, us, ua, h1, h2]
/-- the cells when the songs are told and priced, and when the sums are found -/
def o_pal (b : Bool) (σ : wg_S) (n m j r : Nat) (set : Int32) : Nat × wg_S := pal (s_beg b σ) n j r set m
def o_prc (b : Bool) (σ : wg_S) (n m j r : Nat) (set : Int32) : wg_S := ua (o_pal b σ n m j r set).2 38 (csr (o_pal b σ n m j r set).2 (o_pal b σ n m j r set).1 n (om (fun i => decide ((o_pal b σ n m j r set).2 2 i = nI 3)) n) (o_pal b σ n m j r set).1 0)
def o_sum (b : Bool) (σ : wg_S) (n m j r : Nat) (set : Int32) : wg_S := lso (o_prc b σ n m j r set) (o_pal b σ n m j r set).1 (2 ^ (o_pal b σ n m j r set).1 - 1)
def o_lst (b : Bool) (σ : wg_S) (n m j r : Nat) (set : Int32) : Int32 := lsm (o_sum b σ n m j r set) (o_pal b σ n m j r set).1
def K_order (b : Bool) (σ : wg_S) (n m j r : Nat) (set : Int32) : Int32 × Bool × wg_S :=
  if set = 0 then (-2, b, σ) else if ¬ set &&& -(nI 1 <<< (σ 9 0 &&& 31)) = 0 then (-2, b, σ)
  else if o_lst b σ n m j r set < 1000000 then (o_lst b σ n m j r set, true, us (kor (o_sum b σ n m j r set) (o_pal b σ n m j r set).1 (o_lst b σ n m j r set) (o_pal b σ n m j r set).1).2.2.2 34 0 (nI (o_pal b σ n m j r set).1))
  else (-3, true, o_sum b σ n m j r set)
theorem cX10_order_ok (κ : gm_K) (b : Bool) (σ : wg_S) (n m j r : Nat) (C : CI σ n m j r) (set : Int32) : Fn κ mX10_order [.ref 0, .int set] (gg b) σ (some (.int (K_order b σ n m j r set).1)) (gg (K_order b σ n m j r set).2.1) (K_order b σ n m j r set).2.2 := by
  refine go_start (by decide) (Nat.le_of_ble_eq_true rfl) ?_
  obtain ⟨⟨hN, hn⟩, ⟨hM, hm⟩, ⟨hJ, hj⟩, ⟨hR, hr⟩, hT⟩ := id C
  refine go_iload_n dX10_order_0 rfl ?_
  refine go_if_eq 15 dX10_order_1 (by decide) (fun c1 => ?_) (fun c1 => ?_)
  · refine go_bipush (v := -2) dX10_order_15 (by decide) ?_
    refine go_iret dX10_order_17 rfl rfl ?_
    rw [K_order, if_pos c1]; exact ⟨rfl, rfl⟩
  · refine go_aload_n dX10_order_4 rfl ?_
    refine gs_gr dX10_order_5 flX10_19 (gg_0 b) rfl ?_
    refine go_iload_n dX10_order_8 rfl ?_
    refine gs_callVi dX10_order_9 cvX10_order_255 (cX7_hasAll_ok κ b σ _) rfl (gg_9 b) rfl rfl rfl ⟨rfl, rfl⟩ rfl ?_
    refine go_if_neB 18 dX10_order_12 (by decide) (fun c12 => ?_) (fun c12 => ?_)
    · simp only [decide_eq_true_eq] at c12
      refine go_aload_n dX10_order_18 rfl ?_
      refine gs_gr dX10_order_19 flX10_56 (gg_0 b) rfl ?_
      refine gs_callVvA (n' := (1, 4608)) dX10_order_22 cvX10_order_258 (cX5_begin_ok κ b σ) rfl (gg_34 b) rfl rfl rfl rfl rfl ?_
      show Go κ mX10_order 25 [some (.ref 0), some (.int set), none] [] (wd (gg true) (s_beg b σ)) (1, 4608) _
      refine go_iconst (v := nI 0) dX10_order_25 (by decide) ?_
      refine go_istore_n (lv' := [_, _, _]) dX10_order_26 rfl rfl rfl ?_
      skip
      refine lo_up m (P := fun i => Go κ mX10_order 27 [some (.ref 0), some (.int set), some (.int (nI i))] [] (wd (gg true) (pal (s_beg b σ) n j r set i).2) (1, 4608) _) (fun i hi ih => ?_) 0 (Nat.zero_le _)
      have hle := pal_le (s_beg b σ) n j r set i
      have hnn := pal_n (n := n) (j := j) (r := r) (set := set) (beg_n b σ) i
      have hs' := pal_s (s_beg b σ) n j r set i
      have hC : CI (pal (s_beg b σ) n j r set i).2 n m j r := by
        apply CI_of _ _ _ _ _ C
        · rw [pal_p (by decide) (by decide) (by decide), beg_p b σ (by decide) (by decide)]
        · rw [pal_p (by decide) (by decide) (by decide), beg_p b σ (by decide) (by decide)]
        · rw [pal_p (by decide) (by decide) (by decide), beg_p b σ (by decide) (by decide)]
        · rw [pal_p (by decide) (by decide) (by decide), beg_p b σ (by decide) (by decide)]
        · rw [pal_p (by decide) (by decide) (by decide), beg_p b σ (by decide) (by decide)]
      refine go_iload_n dX10_order_27 rfl ?_
      refine go_aload_n dX10_order_28 rfl ?_
      refine gs_gr dX10_order_29 flX10_19 (gg_0 true) rfl ?_
      refine gs_gi dX10_order_32 flX10_117 (gg_9 true) rfl (hC.2.1.1) ?_
      refine go_icmp_geN 66 dX10_order_35 (by decide) (by omega) (by omega) (fun c35 => ?_) (fun c35 => ?_)
      · have e : i = m := by omega
        subst e
        change Go κ mX10_order 66 _ _ (wd (gg true) (o_pal b σ n i j r set).2) _ _
        change CI (o_pal b σ n i j r set).2 n i j r at hC
        change (o_pal b σ n i j r set).2 34 2 = nI (o_pal b σ n i j r set).1 at hnn
        change (o_pal b σ n i j r set).1 ≤ i at hle
        refine go_aload_n dX10_order_66 rfl ?_
        refine gs_gr dX10_order_67 flX10_56 (gg_0 true) rfl ?_
        refine go_aload_n dX10_order_70 rfl ?_
        refine gs_gr dX10_order_71 flX10_10 (gg_0 true) rfl ?_
        refine gs_callVv dX10_order_74 cvX10_order_264 (cX5_price_ok κ _ n hn hC.1.1 (o_pal b σ n i j r set).1 (by omega) hnn) rfl (gg_34 true) rfl rfl rfl ⟨rfl, rfl⟩ rfl ?_
        refine go_aload_n dX10_order_77 rfl ?_
        refine gs_gr dX10_order_78 flX10_56 (gg_0 true) rfl ?_
        refine gs_callVi dX10_order_81 cvX10_order_267 (cX5_leastSum_ok κ (o_prc b σ n i j r set) (o_pal b σ n i j r set).1 (by omega) ((congrFun (ua_p (by decide)) 2).trans hnn)) rfl (gg_34 true) rfl rfl rfl ⟨rfl, rfl⟩ rfl ?_
        refine go_istore_n (lv' := [_, _, _]) dX10_order_84 rfl rfl rfl ?_
        refine go_iload_n dX10_order_85 rfl ?_
        refine go_ldc_w dX10_order_86 kiX10_270 ?_
        refine go_icmp_lt 95 dX10_order_89 (by decide) (fun c89 => ?_) (fun c89 => ?_)
        · change o_lst b σ n i j r set < 1000000 at c89
          refine go_aload_n dX10_order_95 rfl ?_
          refine gs_gr dX10_order_96 flX10_56 (gg_0 true) rfl ?_
          refine go_iload_n dX10_order_99 rfl ?_
          refine gs_callVv dX10_order_100 cvX10_order_271 (cX5_keepOrder_ok κ (o_sum b σ n i j r set) (o_pal b σ n i j r set).1 (by omega) (((congrFun (lso_p (by decide) _) 2).trans (congrFun (ua_p (by decide)) 2)).trans hnn) _) rfl (gg_34 true) rfl rfl rfl ⟨rfl, rfl⟩ rfl ?_
          refine go_iload_n dX10_order_103 rfl ?_
          refine go_iret dX10_order_104 rfl rfl ?_
          rw [K_order, if_neg c1, if_neg (fun z => z c12), if_pos c89]
          exact ⟨rfl, rfl⟩
        · change ¬ o_lst b σ n i j r set < 1000000 at c89
          refine go_bipush (v := -3) dX10_order_92 (by decide) ?_
          refine go_iret dX10_order_94 rfl rfl ?_
          rw [K_order, if_neg c1, if_neg (fun z => z c12), if_neg c89]
          exact ⟨rfl, rfl⟩
      · refine go_iload_n dX10_order_38 rfl ?_
        refine go_iload_n dX10_order_39 rfl ?_
        refine go_ishr dX10_order_40 ?_
        refine go_iconst (v := nI 1) dX10_order_41 (by decide) ?_
        refine go_iand dX10_order_42 ?_
        refine go_iconst (v := nI 1) dX10_order_43 (by decide) ?_
        refine go_icmp_ne 60 dX10_order_44 (by decide) (fun c44 => ?_) (fun c44 => ?_)
        · change ¬ bv set i = nI 1 at c44
          rw [if_neg c44] at hs'
          refine go_iincN (lv' := [_, _, _]) 1 dX10_order_60 (by decide) rfl rfl rfl rfl ?_
          refine go_goto 27 dX10_order_63 (by decide) ?_
          exact go_wkh (by exact ⟨rfl, rfl, rfl, trivial⟩) (by rw [hs']; try rfl) (ih c35)
        · change bv set i = nI 1 at c44
          rw [if_pos c44] at hs'
          refine go_aload_n dX10_order_47 rfl ?_
          refine gs_gr dX10_order_48 flX10_56 (gg_0 true) rfl ?_
          refine go_iload_n dX10_order_51 rfl ?_
          refine go_aload_n dX10_order_52 rfl ?_
          refine go_iload_n dX10_order_53 rfl ?_
          refine gs_callVi dX10_order_54 cvX10_order_194 (cX10_choirsThatMay_ok κ true _ n m j r hC i (by omega)) rfl (gg_0 true) rfl rfl rfl ⟨rfl, rfl⟩ rfl ?_
          refine gs_callVv dX10_order_57 cvX10_order_261 (cX5_add_ok κ true _ (pal (s_beg b σ) n j r set i).1 (by omega) hnn _ _) rfl (gg_34 true) rfl rfl rfl ⟨rfl, rfl⟩ rfl ?_
          refine go_iincN (lv' := [_, _, _]) 1 dX10_order_60 (by decide) rfl rfl rfl rfl ?_
          refine go_goto 27 dX10_order_63 (by decide) ?_
          exact go_wkh (by exact ⟨rfl, rfl, rfl, trivial⟩) (by rw [hs']; try rfl) (ih c35)
    · simp only [decide_eq_false_iff_not] at c12
      refine go_bipush (v := -2) dX10_order_15 (by decide) ?_
      refine go_iret dX10_order_17 rfl rfl ?_
      rw [K_order, if_neg c1, if_pos c12]; exact ⟨rfl, rfl⟩
def K_lay (σ : wg_S) (n : Nat) (row set : Int32) : Int32 × (Int32 → Int32 → wg_S) :=
  if hs (σ 29 0) row = false then (-1, fun _ _ => σ) else if (!decide (set = 0) && decide (set &&& -(nI 1 <<< (σ 1 0 &&& 31)) = 0)) = false then (-2, fun _ _ => σ)
  else if ¬ bct set ≤ nI 4 then (-2, fun _ _ => σ) else if alb (rdy σ set) n = false then (-3, fun _ _ => σ) else if hrm σ n row (nI 0) (σ 29 1) = false then (-3, fun _ _ => σ)
  else if ¬ sm (fun i => bv set i * σ 6 i) n ≤ σ 29 1 then (-3, fun _ _ => σ)
  else ((bst σ set n).2.2, fun l r => spl (lst (fln σ set n).2 (bst σ set n).1 (bst σ set n).2.1 l r) (bst σ set n).2.1 row (fln σ set n).1)
theorem cX10_lay_ok (κ : gm_K) (b : Bool) (σ : wg_S) (n m j r : Nat) (C : CI σ n m j r) (row set : Int32) (hpre : (!decide (set = 0) && decide (set &&& -(nI 1 <<< (σ 1 0 &&& 31)) = 0)) = true → sm (fun i => bv set i * σ 6 i) n ≤ σ 29 1 → 1 ≤ (fln σ set n).1 ∧ ¬ 1000000 ≤ clv (σ 6) (σ 29 1) ((fln σ set n).2 32) (fln σ set n).1) : Ct κ mX10_lay [.ref 0, .int row, .int set] (wd (gg b) σ) (fun q h' => ∃ l r, q = some (.int (K_lay σ n row set).1) ∧ h' = wd (gg b) ((K_lay σ n row set).2 l r)) := by
  refine go_start (by decide) (Nat.le_of_ble_eq_true rfl) ?_
  obtain ⟨⟨hN, hn⟩, ⟨hM, hm⟩, ⟨hJ, hj⟩, ⟨hR, hr⟩, hT⟩ := id C
  refine go_aload_n dX10_lay_0 rfl ?_
  refine gs_gr dX10_lay_1 flX10_49 (gg_0 b) rfl ?_
  refine go_iload_n dX10_lay_4 rfl ?_
  refine gs_callVi dX10_lay_5 cvX10_lay_210 (cX8_hasRow_ok κ b σ _) rfl (gg_29 b) rfl rfl rfl ⟨rfl, rfl⟩ rfl ?_
  refine go_if_neB 13 dX10_lay_8 (by decide) (fun c8 => ?_) (fun c8 => ?_)
  · have hA : ¬ hs (σ 29 0) row = false := by simp [c8]
    refine go_aload_n dX10_lay_13 rfl ?_
    refine go_iload_n dX10_lay_14 rfl ?_
    refine gs_callVi dX10_lay_15 cvX10_lay_232 (cX10_isSetOfChoirs_ok κ b σ _) rfl (gg_0 b) rfl rfl rfl ⟨rfl, rfl⟩ rfl ?_
    refine go_if_eqB 29 dX10_lay_18 (by decide) (fun c18 => ?_) (fun c18 => ?_)
    · refine go_bipush (v := -2) dX10_lay_29 (by decide) ?_
      refine go_iret dX10_lay_31 rfl rfl ?_
      rw [K_lay, if_neg hA, if_pos c18]; exact ⟨0, 0, rfl, rfl⟩
    · have hB : ¬ (!decide (set = 0) && decide (set &&& -(nI 1 <<< (σ 1 0 &&& 31)) = 0)) = false := by simp only [c18]; decide
      refine go_iload_n dX10_lay_21 rfl ?_
      refine gs_callSi dX10_lay_22 csX10_lay_235 (cJ6_bitCount_ok κ b σ _) rfl rfl rfl ⟨rfl, rfl⟩ rfl ?_
      refine go_iconst (v := nI 4) dX10_lay_25 (by decide) ?_
      refine go_icmp_le 32 dX10_lay_26 (by decide) (fun c26 => ?_) (fun c26 => ?_)
      · refine go_aload_n dX10_lay_32 rfl ?_
        refine go_iload_n dX10_lay_33 rfl ?_
        refine gs_callVi dX10_lay_34 cvX10_lay_240 (cX10_areReadyToBeLaid_ok κ b σ n hn hN _) rfl (gg_0 b) rfl rfl rfl ⟨rfl, rfl⟩ rfl ?_
        refine go_if_eqB 69 dX10_lay_37 (by decide) (fun c37 => ?_) (fun c37 => ?_)
        · refine go_bipush (v := -3) dX10_lay_69 (by decide) ?_
          refine go_iret dX10_lay_71 rfl rfl ?_
          rw [K_lay, if_neg hA, if_neg hB, if_neg (fun z => z c26), if_pos c37]; exact ⟨0, 0, rfl, rfl⟩
        · have hD : ¬ alb (rdy σ set) n = false := by simp [c37]
          refine go_aload_n dX10_lay_40 rfl ?_
          refine gs_gr dX10_lay_41 flX10_49 (gg_0 b) rfl ?_
          refine go_iload_n dX10_lay_44 rfl ?_
          refine gs_callVi dX10_lay_45 cvX10_lay_243 (cX8_isFree_ok κ b σ n hn hN _) rfl (gg_29 b) rfl rfl rfl ⟨rfl, rfl⟩ rfl ?_
          refine go_if_eqB 69 dX10_lay_48 (by decide) (fun c48 => ?_) (fun c48 => ?_)
          · refine go_bipush (v := -3) dX10_lay_69 (by decide) ?_
            refine go_iret dX10_lay_71 rfl rfl ?_
            rw [K_lay, if_neg hA, if_neg hB, if_neg (fun z => z c26), if_neg hD, if_pos c48]; exact ⟨0, 0, rfl, rfl⟩
          · have hE : ¬ hrm σ n row (nI 0) (σ 29 1) = false := by simp [c48]
            refine go_aload_n dX10_lay_51 rfl ?_
            refine gs_gr dX10_lay_52 flX10_10 (gg_0 b) rfl ?_
            refine go_iload_n dX10_lay_55 rfl ?_
            refine gs_callVi dX10_lay_56 cvX10_lay_246 (cX0_sizeOfSet_ok κ b σ n hn hN _) rfl (gg_1 b) rfl rfl rfl ⟨rfl, rfl⟩ rfl ?_
            refine go_aload_n dX10_lay_59 rfl ?_
            refine gs_gr dX10_lay_60 flX10_49 (gg_0 b) rfl ?_
            refine gs_gi dX10_lay_63 flX10_207 (gg_29 b) rfl (rfl) ?_
            refine go_icmp_le 72 dX10_lay_66 (by decide) (fun c66 => ?_) (fun c66 => ?_)
            · refine go_aload_n dX10_lay_72 rfl ?_
              refine gs_gr dX10_lay_73 flX10_49 (gg_0 b) rfl ?_
              refine go_iload_n dX10_lay_76 rfl ?_
              refine go_iload_n dX10_lay_77 rfl ?_
              obtain ⟨h1, hm1⟩ := hpre c18 c66
              refine go_callV dX10_lay_78 cvX10_lay_249 (cX8_putBestLine_ok κ b σ n hn hN row set h1 hm1) rfl (wd_o (gg_29 b)) rfl rfl rfl rfl (fun q h' hq => ?_)
              obtain ⟨l, r, rfl, rfl⟩ := hq
              refine go_iret dX10_lay_81 rfl rfl ?_
              rw [K_lay, if_neg hA, if_neg hB, if_neg (fun z => z c26), if_neg hD, if_neg hE, if_neg (fun z => z c66)]
              exact ⟨l, r, rfl, rfl⟩
            · refine go_bipush (v := -3) dX10_lay_69 (by decide) ?_
              refine go_iret dX10_lay_71 rfl rfl ?_
              rw [K_lay, if_neg hA, if_neg hB, if_neg (fun z => z c26), if_neg hD, if_neg hE, if_pos c66]; exact ⟨0, 0, rfl, rfl⟩
      · refine go_bipush (v := -2) dX10_lay_29 (by decide) ?_
        refine go_iret dX10_lay_31 rfl rfl ?_
        rw [K_lay, if_neg hA, if_neg hB, if_pos c26]; exact ⟨0, 0, rfl, rfl⟩
  · refine go_iconst (v := -1) dX10_lay_11 (by decide) ?_
    refine go_iret dX10_lay_12 rfl rfl ?_
    rw [K_lay, if_pos c8]
    exact ⟨0, 0, rfl, rfl⟩
def byt (w : Int64) (i : Nat) : Int32 := ((w >>> ((nI (8 * i)).toInt64 &&& 63)) &&& 255).toInt32
def apd (σ : wg_S) (w : Int64) (l k : Nat) : Nat → wg_S
  | 0 => σ
  | i + 1 => us (us (apd σ w l k i) 18 (l + i) (byt w (k - 1 - i))) 17 0 (nI (l + i + 1))
theorem apd_n {σ : wg_S} {w : Int64} {l k : Nat} (h : σ 17 0 = nI l) : ∀ i, apd σ w l k i 17 0 = nI (l + i)
  | 0 => h
  | i + 1 => by rw [apd, us_s]; rfl
theorem cX9_append_ok (κ : gm_K) (b : Bool) (σ : wg_S) (w : Int64) (l k : Nat) (hl : σ 17 0 = nI l) (hk : k ≤ 8) (hlk : l + k ≤ 120) : Fn κ mX9_append [.ref 17, .long w, .int (nI k)] (gg b) σ (some (.int (nI (l + k)))) (gg b) (apd σ w l k k) := by
  refine go_start (by decide) (Nat.le_of_ble_eq_true rfl) ?_
  have loop : ∀ (x i : Nat), x + i = k → Go κ mX9_append 5 [some (.ref 17), some (.long w), none, some (.int (nI k)), some (.int (pI x))] [] (wd (gg b) (apd σ w l k i)) (0, 0) (fun r h' => r = some (.int (nI (l + k))) ∧ h' = wd (gg b) (apd σ w l k k)) := by
    intro x
    induction x with
    | zero =>
      intro i hi
      obtain rfl : i = k := by omega
      have hn := apd_n (w := w) (k := i) hl i
      rw [show pI 0 = -1 from rfl]
      refine go_iload dX9_append_5 rfl ?_
      refine go_if_lt 56 dX9_append_7 (by decide) (fun _ => ?_) (fun z => absurd z (by decide))
      refine go_aload_n dX9_append_56 rfl ?_
      refine gs_gi dX9_append_57 flX9_9 (gg_17 b) rfl (hn) ?_
      refine go_iret dX9_append_60 rfl rfl ?_
      exact ⟨rfl, rfl⟩
    | succ x ih =>
      intro i hi
      have hn := apd_n (w := w) (k := k) hl i
      rw [show pI (x + 1) = nI x from rfl]
      refine go_iload dX9_append_5 rfl ?_
      refine go_if_ltN 56 dX9_append_7 (by decide) (by omega) ?_
      refine go_aload_n dX9_append_10 rfl ?_
      refine gs_gi dX9_append_11 flX9_9 (gg_17 b) rfl (hn) ?_
      refine go_bipush (v := nI 120) dX9_append_14 (by decide) ?_
      refine go_icmp_geN 56 dX9_append_16 (by decide) (by omega) (by omega) (fun c16 => ?_) (fun c16 => ?_)
      · exact absurd c16 (by omega)
      · refine go_aload_n dX9_append_19 rfl ?_
        refine gs_gr dX9_append_20 flX9_28 (gg_17 b) rfl ?_
        refine go_aload_n dX9_append_23 rfl ?_
        refine gs_gi dX9_append_24 flX9_9 (gg_17 b) rfl (hn) ?_
        refine go_lload_n dX9_append_27 rfl ?_
        refine go_bipush (v := nI 8) dX9_append_28 (by decide) ?_
        refine go_iload dX9_append_30 rfl ?_
        refine go_imulN dX9_append_32 ?_
        refine go_lshr dX9_append_33 ?_
        refine go_ldc2 dX9_append_34 klX9_41 ?_
        refine go_land dX9_append_37 ?_
        refine go_l2i dX9_append_38 ?_
        refine gs_iast (_) dX9_append_39 (gg_18 b) (rfl) (by omega) rfl ?_
        refine go_aload_n dX9_append_40 rfl ?_
        refine go_dup dX9_append_41 rfl ?_
        refine gs_gi dX9_append_42 flX9_9 (gg_17 b) rfl (show _ = nI (l + i) by rw [us_p (by decide)]; exact hn) ?_
        refine go_iconst (v := nI 1) dX9_append_45 (by decide) ?_
        refine go_iaddN dX9_append_46 ?_
        refine gs_pi dX9_append_47 flX9_9 (gg_17 b) rfl (fun q hq => by cases hq; exact ⟨rfl, rfl⟩) ?_
        refine go_iinc (lv' := [_, _, _, _, _]) dX9_append_50 rfl (pI_dec x) rfl rfl rfl ?_
        refine go_goto 5 dX9_append_53 (by decide) ?_
        have e : k - 1 - i = x := by omega
        exact go_wkh (by exact ⟨rfl, rfl, rfl, rfl, trivial⟩) (by rw [apd, e]; rfl) (ih (i + 1) (by omega))
  refine go_iload_n dX9_append_0 rfl ?_
  refine go_iconst (v := nI 1) dX9_append_1 (by decide) ?_
  refine go_isub dX9_append_2 ?_
  refine go_istore (lv' := [_, _, _, _, _]) dX9_append_3 rfl rfl rfl ?_
  refine go_wk ?_ (loop k 0 (by omega))
  have e : nI k - nI 1 = pI k := by
    cases k with
    | zero => decide
    | succ k => exact nI_pred k
  exact ⟨rfl, rfl, rfl, congrArg (fun z => some (Value.int z)) e, trivial⟩
def K_feed (σ : wg_S) (l : Nat) (w : Int64) (k : Int32) : Int32 × wg_S := if wi k (nI 1) (nI 8) = false then (-2, σ) else if σ 17 0 + k ≤ nI 120 then (nI (l + k.toNatClampNeg), apd σ w l k.toNatClampNeg k.toNatClampNeg) else (-4, σ)
theorem wi_ix {k : Int32} {a b : Nat} (ha : a < 2 ^ 30) (hb : b < 2 ^ 30) (h : wi k (nI a) (nI b) = true) : ∃ x, a ≤ x ∧ x ≤ b ∧ k = nI x := by
  simp only [wi, Bool.and_eq_true, Bool.not_eq_true', decide_eq_false_iff_not] at h
  rcases pk_ix k (n := b + 1) (by omega) with h1 | h1 | ⟨x, h1, rfl⟩
  · exfalso
    apply h.1
    exact Int32.lt_of_lt_of_le h1 (nI_pos' (by omega))
  · exfalso
    apply h.2
    exact Int32.lt_of_lt_of_le (nI_lt (by omega) (by omega)) h1
  · refine ⟨x, ?_, by omega, rfl⟩
    rcases Nat.lt_or_ge x a with h2 | h2
    · exfalso
      exact h.1 (nI_lt h2 (by omega))
    · exact h2
theorem cX10_feed_ok (κ : gm_K) (b : Bool) (σ : wg_S) (l : Nat) (hl : σ 17 0 = nI l) (hl2 : l ≤ 120) (w : Int64) (k : Int32) : Fn κ mX10_feed [.ref 0, .long w, .int k] (gg b) σ (some (.int ((K_feed σ l w k).1))) (gg b) (K_feed σ l w k).2 := by
  refine go_start (by decide) (Nat.le_of_ble_eq_true rfl) ?_
  refine go_iload_n dX10_feed_0 rfl ?_
  refine go_iconst (v := nI 1) dX10_feed_1 (by decide) ?_
  refine go_bipush (v := nI 8) dX10_feed_2 (by decide) ?_
  refine gs_callSi dX10_feed_4 csX10_feed_114 (cX10_isWithin_ok κ b σ _ _ _) rfl rfl rfl ⟨rfl, rfl⟩ rfl ?_
  refine go_if_neB 13 dX10_feed_7 (by decide) (fun c7 => ?_) (fun c7 => ?_)
  · have hA : ¬ wi k (nI 1) (nI 8) = false := by simp [c7]
    obtain ⟨x, h1, h8, rfl⟩ := wi_ix (by decide) (by decide) c7
    have ex := nI_clamp (show x < 2 ^ 31 by omega)
    refine go_aload_n dX10_feed_13 rfl ?_
    refine gs_gr dX10_feed_14 flX10_33 (gg_0 b) rfl ?_
    refine gs_gi dX10_feed_17 flX10_169 (gg_17 b) rfl (rfl) ?_
    refine go_iload_n dX10_feed_20 rfl ?_
    refine go_iadd dX10_feed_21 ?_
    refine go_bipush (v := nI 120) dX10_feed_22 (by decide) ?_
    refine go_icmp_le 30 dX10_feed_24 (by decide) (fun c24 => ?_) (fun c24 => ?_)
    · have hle : l + x ≤ 120 := by
        have z := c24
        rw [hl, nI_add] at z
        exact (nI_leI (by omega) (by decide)).mp z
      refine go_aload_n dX10_feed_30 rfl ?_
      refine gs_gr dX10_feed_31 flX10_33 (gg_0 b) rfl ?_
      refine go_lload_n dX10_feed_34 rfl ?_
      refine go_iload_n dX10_feed_35 rfl ?_
      refine gs_callVi dX10_feed_36 cvX10_feed_172 (cX9_append_ok κ b σ w l x hl (by omega) (by omega)) rfl (gg_17 b) rfl rfl rfl ⟨rfl, rfl⟩ rfl ?_
      refine go_iret dX10_feed_39 rfl rfl ?_
      rw [K_feed, if_neg hA, if_pos c24, ex]
      exact ⟨rfl, rfl⟩
    · refine go_bipush (v := -4) dX10_feed_27 (by decide) ?_
      refine go_iret dX10_feed_29 rfl rfl ?_
      rw [K_feed, if_neg hA, if_neg c24]
      exact ⟨rfl, rfl⟩
  · refine go_bipush (v := -2) dX10_feed_10 (by decide) ?_
    refine go_iret dX10_feed_12 rfl rfl ?_
    rw [K_feed, if_pos c7]
    exact ⟨rfl, rfl⟩
