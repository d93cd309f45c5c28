theorem cX8_hasRow_ok (κ : gm_K) (b : Bool) (σ : wg_S) (r : Int32) : Fn κ mX8_hasRow [.ref 29, .int r] (gg b) σ (some (.int (bi (hs (σ 29 0) r)))) (gg b) σ := by
  refine go_start (by decide) (Nat.le_of_ble_eq_true rfl) ?_
  refine go_iload_n dX8_hasRow_0 rfl ?_
  refine go_if_lt 16 dX8_hasRow_1 (by decide) (fun c1 => ?_) (fun c1 => ?_)
  · refine go_iconst (v := nI 0) dX8_hasRow_16 (by decide) ?_
    refine go_zret dX8_hasRow_17 rfl rfl (by decide) ?_
    exact ⟨by simp +decide [c1, bi, hs], rfl⟩
  · refine go_iload_n dX8_hasRow_4 rfl ?_
    refine go_aload_n dX8_hasRow_5 rfl ?_
    refine gs_gi dX8_hasRow_6 flX8_9 (gg_29 b) rfl (rfl) ?_
    refine go_icmp_ge 16 dX8_hasRow_9 (by decide) (fun c9 => ?_) (fun c9 => ?_)
    · refine go_iconst (v := nI 0) dX8_hasRow_16 (by decide) ?_
      refine go_zret dX8_hasRow_17 rfl rfl (by decide) ?_
      exact ⟨by simp +decide [c1, c9, bi, hs], rfl⟩
    · refine go_iconst (v := nI 1) dX8_hasRow_12 (by decide) ?_
      refine go_goto 17 dX8_hasRow_13 (by decide) ?_
      refine go_zret dX8_hasRow_17 rfl rfl (by decide) ?_
      exact ⟨by simp +decide [c1, c9, bi, hs], rfl⟩
theorem cX8_holds_ok (κ : gm_K) (b : Bool) (σ : wg_S) (c : Nat) (hc : c < 16) : Fn κ mX8_holds [.ref 29, .int (nI c)] (gg b) σ (some (.int (bi (!decide (σ 30 c = -1))))) (gg b) σ := by
  refine go_start (by decide) (Nat.le_of_ble_eq_true rfl) ?_
  refine go_aload_n dX8_holds_0 rfl ?_
  refine gs_gr dX8_holds_1 flX8_18 (gg_29 b) rfl ?_
  refine go_iload_n dX8_holds_4 rfl ?_
  refine gs_iald (_) dX8_holds_5 (gg_30 b) (rfl) (by omega) rfl (rfl) ?_
  refine go_iconst (v := -1) dX8_holds_6 (by decide) ?_
  refine go_icmp_eq 14 dX8_holds_7 (by decide) (fun c7 => ?_) (fun c7 => ?_)
  · refine go_iconst (v := nI 0) dX8_holds_14 (by decide) ?_
    refine go_zret dX8_holds_15 rfl rfl (by decide) ?_
    exact ⟨by simp +decide [c7, bi], rfl⟩
  · refine go_iconst (v := nI 1) dX8_holds_10 (by decide) ?_
    refine go_goto 15 dX8_holds_11 (by decide) ?_
    refine go_zret dX8_holds_15 rfl rfl (by decide) ?_
    exact ⟨by simp +decide [c7, bi], rfl⟩
theorem cX8_blocks_ok (κ : gm_K) (b : Bool) (σ : wg_S) (n : Nat) (hn : n ≤ 16) (hN : σ 1 0 = nI n) : Fn κ mX8_blocks [.ref 29] (gg b) σ (some (.int (sm (fun i => if σ 30 i = -1 then nI 0 else nI 1) n))) (gg b) σ := by
  refine go_start (by decide) (Nat.le_of_ble_eq_true rfl) ?_
  refine go_iconst (v := nI 0) dX8_blocks_0 (by decide) ?_
  refine go_istore_n (lv' := [_, _, _]) dX8_blocks_1 rfl rfl rfl ?_
  refine go_iconst (v := nI 0) dX8_blocks_2 (by decide) ?_
  refine go_istore_n (lv' := [_, _, _]) dX8_blocks_3 rfl rfl rfl ?_
  skip
  refine lo_up n (P := fun i => Go κ mX8_blocks 4 [some (.ref 29), some (.int (sm (fun i => if σ 30 i = -1 then nI 0 else nI 1) i)), some (.int (nI i))] [] (wd (gg b) σ) (0, 0) _) (fun i hi ih => ?_) 0 (Nat.zero_le _)
  refine go_iload_n dX8_blocks_4 rfl ?_
  refine go_aload_n dX8_blocks_5 rfl ?_
  refine gs_gr dX8_blocks_6 flX8_37 (gg_29 b) rfl ?_
  refine gs_gi dX8_blocks_9 flX8_47 (gg_1 b) rfl (hN) ?_
  refine go_icmp_geN 37 dX8_blocks_12 (by decide) (by omega) (by omega) (fun c12 => ?_) (fun c12 => ?_)
  · refine go_iload_n dX8_blocks_37 rfl ?_
    refine go_iret dX8_blocks_38 rfl rfl ?_
    have e : i = n := by omega
    subst e
    exact ⟨rfl, rfl⟩
  · refine go_iload_n dX8_blocks_15 rfl ?_
    refine go_aload_n dX8_blocks_16 rfl ?_
    refine go_iload_n dX8_blocks_17 rfl ?_
    refine gs_callVi dX8_blocks_18 cvX8_blocks_52 (cX8_holds_ok κ b σ _ (by omega)) rfl (gg_29 b) rfl rfl rfl ⟨rfl, rfl⟩ rfl ?_
    refine go_if_eqB 28 dX8_blocks_21 (by decide) (fun c21 => ?_) (fun c21 => ?_)
    · refine go_iconst (v := nI 0) dX8_blocks_28 (by decide) ?_
      refine go_iadd dX8_blocks_29 ?_
      refine go_istore_n (lv' := [_, _, _]) dX8_blocks_30 rfl rfl rfl ?_
      refine go_iincN (lv' := [_, _, _]) 1 dX8_blocks_31 (by decide) rfl rfl rfl rfl ?_
      refine go_goto 4 dX8_blocks_34 (by decide) ?_
      simp at c21
      exact go_wk (by simp [lvle, sm, c12, c21]) (ih c12)
    · refine go_iconst (v := nI 1) dX8_blocks_24 (by decide) ?_
      refine go_goto 29 dX8_blocks_25 (by decide) ?_
      refine go_iadd dX8_blocks_29 ?_
      refine go_istore_n (lv' := [_, _, _]) dX8_blocks_30 rfl rfl rfl ?_
      refine go_iincN (lv' := [_, _, _]) 1 dX8_blocks_31 (by decide) rfl rfl rfl rfl ?_
      refine go_goto 4 dX8_blocks_34 (by decide) ?_
      simp at c21
      exact go_wk (by simp [lvle, sm, c12, c21]) (ih c12)
def aps (σ : wg_S) (r p s : Int32) (i : Nat) : Bool := !decide (σ 30 i = r) || decide (p + s ≤ σ 31 i) || !decide (p < σ 31 i + σ 6 i)
def hrm (σ : wg_S) (n : Nat) (r p s : Int32) : Bool := decide (p + s ≤ σ 29 1) && alb (aps σ r p s) n
theorem cX8_hasRoom_ok (κ : gm_K) (b : Bool) (σ : wg_S) (n : Nat) (hn : n ≤ 16) (hN : σ 1 0 = nI n) (r p s : Int32) : Fn κ mX8_hasRoom [.ref 29, .int r, .int p, .int s] (gg b) σ (some (.int (bi (hrm σ n r p s)))) (gg b) σ := by
  refine go_start (by decide) (Nat.le_of_ble_eq_true rfl) ?_
  refine go_iload_n dX8_hasRoom_0 rfl ?_
  refine go_iload_n dX8_hasRoom_1 rfl ?_
  refine go_iadd dX8_hasRoom_2 ?_
  refine go_aload_n dX8_hasRoom_3 rfl ?_
  refine gs_gi dX8_hasRoom_4 flX8_15 (gg_29 b) rfl (rfl) ?_
  refine go_icmp_le 12 dX8_hasRoom_7 (by decide) (fun c7 => ?_) (fun c7 => ?_)
  · refine go_iconst (v := nI 0) dX8_hasRoom_12 (by decide) ?_
    refine go_istore (lv' := [_, _, _, _, _, _]) dX8_hasRoom_13 rfl rfl rfl ?_
    have loop : ∀ (i : Nat), i ≤ n → alb (aps σ r p s) i = true → Go κ mX8_hasRoom 15 [some (.ref 29), some (.int r), some (.int p), some (.int s), some (.int (nI i)), none] [] (wd (gg b) σ) (0, 0) (fun q h' => q = some (.int (bi (hrm σ n r p s))) ∧ h' = wd (gg b) σ) := by
      refine lo_up n (fun i hi ih ha => ?_)
      refine go_iload dX8_hasRoom_15 rfl ?_
      refine go_aload_n dX8_hasRoom_17 rfl ?_
      refine gs_gr dX8_hasRoom_18 flX8_37 (gg_29 b) rfl ?_
      refine gs_gi dX8_hasRoom_21 flX8_47 (gg_1 b) rfl (hN) ?_
      refine go_icmp_geN 93 dX8_hasRoom_24 (by decide) (by omega) (by omega) (fun c24 => ?_) (fun c24 => ?_)
      · refine go_iconst (v := nI 1) dX8_hasRoom_93 (by decide) ?_
        refine go_zret dX8_hasRoom_94 rfl rfl (by decide) ?_
        have e : i = n := by omega
        subst e
        exact ⟨by simp [bi, hrm, ha, c7], rfl⟩
      · refine go_aload_n dX8_hasRoom_27 rfl ?_
        refine gs_gr dX8_hasRoom_28 flX8_22 (gg_29 b) rfl ?_
        refine go_iload dX8_hasRoom_31 rfl ?_
        refine gs_iald (_) dX8_hasRoom_33 (gg_31 b) (rfl) (by omega) rfl (rfl) ?_
        refine go_iload_n dX8_hasRoom_34 rfl ?_
        refine go_iload_n dX8_hasRoom_35 rfl ?_
        refine go_iadd dX8_hasRoom_36 ?_
        refine go_icmp_ge 62 dX8_hasRoom_37 (by decide) (fun c37 => ?_) (fun c37 => ?_)
        · refine go_iconst (v := nI 1) dX8_hasRoom_62 (by decide) ?_
          refine go_goto 67 dX8_hasRoom_63 (by decide) ?_
          refine go_istore (lv' := [_, _, _, _, _, _]) dX8_hasRoom_67 rfl rfl rfl ?_
          refine go_aload_n dX8_hasRoom_69 rfl ?_
          refine gs_gr dX8_hasRoom_70 flX8_18 (gg_29 b) rfl ?_
          refine go_iload dX8_hasRoom_73 rfl ?_
          refine gs_iald (_) dX8_hasRoom_75 (gg_30 b) (rfl) (by omega) rfl (rfl) ?_
          refine go_iload_n dX8_hasRoom_76 rfl ?_
          refine go_icmp_ne 87 dX8_hasRoom_77 (by decide) (fun c77 => ?_) (fun c77 => ?_)
          · refine go_iincN (lv' := [_, _, _, _, _, _]) 1 dX8_hasRoom_87 (by decide) rfl rfl rfl rfl ?_
            refine go_goto 15 dX8_hasRoom_90 (by decide) ?_
            exact go_wk (by simp [lvle]) (ih c24 (by simp [alb, ha, aps, c24, c37, c77]))
          · refine go_iload dX8_hasRoom_80 rfl ?_
            refine go_if_ne 87 dX8_hasRoom_82 (by decide) (fun _ => ?_) (fun z => absurd z (by decide))
            refine go_iincN (lv' := [_, _, _, _, _, _]) 1 dX8_hasRoom_87 (by decide) rfl rfl rfl rfl ?_
            refine go_goto 15 dX8_hasRoom_90 (by decide) ?_
            exact go_wk (by simp [lvle]) (ih c24 (by simp [alb, ha, aps, c24, c37, c77]))
        · refine go_aload_n dX8_hasRoom_40 rfl ?_
          refine gs_gr dX8_hasRoom_41 flX8_22 (gg_29 b) rfl ?_
          refine go_iload dX8_hasRoom_44 rfl ?_
          refine gs_iald (_) dX8_hasRoom_46 (gg_31 b) (rfl) (by omega) rfl (rfl) ?_
          refine go_aload_n dX8_hasRoom_47 rfl ?_
          refine gs_gr dX8_hasRoom_48 flX8_37 (gg_29 b) rfl ?_
          refine gs_gr dX8_hasRoom_51 flX8_60 (gg_1 b) rfl ?_
          refine go_iload dX8_hasRoom_54 rfl ?_
          refine gs_iald (_) dX8_hasRoom_56 (gg_6 b) (rfl) (by omega) rfl (rfl) ?_
          refine go_iadd dX8_hasRoom_57 ?_
          refine go_iload_n dX8_hasRoom_58 rfl ?_
          refine go_icmp_gt 66 dX8_hasRoom_59 (by decide) (fun c59 => ?_) (fun c59 => ?_)
          · refine go_iconst (v := nI 0) dX8_hasRoom_66 (by decide) ?_
            refine go_istore (lv' := [_, _, _, _, _, _]) dX8_hasRoom_67 rfl rfl rfl ?_
            refine go_aload_n dX8_hasRoom_69 rfl ?_
            refine gs_gr dX8_hasRoom_70 flX8_18 (gg_29 b) rfl ?_
            refine go_iload dX8_hasRoom_73 rfl ?_
            refine gs_iald (_) dX8_hasRoom_75 (gg_30 b) (rfl) (by omega) rfl (rfl) ?_
            refine go_iload_n dX8_hasRoom_76 rfl ?_
            refine go_icmp_ne 87 dX8_hasRoom_77 (by decide) (fun c77 => ?_) (fun c77 => ?_)
            · refine go_iincN (lv' := [_, _, _, _, _, _]) 1 dX8_hasRoom_87 (by decide) rfl rfl rfl rfl ?_
              refine go_goto 15 dX8_hasRoom_90 (by decide) ?_
              exact go_wk (by simp [lvle]) (ih c24 (by simp [alb, ha, aps, c24, c37, c59, c77]))
            · refine go_iload dX8_hasRoom_80 rfl ?_
              refine go_if_ne 87 dX8_hasRoom_82 (by decide) (fun z => absurd z (by decide)) (fun _ => ?_)
              refine go_iconst (v := nI 0) dX8_hasRoom_85 (by decide) ?_
              refine go_zret dX8_hasRoom_86 rfl rfl (by decide) ?_
              exact ⟨by simp [bi, hrm, alb_not c24 (show aps σ r p s i = false by simp [aps, c24, c37, c59, c77])], rfl⟩
          · refine go_iconst (v := nI 1) dX8_hasRoom_62 (by decide) ?_
            refine go_goto 67 dX8_hasRoom_63 (by decide) ?_
            refine go_istore (lv' := [_, _, _, _, _, _]) dX8_hasRoom_67 rfl rfl rfl ?_
            refine go_aload_n dX8_hasRoom_69 rfl ?_
            refine gs_gr dX8_hasRoom_70 flX8_18 (gg_29 b) rfl ?_
            refine go_iload dX8_hasRoom_73 rfl ?_
            refine gs_iald (_) dX8_hasRoom_75 (gg_30 b) (rfl) (by omega) rfl (rfl) ?_
            refine go_iload_n dX8_hasRoom_76 rfl ?_
            refine go_icmp_ne 87 dX8_hasRoom_77 (by decide) (fun c77 => ?_) (fun c77 => ?_)
            · refine go_iincN (lv' := [_, _, _, _, _, _]) 1 dX8_hasRoom_87 (by decide) rfl rfl rfl rfl ?_
              refine go_goto 15 dX8_hasRoom_90 (by decide) ?_
              exact go_wk (by simp [lvle]) (ih c24 (by simp [alb, ha, aps, c24, c37, c59, c77]))
            · refine go_iload dX8_hasRoom_80 rfl ?_
              refine go_if_ne 87 dX8_hasRoom_82 (by decide) (fun _ => ?_) (fun z => absurd z (by decide))
              refine go_iincN (lv' := [_, _, _, _, _, _]) 1 dX8_hasRoom_87 (by decide) rfl rfl rfl rfl ?_
              refine go_goto 15 dX8_hasRoom_90 (by decide) ?_
              exact go_wk (by simp [lvle]) (ih c24 (by simp [alb, ha, aps, c24, c37, c59, c77]))
    exact loop 0 (Nat.zero_le _) rfl
  · refine go_iconst (v := nI 0) dX8_hasRoom_10 (by decide) ?_
    refine go_zret dX8_hasRoom_11 rfl rfl (by decide) ?_
    exact ⟨by simp +decide [c7, bi, hrm], rfl⟩
theorem cX8_isFree_ok (κ : gm_K) (b : Bool) (σ : wg_S) (n : Nat) (hn : n ≤ 16) (hN : σ 1 0 = nI n) (r : Int32) : Fn κ mX8_isFree [.ref 29, .int r] (gg b) σ (some (.int (bi (hrm σ n r (nI 0) (σ 29 1))))) (gg b) σ := by
  refine go_start (by decide) (Nat.le_of_ble_eq_true rfl) ?_
  refine go_aload_n dX8_isFree_0 rfl ?_
  refine go_iload_n dX8_isFree_1 rfl ?_
  refine go_iconst (v := nI 0) dX8_isFree_2 (by decide) ?_
  refine go_aload_n dX8_isFree_3 rfl ?_
  refine gs_gi dX8_isFree_4 flX8_15 (gg_29 b) rfl (rfl) ?_
  refine gs_callVi dX8_isFree_7 cvX8_isFree_56 (cX8_hasRoom_ok κ b σ n hn hN _ _ _) rfl (gg_29 b) rfl rfl rfl ⟨rfl, rfl⟩ rfl ?_
  refine go_zret dX8_isFree_10 rfl rfl (bi_nar _) ?_
  exact ⟨rfl, rfl⟩
def s_put (σ : wg_S) (c : Nat) (r p : Int32) : wg_S := us (us σ 30 c r) 31 c p
theorem cX8_put_ok (κ : gm_K) (b : Bool) (σ : wg_S) (c : Nat) (hc : c < 16) (r p : Int32) : Fn κ mX8_put [.ref 29, .int (nI c), .int r, .int p] (gg b) σ none (gg b) (s_put σ c r p) := by
  refine go_start (by decide) (Nat.le_of_ble_eq_true rfl) ?_
  refine go_aload_n dX8_put_0 rfl ?_
  refine gs_gr dX8_put_1 flX8_18 (gg_29 b) rfl ?_
  refine go_iload_n dX8_put_4 rfl ?_
  refine go_iload_n dX8_put_5 rfl ?_
  refine gs_iast (_) dX8_put_6 (gg_30 b) (rfl) (by omega) rfl ?_
  refine go_aload_n dX8_put_7 rfl ?_
  refine gs_gr dX8_put_8 flX8_22 (gg_29 b) rfl ?_
  refine go_iload_n dX8_put_11 rfl ?_
  refine go_iload_n dX8_put_12 rfl ?_
  refine gs_iast (_) dX8_put_13 (gg_31 b) (rfl) (by omega) rfl ?_
  refine go_vret dX8_put_14 rfl rfl ?_
  exact ⟨rfl, rfl⟩
def nhd (σ : wg_S) (c i : Nat) : Bool := decide (σ 30 i = -1) || decide (σ 30 c ≤ σ 30 i) || decide (σ 7 i ≤ σ 7 c)
theorem cX8_isHidden_ok (κ : gm_K) (b : Bool) (σ : wg_S) (n : Nat) (hn : n ≤ 16) (hN : σ 1 0 = nI n) (c : Nat) (hc : c < 16) : Fn κ mX8_isHidden [.ref 29, .int (nI c)] (gg b) σ (some (.int (bi (!alb (nhd σ c) n)))) (gg b) σ := by
  refine go_start (by decide) (Nat.le_of_ble_eq_true rfl) ?_
  refine go_iconst (v := nI 0) dX8_isHidden_0 (by decide) ?_
  refine go_istore_n (lv' := [_, _, _, _]) dX8_isHidden_1 rfl rfl rfl ?_
  skip
  have loop : ∀ (i : Nat), i ≤ n → alb (nhd σ c) i = true → Go κ mX8_isHidden 2 [some (.ref 29), some (.int (nI c)), some (.int (nI i)), none] [] (wd (gg b) σ) (0, 0) (fun q h' => q = some (.int (bi (!alb (nhd σ c) n))) ∧ h' = wd (gg b) σ) := by
    refine lo_up n (fun i hi ih ha => ?_)
    refine go_iload_n dX8_isHidden_2 rfl ?_
    refine go_aload_n dX8_isHidden_3 rfl ?_
    refine gs_gr dX8_isHidden_4 flX8_37 (gg_29 b) rfl ?_
    refine gs_gi dX8_isHidden_7 flX8_47 (gg_1 b) rfl (hN) ?_
    refine go_icmp_geN 75 dX8_isHidden_10 (by decide) (by omega) (by omega) (fun c10 => ?_) (fun c10 => ?_)
    · refine go_iconst (v := nI 0) dX8_isHidden_75 (by decide) ?_
      refine go_zret dX8_isHidden_76 rfl rfl (by decide) ?_
      have e : i = n := by omega
      subst e
      exact ⟨by simp [bi, ha], rfl⟩
    · refine go_aload_n dX8_isHidden_13 rfl ?_
      refine go_iload_n dX8_isHidden_14 rfl ?_
      refine gs_callVi dX8_isHidden_15 cvX8_isHidden_52 (cX8_holds_ok κ b σ _ (by omega)) rfl (gg_29 b) rfl rfl rfl ⟨rfl, rfl⟩ rfl ?_
      refine go_if_eqB 40 dX8_isHidden_18 (by decide) (fun c18 => ?_) (fun c18 => ?_)
      · refine go_iconst (v := nI 0) dX8_isHidden_40 (by decide) ?_
        refine go_istore_n (lv' := [_, _, _, _]) dX8_isHidden_41 rfl rfl rfl ?_
        refine go_iload_n dX8_isHidden_42 rfl ?_
        refine go_if_eq 69 dX8_isHidden_43 (by decide) (fun _ => ?_) (fun z => absurd z (by decide))
        refine go_iincN (lv' := [_, _, _, _]) 1 dX8_isHidden_69 (by decide) rfl rfl rfl rfl ?_
        refine go_goto 2 dX8_isHidden_72 (by decide) ?_
        simp at c18
        exact go_wk (by simp [lvle]) (ih c10 (by simp [alb, ha, nhd, c10, c18]))
      · refine go_aload_n dX8_isHidden_21 rfl ?_
        refine gs_gr dX8_isHidden_22 flX8_18 (gg_29 b) rfl ?_
        refine go_iload_n dX8_isHidden_25 rfl ?_
        refine gs_iald (_) dX8_isHidden_26 (gg_30 b) (rfl) (by omega) rfl (rfl) ?_
        refine go_aload_n dX8_isHidden_27 rfl ?_
        refine gs_gr dX8_isHidden_28 flX8_18 (gg_29 b) rfl ?_
        refine go_iload_n dX8_isHidden_31 rfl ?_
        refine gs_iald (_) dX8_isHidden_32 (gg_30 b) (rfl) (by omega) rfl (rfl) ?_
        refine go_icmp_ge 40 dX8_isHidden_33 (by decide) (fun c33 => ?_) (fun c33 => ?_)
        · refine go_iconst (v := nI 0) dX8_isHidden_40 (by decide) ?_
          refine go_istore_n (lv' := [_, _, _, _]) dX8_isHidden_41 rfl rfl rfl ?_
          refine go_iload_n dX8_isHidden_42 rfl ?_
          refine go_if_eq 69 dX8_isHidden_43 (by decide) (fun _ => ?_) (fun z => absurd z (by decide))
          refine go_iincN (lv' := [_, _, _, _]) 1 dX8_isHidden_69 (by decide) rfl rfl rfl rfl ?_
          refine go_goto 2 dX8_isHidden_72 (by decide) ?_
          simp at c18
          exact go_wk (by simp [lvle]) (ih c10 (by simp [alb, ha, nhd, c10, c18, c33]))
        · refine go_iconst (v := nI 1) dX8_isHidden_36 (by decide) ?_
          refine go_goto 41 dX8_isHidden_37 (by decide) ?_
          refine go_istore_n (lv' := [_, _, _, _]) dX8_isHidden_41 rfl rfl rfl ?_
          refine go_iload_n dX8_isHidden_42 rfl ?_
          refine go_if_eq 69 dX8_isHidden_43 (by decide) (fun z => absurd z (by decide)) (fun _ => ?_)
          refine go_aload_n dX8_isHidden_46 rfl ?_
          refine gs_gr dX8_isHidden_47 flX8_37 (gg_29 b) rfl ?_
          refine gs_gr dX8_isHidden_50 flX8_63 (gg_1 b) rfl ?_
          refine go_iload_n dX8_isHidden_53 rfl ?_
          refine gs_iald (_) dX8_isHidden_54 (gg_7 b) (rfl) (by omega) rfl (rfl) ?_
          refine go_aload_n dX8_isHidden_55 rfl ?_
          refine gs_gr dX8_isHidden_56 flX8_37 (gg_29 b) rfl ?_
          refine gs_gr dX8_isHidden_59 flX8_63 (gg_1 b) rfl ?_
          refine go_iload_n dX8_isHidden_62 rfl ?_
          refine gs_iald (_) dX8_isHidden_63 (gg_7 b) (rfl) (by omega) rfl (rfl) ?_
          refine go_icmp_le 69 dX8_isHidden_64 (by decide) (fun c64 => ?_) (fun c64 => ?_)
          · refine go_iincN (lv' := [_, _, _, _]) 1 dX8_isHidden_69 (by decide) rfl rfl rfl rfl ?_
            refine go_goto 2 dX8_isHidden_72 (by decide) ?_
            simp at c18
            exact go_wk (by simp [lvle]) (ih c10 (by simp [alb, ha, nhd, c10, c18, c33, c64]))
          · refine go_iconst (v := nI 1) dX8_isHidden_67 (by decide) ?_
            refine go_zret dX8_isHidden_68 rfl rfl (by decide) ?_
            simp at c18
            exact ⟨by simp [bi, alb_not c10 (show nhd σ c i = false by simp [nhd, c10, c18, c33, c64])], rfl⟩
  exact go_wk (by simp [lvle]) (loop 0 (Nat.zero_le _) rfl)
def sec (w p s : Int32) : Int32 := (if w - p - s < p then w - p - s else p) + s
def gol (w p s : Int32) : Int32 := if w - p - s < p then 0 else sec w p s
def gor (w p s : Int32) : Int32 := if w - p - s < p then sec w p s else 0
theorem cX8_placesRight_ok (κ : gm_K) (b : Bool) (σ : wg_S) (p s : Int32) : Fn κ mX8_placesRight [.ref 29, .int p, .int s] (gg b) σ (some (.int (σ 29 1 - p - s))) (gg b) σ := by
  refine go_start (by decide) (Nat.le_of_ble_eq_true rfl) ?_
  refine go_aload_n dX8_placesRight_0 rfl ?_
  refine gs_gi dX8_placesRight_1 flX8_15 (gg_29 b) rfl (rfl) ?_
  refine go_iload_n dX8_placesRight_4 rfl ?_
  refine go_isub dX8_placesRight_5 ?_
  refine go_iload_n dX8_placesRight_6 rfl ?_
  refine go_isub dX8_placesRight_7 ?_
  refine go_iret dX8_placesRight_8 rfl rfl ?_
  exact ⟨rfl, rfl⟩
theorem cX8_seconds_ok (κ : gm_K) (b : Bool) (σ : wg_S) (p s : Int32) : Fn κ mX8_seconds [.ref 29, .int p, .int s] (gg b) σ (some (.int (sec (σ 29 1) p s))) (gg b) σ := by
  refine go_start (by decide) (Nat.le_of_ble_eq_true rfl) ?_
  refine go_iload_n dX8_seconds_0 rfl ?_
  refine go_aload_n dX8_seconds_1 rfl ?_
  refine go_iload_n dX8_seconds_2 rfl ?_
  refine go_iload_n dX8_seconds_3 rfl ?_
  refine gs_callVi dX8_seconds_4 cvX8_seconds_66 (cX8_placesRight_ok κ b σ _ _) rfl (gg_29 b) rfl rfl rfl ⟨rfl, rfl⟩ rfl ?_
  refine gs_callSi dX8_seconds_7 csX8_seconds_70 (cJ9_min_ok κ b σ _ _) rfl rfl rfl ⟨rfl, rfl⟩ rfl ?_
  refine go_iload_n dX8_seconds_10 rfl ?_
  refine go_iadd dX8_seconds_11 ?_
  refine go_iret dX8_seconds_12 rfl rfl ?_
  exact ⟨rfl, rfl⟩
def sdo (σ : wg_S) (l r : Int32) : wg_S := us (us σ 29 7 l) 29 8 r
theorem sdo_p {σ : wg_S} {l r : Int32} {p : Nat} (h : p ≠ 29) : sdo σ l r p = σ p := by rw [sdo, us_p h, us_p h]
theorem sdo_k {σ : wg_S} {l r : Int32} {k : Nat} (h : k < 7) : sdo σ l r 29 k = σ 29 k := by rw [sdo, us_k (by omega), us_k (by omega)]
theorem sdo_7 {σ : wg_S} {l r : Int32} : sdo σ l r 29 7 = l := by rw [sdo, us_k (by decide), us_s]
theorem sdo_8 {σ : wg_S} {l r : Int32} : sdo σ l r 29 8 = r := by rw [sdo, us_s]
theorem sdo_l {σ : wg_S} {l r v : Int32} : us (sdo σ l r) 29 7 v = sdo σ v r := by rw [sdo, us_cm (Or.inr (by decide)), us_us, sdo]
theorem sdo_r {σ : wg_S} {l r v : Int32} : us (sdo σ l r) 29 8 v = sdo σ l v := by rw [sdo, us_us, sdo]
theorem sdo_s {σ : wg_S} {l r l' r' : Int32} : sdo (sdo σ l r) l' r' = sdo σ l' r' := by rw [show sdo (sdo σ l r) l' r' = us (us (sdo σ l r) 29 7 l') 29 8 r' from rfl, sdo_l, sdo_r]
theorem cX8_resetDoors_ok (κ : gm_K) (b : Bool) (σ : wg_S)  : Fn κ mX8_resetDoors [.ref 29] (gg b) σ none (gg b) (sdo σ (nI 0) (nI 0)) := by
  refine go_start (by decide) (Nat.le_of_ble_eq_true rfl) ?_
  refine go_aload_n dX8_resetDoors_0 rfl ?_
  refine go_iconst (v := nI 0) dX8_resetDoors_1 (by decide) ?_
  refine gs_pi dX8_resetDoors_2 flX8_31 (gg_29 b) rfl (fun q hq => by cases hq; exact ⟨rfl, rfl⟩) ?_
  refine go_aload_n dX8_resetDoors_5 rfl ?_
  refine go_iconst (v := nI 0) dX8_resetDoors_6 (by decide) ?_
  refine gs_pi dX8_resetDoors_7 flX8_34 (gg_29 b) rfl (fun q hq => by cases hq; exact ⟨rfl, rfl⟩) ?_
  refine go_vret dX8_resetDoors_10 rfl rfl ?_
  exact ⟨rfl, rfl⟩
def s_off (σ : wg_S) (p s : Int32) : wg_S := sdo σ (σ 29 7 + gol (σ 29 1) p s) (σ 29 8 + gor (σ 29 1) p s)
theorem cX8_sendOff_ok (κ : gm_K) (b : Bool) (σ : wg_S) (p s : Int32) : Fn κ mX8_sendOff [.ref 29, .int p, .int s] (gg b) σ none (gg b) (s_off σ p s) := by
  refine go_start (by decide) (Nat.le_of_ble_eq_true rfl) ?_
  refine go_iload_n dX8_sendOff_0 rfl ?_
  refine go_aload_n dX8_sendOff_1 rfl ?_
  refine go_iload_n dX8_sendOff_2 rfl ?_
  refine go_iload_n dX8_sendOff_3 rfl ?_
  refine gs_callVi dX8_sendOff_4 cvX8_sendOff_66 (cX8_placesRight_ok κ b σ _ _) rfl (gg_29 b) rfl rfl rfl ⟨rfl, rfl⟩ rfl ?_
  refine go_icmp_gt 28 dX8_sendOff_7 (by decide) (fun c7 => ?_) (fun c7 => ?_)
  · refine go_aload_n dX8_sendOff_28 rfl ?_
    refine go_dup dX8_sendOff_29 rfl ?_
    refine gs_gi dX8_sendOff_30 flX8_34 (gg_29 b) rfl (rfl) ?_
    refine go_aload_n dX8_sendOff_33 rfl ?_
    refine go_iload_n dX8_sendOff_34 rfl ?_
    refine go_iload_n dX8_sendOff_35 rfl ?_
    refine gs_callVi dX8_sendOff_36 cvX8_sendOff_75 (cX8_seconds_ok κ b σ _ _) rfl (gg_29 b) rfl rfl rfl ⟨rfl, rfl⟩ rfl ?_
    refine go_iadd dX8_sendOff_39 ?_
    refine gs_pi dX8_sendOff_40 flX8_34 (gg_29 b) rfl (fun q hq => by cases hq; exact ⟨rfl, rfl⟩) ?_
    refine go_vret dX8_sendOff_43 rfl rfl ?_
    refine ⟨rfl, congrArg (wd (gg b)) ?_⟩
    funext x y
    by_cases h1 : x = 29
    · subst h1
      by_cases h2 : y = 7
      · subst h2; simp [s_off, sdo_7, us, upd, gol, gor, c7]
      · by_cases h3 : y = 8
        · subst h3; simp [s_off, sdo_8, us, upd, gol, gor, c7]
        · simp [s_off, sdo, us, upd, h2, h3]
    · simp [s_off, sdo, us, h1]
  · refine go_aload_n dX8_sendOff_10 rfl ?_
    refine go_dup dX8_sendOff_11 rfl ?_
    refine gs_gi dX8_sendOff_12 flX8_31 (gg_29 b) rfl (rfl) ?_
    refine go_aload_n dX8_sendOff_15 rfl ?_
    refine go_iload_n dX8_sendOff_16 rfl ?_
    refine go_iload_n dX8_sendOff_17 rfl ?_
    refine gs_callVi dX8_sendOff_18 cvX8_sendOff_75 (cX8_seconds_ok κ b σ _ _) rfl (gg_29 b) rfl rfl rfl ⟨rfl, rfl⟩ rfl ?_
    refine go_iadd dX8_sendOff_21 ?_
    refine gs_pi dX8_sendOff_22 flX8_31 (gg_29 b) rfl (fun q hq => by cases hq; exact ⟨rfl, rfl⟩) ?_
    refine go_goto 43 dX8_sendOff_25 (by decide) ?_
    refine go_vret dX8_sendOff_43 rfl rfl ?_
    refine ⟨rfl, congrArg (wd (gg b)) ?_⟩
    funext x y
    by_cases h1 : x = 29
    · subst h1
      by_cases h2 : y = 7
      · subst h2; simp [s_off, sdo_7, us, upd, gol, gor, c7]
      · by_cases h3 : y = 8
        · subst h3; simp [s_off, sdo_8, us, upd, gol, gor, c7]
        · simp [s_off, sdo, us, upd, h2, h3]
    · simp [s_off, sdo, us, h1]
theorem s_off_sdo {σ : wg_S} {l r p s : Int32} : s_off (sdo σ l r) p s = sdo σ (l + gol (σ 29 1) p s) (r + gor (σ 29 1) p s) := by
  rw [s_off, sdo_s, sdo_7, sdo_8, sdo_k (by decide)]
theorem cX8_clearOfAll_ok (κ : gm_K) (b : Bool) (σ : wg_S) (n : Nat) (hn : n ≤ 16) (hN : σ 1 0 = nI n) : Fn κ mX8_clearOfAll [.ref 29] (gg b) σ (some (.int (if sm (fun i => if σ 30 i = -1 then 0 else gol (σ 29 1) (σ 31 i) (σ 6 i)) n < sm (fun i => if σ 30 i = -1 then 0 else gor (σ 29 1) (σ 31 i) (σ 6 i)) n then sm (fun i => if σ 30 i = -1 then 0 else gor (σ 29 1) (σ 31 i) (σ 6 i)) n else sm (fun i => if σ 30 i = -1 then 0 else gol (σ 29 1) (σ 31 i) (σ 6 i)) n))) (gg b) (sdo σ (sm (fun i => if σ 30 i = -1 then 0 else gol (σ 29 1) (σ 31 i) (σ 6 i)) n) (sm (fun i => if σ 30 i = -1 then 0 else gor (σ 29 1) (σ 31 i) (σ 6 i)) n)) := by
  refine go_start (by decide) (Nat.le_of_ble_eq_true rfl) ?_
  refine go_aload_n dX8_clearOfAll_0 rfl ?_
  refine gs_callVv dX8_clearOfAll_1 cvX8_clearOfAll_78 (cX8_resetDoors_ok κ b σ) rfl (gg_29 b) rfl rfl rfl ⟨rfl, rfl⟩ rfl ?_
  refine go_iconst (v := nI 0) dX8_clearOfAll_4 (by decide) ?_
  refine go_istore_n (lv' := [_, _]) dX8_clearOfAll_5 rfl rfl rfl ?_
  skip
  refine lo_up n (P := fun i => Go κ mX8_clearOfAll 6 [some (.ref 29), some (.int (nI i))] [] (wd (gg b) (sdo σ (sm (fun i => if σ 30 i = -1 then 0 else gol (σ 29 1) (σ 31 i) (σ 6 i)) i) (sm (fun i => if σ 30 i = -1 then 0 else gor (σ 29 1) (σ 31 i) (σ 6 i)) i))) (0, 0) _) (fun i hi ih => ?_) 0 (Nat.zero_le _)
  refine go_iload_n dX8_clearOfAll_6 rfl ?_
  refine go_aload_n dX8_clearOfAll_7 rfl ?_
  refine gs_gr dX8_clearOfAll_8 flX8_37 (gg_29 b) rfl ?_
  refine gs_gi dX8_clearOfAll_11 flX8_47 (gg_1 b) rfl ((congrFun (sdo_p (by decide)) 0).trans hN) ?_
  refine go_icmp_geN 50 dX8_clearOfAll_14 (by decide) (by omega) (by omega) (fun c14 => ?_) (fun c14 => ?_)
  · refine go_aload_n dX8_clearOfAll_50 rfl ?_
    refine gs_gi dX8_clearOfAll_51 flX8_31 (gg_29 b) rfl (sdo_7) ?_
    refine go_aload_n dX8_clearOfAll_54 rfl ?_
    refine gs_gi dX8_clearOfAll_55 flX8_34 (gg_29 b) rfl (sdo_8) ?_
    refine gs_callSi dX8_clearOfAll_58 csX8_clearOfAll_85 (cJ9_max_ok κ b (sdo σ (sm (fun i => if σ 30 i = -1 then 0 else gol (σ 29 1) (σ 31 i) (σ 6 i)) i) (sm (fun i => if σ 30 i = -1 then 0 else gor (σ 29 1) (σ 31 i) (σ 6 i)) i)) _ _) rfl rfl rfl ⟨rfl, rfl⟩ rfl ?_
    refine go_iret dX8_clearOfAll_61 rfl rfl ?_
    have e : i = n := by omega
    subst e
    exact ⟨rfl, rfl⟩
  · refine go_aload_n dX8_clearOfAll_17 rfl ?_
    refine go_iload_n dX8_clearOfAll_18 rfl ?_
    refine gs_callVi dX8_clearOfAll_19 cvX8_clearOfAll_52 (cX8_holds_ok κ b (sdo σ (sm (fun i => if σ 30 i = -1 then 0 else gol (σ 29 1) (σ 31 i) (σ 6 i)) i) (sm (fun i => if σ 30 i = -1 then 0 else gor (σ 29 1) (σ 31 i) (σ 6 i)) i)) i (by omega)) rfl (gg_29 b) rfl rfl rfl ⟨rfl, rfl⟩ rfl ?_
    refine go_if_eqB 44 dX8_clearOfAll_22 (by decide) (fun c22 => ?_) (fun c22 => ?_)
    · refine go_iincN (lv' := [_, _]) 1 dX8_clearOfAll_44 (by decide) rfl rfl rfl rfl ?_
      refine go_goto 6 dX8_clearOfAll_47 (by decide) ?_
      rw [congrFun (sdo_p (by decide)) i] at c22
      simp at c22
      exact go_wkh (by simp [lvle]) (by first | rw [s_off_sdo, sm, sm, if_neg c22, if_neg c22] | rw [sm, sm, if_pos c22, if_pos c22, Int32.add_zero, Int32.add_zero]) (ih c14)
    · refine go_aload_n dX8_clearOfAll_25 rfl ?_
      refine go_aload_n dX8_clearOfAll_26 rfl ?_
      refine gs_gr dX8_clearOfAll_27 flX8_22 (gg_29 b) rfl ?_
      refine go_iload_n dX8_clearOfAll_30 rfl ?_
      refine gs_iald (_) dX8_clearOfAll_31 (gg_31 b) (rfl) (by omega) rfl (congrFun (sdo_p (by decide)) i) ?_
      refine go_aload_n dX8_clearOfAll_32 rfl ?_
      refine gs_gr dX8_clearOfAll_33 flX8_37 (gg_29 b) rfl ?_
      refine gs_gr dX8_clearOfAll_36 flX8_60 (gg_1 b) rfl ?_
      refine go_iload_n dX8_clearOfAll_39 rfl ?_
      refine gs_iald (_) dX8_clearOfAll_40 (gg_6 b) (rfl) (by omega) rfl (congrFun (sdo_p (by decide)) i) ?_
      refine gs_callVv dX8_clearOfAll_41 cvX8_clearOfAll_81 (cX8_sendOff_ok κ b (sdo σ (sm (fun i => if σ 30 i = -1 then 0 else gol (σ 29 1) (σ 31 i) (σ 6 i)) i) (sm (fun i => if σ 30 i = -1 then 0 else gor (σ 29 1) (σ 31 i) (σ 6 i)) i)) _ _) rfl (gg_29 b) rfl rfl rfl ⟨rfl, rfl⟩ rfl ?_
      refine go_iincN (lv' := [_, _]) 1 dX8_clearOfAll_44 (by decide) rfl rfl rfl rfl ?_
      refine go_goto 6 dX8_clearOfAll_47 (by decide) ?_
      rw [congrFun (sdo_p (by decide)) i] at c22
      simp at c22
      exact go_wkh (by simp [lvle]) (by first | rw [s_off_sdo, sm, sm, if_neg c22, if_neg c22] | rw [sm, sm, if_pos c22, if_pos c22, Int32.add_zero, Int32.add_zero]) (ih c14)
