theorem cX6_fieldOf_ok (κ : gm_K) (b : Bool) (σ : wg_S) (r t : Nat) (hr : r < 12) (ht : t < 2) : Fn κ mX6_fieldOf [.ref 22, .int (nI r), .int (nI t)] (gg b) σ (some (.int (σ 26 (r * 2 + t)))) (gg b) σ := by
  refine go_start (by decide) (Nat.le_of_ble_eq_true rfl) ?_
  refine go_aload_n dX6_fieldOf_0 rfl ?_
  refine gs_gr dX6_fieldOf_1 flX6_26 (gg_22 b) rfl ?_
  refine go_iload_n dX6_fieldOf_4 rfl ?_
  refine go_iconst (v := nI 2) dX6_fieldOf_5 (by decide) ?_
  refine go_imulN dX6_fieldOf_6 ?_
  refine go_iload_n dX6_fieldOf_7 rfl ?_
  refine go_iaddN dX6_fieldOf_8 ?_
  refine gs_iald (_) dX6_fieldOf_9 (gg_26 b) (rfl) (by omega) rfl (rfl) ?_
  refine go_iret dX6_fieldOf_10 rfl rfl ?_
  exact ⟨rfl, rfl⟩
def tsh (σ : wg_S) (r t : Nat) (v : Int32) : Bool := if σ 27 (r * 2 + t) = nI 60 then !decide (σ 28 (r * 2 + t) ≤ v) else if σ 27 (r * 2 + t) = nI 62 then !decide (v ≤ σ 28 (r * 2 + t)) else decide (v = σ 28 (r * 2 + t))
theorem cX6_testHolds_ok (κ : gm_K) (b : Bool) (σ : wg_S) (r t : Nat) (hr : r < 12) (ht : t < 2) (v : Int32) : Fn κ mX6_testHolds [.ref 22, .int (nI r), .int (nI t), .int v] (gg b) σ (some (.int (bi (tsh σ r t v)))) (gg b) σ := by
  refine go_start (by decide) (Nat.le_of_ble_eq_true rfl) ?_
  refine go_aload_n dX6_testHolds_0 rfl ?_
  refine gs_gr dX6_testHolds_1 flX6_32 (gg_22 b) rfl ?_
  refine go_iload_n dX6_testHolds_4 rfl ?_
  refine go_iconst (v := nI 2) dX6_testHolds_5 (by decide) ?_
  refine go_imulN dX6_testHolds_6 ?_
  refine go_iload_n dX6_testHolds_7 rfl ?_
  refine go_iaddN dX6_testHolds_8 ?_
  refine gs_iald (_) dX6_testHolds_9 (gg_28 b) (rfl) (by omega) rfl (rfl) ?_
  refine go_istore (lv' := [_, _, _, _, _]) dX6_testHolds_10 rfl rfl rfl ?_
  refine go_aload_n dX6_testHolds_12 rfl ?_
  refine gs_gr dX6_testHolds_13 flX6_29 (gg_22 b) rfl ?_
  refine go_iload_n dX6_testHolds_16 rfl ?_
  refine go_iconst (v := nI 2) dX6_testHolds_17 (by decide) ?_
  refine go_imulN dX6_testHolds_18 ?_
  refine go_iload_n dX6_testHolds_19 rfl ?_
  refine go_iaddN dX6_testHolds_20 ?_
  refine gs_iald (_) dX6_testHolds_21 (gg_27 b) (rfl) (by omega) rfl (rfl) ?_
  refine go_lsw [(60, 48), (62, 60)] 72 dX6_testHolds_22 (by decide) (by decide) (by decide) (fun c22 => ?_) (fun k t hk c22 => ?_)
  · refine go_iload_n dX6_testHolds_72 rfl ?_
    refine go_iload dX6_testHolds_73 rfl ?_
    refine go_icmp_ne 82 dX6_testHolds_75 (by decide) (fun c75 => ?_) (fun c75 => ?_)
    · refine go_iconst (v := nI 0) dX6_testHolds_82 (by decide) ?_
      refine go_zret dX6_testHolds_83 rfl rfl (by decide) ?_
      exact ⟨by simp +decide [tsh, bi, c22 (60, 48) (by decide), c22 (62, 60) (by decide), c75], rfl⟩
    · refine go_iconst (v := nI 1) dX6_testHolds_78 (by decide) ?_
      refine go_goto 83 dX6_testHolds_79 (by decide) ?_
      refine go_zret dX6_testHolds_83 rfl rfl (by decide) ?_
      exact ⟨by simp +decide [tsh, bi, c22 (60, 48) (by decide), c22 (62, 60) (by decide), c75], rfl⟩
  · simp only [List.mem_cons, List.not_mem_nil, or_false, Prod.mk.injEq] at hk
    rcases hk with ⟨rfl, rfl⟩ | ⟨rfl, rfl⟩
    · skip
      refine go_iload_n dX6_testHolds_48 rfl ?_
      refine go_iload dX6_testHolds_49 rfl ?_
      refine go_icmp_ge 58 dX6_testHolds_51 (by decide) (fun c51 => ?_) (fun c51 => ?_)
      · refine go_iconst (v := nI 0) dX6_testHolds_58 (by decide) ?_
        refine go_zret dX6_testHolds_59 rfl rfl (by decide) ?_
        exact ⟨by simp +decide [tsh, bi, c22, c51], rfl⟩
      · refine go_iconst (v := nI 1) dX6_testHolds_54 (by decide) ?_
        refine go_goto 59 dX6_testHolds_55 (by decide) ?_
        refine go_zret dX6_testHolds_59 rfl rfl (by decide) ?_
        exact ⟨by simp +decide [tsh, bi, c22, c51], rfl⟩
    · skip
      refine go_iload_n dX6_testHolds_60 rfl ?_
      refine go_iload dX6_testHolds_61 rfl ?_
      refine go_icmp_le 70 dX6_testHolds_63 (by decide) (fun c63 => ?_) (fun c63 => ?_)
      · refine go_iconst (v := nI 0) dX6_testHolds_70 (by decide) ?_
        refine go_zret dX6_testHolds_71 rfl rfl (by decide) ?_
        exact ⟨by simp +decide [tsh, bi, c22, c63], rfl⟩
      · refine go_iconst (v := nI 1) dX6_testHolds_66 (by decide) ?_
        refine go_goto 71 dX6_testHolds_67 (by decide) ?_
        refine go_zret dX6_testHolds_71 rfl rfl (by decide) ?_
        exact ⟨by simp +decide [tsh, bi, c22, c63], rfl⟩
def s_radd (σ : wg_S) (r : Nat) : wg_S := us (us (us (us (us (us (us (us (us (us σ 23 r (σ 17 2)) 24 r (σ 17 3)) 25 r (σ 17 4)) 26 (r * 2 + 0) (σ 19 0)) 27 (r * 2 + 0) (σ 20 0)) 28 (r * 2 + 0) (σ 21 0)) 26 (r * 2 + 1) (σ 19 1)) 27 (r * 2 + 1) (σ 20 1)) 28 (r * 2 + 1) (σ 21 1)) 22 0 (nI (r + 1))
theorem cX6_add_ok (κ : gm_K) (b : Bool) (σ : wg_S) (r : Nat) (hr : r < 12) (hR : σ 22 0 = nI r) (x : Bool) (hb : bi x = σ 17 2) : Fn κ mX6_add [.ref 22, .ref 17] (gg b) σ (some (.int (nI r))) (gg b) (s_radd σ r) := by
  refine go_start (by decide) (Nat.le_of_ble_eq_true rfl) ?_
  refine go_aload_n dX6_add_0 rfl ?_
  refine gs_gi dX6_add_1 flX6_9 (gg_22 b) rfl (hR) ?_
  refine go_istore_n (lv' := [_, _, _, _]) dX6_add_4 rfl rfl rfl ?_
  refine go_aload_n dX6_add_5 rfl ?_
  refine gs_gr dX6_add_6 flX6_15 (gg_22 b) rfl ?_
  refine go_iload_n dX6_add_9 rfl ?_
  refine go_aload_n dX6_add_10 rfl ?_
  refine gs_gi dX6_add_11 flX6_35 (gg_17 b) rfl (rfl) ?_
  refine gs_zast (_) dX6_add_14 (gg_23 b) (rfl) (by omega) rfl ?_
  refine go_aload_n dX6_add_15 rfl ?_
  refine gs_gr dX6_add_16 flX6_19 (gg_22 b) rfl ?_
  refine go_iload_n dX6_add_19 rfl ?_
  refine go_aload_n dX6_add_20 rfl ?_
  refine gs_gi dX6_add_21 flX6_40 (gg_17 b) rfl (show _ = σ 17 3 by simp [us]) ?_
  refine gs_iast (_) dX6_add_24 (gg_24 b) (rfl) (by omega) rfl ?_
  refine go_aload_n dX6_add_25 rfl ?_
  refine gs_gr dX6_add_26 flX6_23 (gg_22 b) rfl ?_
  refine go_iload_n dX6_add_29 rfl ?_
  refine go_aload_n dX6_add_30 rfl ?_
  refine gs_gi dX6_add_31 flX6_42 (gg_17 b) rfl (show _ = σ 17 4 by simp [us]) ?_
  refine gs_iast (_) dX6_add_34 (gg_25 b) (rfl) (by omega) rfl ?_
  refine go_iconst (v := nI 0) dX6_add_35 (by decide) ?_
  refine go_istore_n (lv' := [_, _, _, _]) dX6_add_36 rfl rfl rfl ?_
  refine go_iload_n dX6_add_37 rfl ?_
  refine go_iconst (v := nI 2) dX6_add_38 (by decide) ?_
  refine go_icmp_ge 96 dX6_add_39 (by decide) (fun z => absurd z (by decide)) (fun _ => ?_)
  refine go_aload_n dX6_add_42 rfl ?_
  refine gs_gr dX6_add_43 flX6_26 (gg_22 b) rfl ?_
  refine go_iload_n dX6_add_46 rfl ?_
  refine go_iconst (v := nI 2) dX6_add_47 (by decide) ?_
  refine go_imulN dX6_add_48 ?_
  refine go_iload_n dX6_add_49 rfl ?_
  refine go_iaddN dX6_add_50 ?_
  refine go_aload_n dX6_add_51 rfl ?_
  refine gs_gr dX6_add_52 flX6_44 (gg_17 b) rfl ?_
  refine go_iload_n dX6_add_55 rfl ?_
  refine gs_iald (_) dX6_add_56 (gg_19 b) (rfl) (by omega) rfl (show _ = σ 19 0 by simp [us]) ?_
  refine gs_iast (_) dX6_add_57 (gg_26 b) (rfl) (by omega) rfl ?_
  refine go_aload_n dX6_add_58 rfl ?_
  refine gs_gr dX6_add_59 flX6_29 (gg_22 b) rfl ?_
  refine go_iload_n dX6_add_62 rfl ?_
  refine go_iconst (v := nI 2) dX6_add_63 (by decide) ?_
  refine go_imulN dX6_add_64 ?_
  refine go_iload_n dX6_add_65 rfl ?_
  refine go_iaddN dX6_add_66 ?_
  refine go_aload_n dX6_add_67 rfl ?_
  refine gs_gr dX6_add_68 flX6_45 (gg_17 b) rfl ?_
  refine go_iload_n dX6_add_71 rfl ?_
  refine gs_iald (_) dX6_add_72 (gg_20 b) (rfl) (by omega) rfl (show _ = σ 20 0 by simp [us]) ?_
  refine gs_iast (_) dX6_add_73 (gg_27 b) (rfl) (by omega) rfl ?_
  refine go_aload_n dX6_add_74 rfl ?_
  refine gs_gr dX6_add_75 flX6_32 (gg_22 b) rfl ?_
  refine go_iload_n dX6_add_78 rfl ?_
  refine go_iconst (v := nI 2) dX6_add_79 (by decide) ?_
  refine go_imulN dX6_add_80 ?_
  refine go_iload_n dX6_add_81 rfl ?_
  refine go_iaddN dX6_add_82 ?_
  refine go_aload_n dX6_add_83 rfl ?_
  refine gs_gr dX6_add_84 flX6_46 (gg_17 b) rfl ?_
  refine go_iload_n dX6_add_87 rfl ?_
  refine gs_iald (_) dX6_add_88 (gg_21 b) (rfl) (by omega) rfl (show _ = σ 21 0 by simp [us]) ?_
  refine gs_iast (_) dX6_add_89 (gg_28 b) (rfl) (by omega) rfl ?_
  refine go_iinc (v := nI 1) (lv' := [_, _, _, _]) dX6_add_90 rfl (by decide) rfl rfl rfl ?_
  refine go_goto 37 dX6_add_93 (by decide) ?_
  refine go_iload_n dX6_add_37 rfl ?_
  refine go_iconst (v := nI 2) dX6_add_38 (by decide) ?_
  refine go_icmp_ge 96 dX6_add_39 (by decide) (fun z => absurd z (by decide)) (fun _ => ?_)
  refine go_aload_n dX6_add_42 rfl ?_
  refine gs_gr dX6_add_43 flX6_26 (gg_22 b) rfl ?_
  refine go_iload_n dX6_add_46 rfl ?_
  refine go_iconst (v := nI 2) dX6_add_47 (by decide) ?_
  refine go_imulN dX6_add_48 ?_
  refine go_iload_n dX6_add_49 rfl ?_
  refine go_iaddN dX6_add_50 ?_
  refine go_aload_n dX6_add_51 rfl ?_
  refine gs_gr dX6_add_52 flX6_44 (gg_17 b) rfl ?_
  refine go_iload_n dX6_add_55 rfl ?_
  refine gs_iald (_) dX6_add_56 (gg_19 b) (rfl) (by omega) rfl (show _ = σ 19 1 by simp [us]) ?_
  refine gs_iast (_) dX6_add_57 (gg_26 b) (rfl) (by omega) rfl ?_
  refine go_aload_n dX6_add_58 rfl ?_
  refine gs_gr dX6_add_59 flX6_29 (gg_22 b) rfl ?_
  refine go_iload_n dX6_add_62 rfl ?_
  refine go_iconst (v := nI 2) dX6_add_63 (by decide) ?_
  refine go_imulN dX6_add_64 ?_
  refine go_iload_n dX6_add_65 rfl ?_
  refine go_iaddN dX6_add_66 ?_
  refine go_aload_n dX6_add_67 rfl ?_
  refine gs_gr dX6_add_68 flX6_45 (gg_17 b) rfl ?_
  refine go_iload_n dX6_add_71 rfl ?_
  refine gs_iald (_) dX6_add_72 (gg_20 b) (rfl) (by omega) rfl (show _ = σ 20 1 by simp [us]) ?_
  refine gs_iast (_) dX6_add_73 (gg_27 b) (rfl) (by omega) rfl ?_
  refine go_aload_n dX6_add_74 rfl ?_
  refine gs_gr dX6_add_75 flX6_32 (gg_22 b) rfl ?_
  refine go_iload_n dX6_add_78 rfl ?_
  refine go_iconst (v := nI 2) dX6_add_79 (by decide) ?_
  refine go_imulN dX6_add_80 ?_
  refine go_iload_n dX6_add_81 rfl ?_
  refine go_iaddN dX6_add_82 ?_
  refine go_aload_n dX6_add_83 rfl ?_
  refine gs_gr dX6_add_84 flX6_46 (gg_17 b) rfl ?_
  refine go_iload_n dX6_add_87 rfl ?_
  refine gs_iald (_) dX6_add_88 (gg_21 b) (rfl) (by omega) rfl (show _ = σ 21 1 by simp [us]) ?_
  refine gs_iast (_) dX6_add_89 (gg_28 b) (rfl) (by omega) rfl ?_
  refine go_iinc (v := nI 2) (lv' := [_, _, _, _]) dX6_add_90 rfl (by decide) rfl rfl rfl ?_
  refine go_goto 37 dX6_add_93 (by decide) ?_
  refine go_iload_n dX6_add_37 rfl ?_
  refine go_iconst (v := nI 2) dX6_add_38 (by decide) ?_
  refine go_icmp_ge 96 dX6_add_39 (by decide) (fun _ => ?_) (fun z => absurd z (by decide))
  refine go_aload_n dX6_add_96 rfl ?_
  refine go_dup dX6_add_97 rfl ?_
  refine gs_gi dX6_add_98 flX6_9 (gg_22 b) rfl (show _ = nI r by simp [us]; exact hR) ?_
  refine go_iconst (v := nI 1) dX6_add_101 (by decide) ?_
  refine go_iaddN dX6_add_102 ?_
  refine gs_pi dX6_add_103 flX6_9 (gg_22 b) rfl (fun q hq => by cases hq; exact ⟨rfl, rfl⟩) ?_
  refine go_iload_n dX6_add_106 rfl ?_
  refine go_iret dX6_add_107 rfl rfl ?_
  exact ⟨rfl, by rw [s_radd, ← hb, bi_vn, hb]⟩
def there (σ : wg_S) (c : Nat) : Bool := !decide (σ 0 10 < σ 4 c)
def tn (σ : wg_S) (k : Nat) : Nat := (σ 25 k).toNatClampNeg
def CI (σ : wg_S) (n m j r : Nat) : Prop := (σ 1 0 = nI n ∧ n ≤ 16) ∧ (σ 9 0 = nI m ∧ m ≤ 9) ∧ (σ 14 0 = nI j ∧ j ≤ 6) ∧ (σ 22 0 = nI r ∧ r ≤ 12) ∧ ∀ k, k < r → σ 25 k = nI (tn σ k) ∧ tn σ k ≤ 2
theorem cX10_isThere_ok (κ : gm_K) (b : Bool) (σ : wg_S) (c : Nat) (hc : c < 16) : Fn κ mX10_isThere [.ref 0, .int (nI c)] (gg b) σ (some (.int (bi (there σ c)))) (gg b) σ := by
  refine go_start (by decide) (Nat.le_of_ble_eq_true rfl) ?_
  refine go_aload_n dX10_isThere_0 rfl ?_
  refine gs_gr dX10_isThere_1 flX10_10 (gg_0 b) rfl ?_
  refine gs_gr dX10_isThere_4 flX10_331 (gg_1 b) rfl ?_
  refine go_iload_n dX10_isThere_7 rfl ?_
  refine gs_iald (_) dX10_isThere_8 (gg_4 b) (rfl) (by omega) rfl (rfl) ?_
  refine go_aload_n dX10_isThere_9 rfl ?_
  refine gs_gi dX10_isThere_10 flX10_81 (gg_0 b) rfl (rfl) ?_
  refine go_icmp_gt 20 dX10_isThere_13 (by decide) (fun c13 => ?_) (fun c13 => ?_)
  · refine go_iconst (v := nI 0) dX10_isThere_20 (by decide) ?_
    refine go_zret dX10_isThere_21 rfl rfl (by decide) ?_
    exact ⟨by simp +decide [c13, bi, there], rfl⟩
  · refine go_iconst (v := nI 1) dX10_isThere_16 (by decide) ?_
    refine go_goto 21 dX10_isThere_17 (by decide) ?_
    refine go_zret dX10_isThere_21 rfl rfl (by decide) ?_
    exact ⟨by simp +decide [c13, bi, there], rfl⟩
theorem cX10_isSetOfChoirs_ok (κ : gm_K) (b : Bool) (σ : wg_S) (set : Int32) : Fn κ mX10_isSetOfChoirs [.ref 0, .int set] (gg b) σ (some (.int (bi (!decide (set = 0) && decide (set &&& -(nI 1 <<< (σ 1 0 &&& 31)) = 0))))) (gg b) σ := by
  refine go_start (by decide) (Nat.le_of_ble_eq_true rfl) ?_
  refine go_iload_n dX10_isSetOfChoirs_0 rfl ?_
  refine go_if_eq 19 dX10_isSetOfChoirs_1 (by decide) (fun c1 => ?_) (fun c1 => ?_)
  · refine go_iconst (v := nI 0) dX10_isSetOfChoirs_19 (by decide) ?_
    refine go_zret dX10_isSetOfChoirs_20 rfl rfl (by decide) ?_
    first
      | (simp only [decide_eq_true_eq, decide_eq_false_iff_not] at c12; exact ⟨by simp [bi, c1], rfl⟩)
      | exact ⟨by simp [bi, c1], rfl⟩
  · refine go_aload_n dX10_isSetOfChoirs_4 rfl ?_
    refine gs_gr dX10_isSetOfChoirs_5 flX10_10 (gg_0 b) rfl ?_
    refine go_iload_n dX10_isSetOfChoirs_8 rfl ?_
    refine gs_callVi dX10_isSetOfChoirs_9 cvX10_isSetOfChoirs_308 (cX0_hasAll_ok κ b σ _) rfl (gg_1 b) rfl rfl rfl ⟨rfl, rfl⟩ rfl ?_
    refine go_if_eqB 19 dX10_isSetOfChoirs_12 (by decide) (fun c12 => ?_) (fun c12 => ?_)
    · refine go_iconst (v := nI 0) dX10_isSetOfChoirs_19 (by decide) ?_
      refine go_zret dX10_isSetOfChoirs_20 rfl rfl (by decide) ?_
      first
        | (simp only [decide_eq_true_eq, decide_eq_false_iff_not] at c12; exact ⟨by simp [bi, c1, c12], rfl⟩)
        | exact ⟨by simp [bi, c1, c12], rfl⟩
    · refine go_iconst (v := nI 1) dX10_isSetOfChoirs_15 (by decide) ?_
      refine go_goto 20 dX10_isSetOfChoirs_16 (by decide) ?_
      refine go_zret dX10_isSetOfChoirs_20 rfl rfl (by decide) ?_
      first
        | (simp only [decide_eq_true_eq, decide_eq_false_iff_not] at c12; exact ⟨by simp [bi, c1, c12], rfl⟩)
        | exact ⟨by simp [bi, c1, c12], rfl⟩
theorem cX10_singersThere_ok (κ : gm_K) (b : Bool) (σ : wg_S) (n : Nat) (hn : n ≤ 16) (hN : σ 1 0 = nI n) : Fn κ mX10_singersThere [.ref 0] (gg b) σ (some (.int (sm (fun i => if there σ i = true then σ 6 i else 0) n))) (gg b) σ := by
  refine go_start (by decide) (Nat.le_of_ble_eq_true rfl) ?_
  refine go_iconst (v := nI 0) dX10_singersThere_0 (by decide) ?_
  refine go_istore_n (lv' := [_, _, _]) dX10_singersThere_1 rfl rfl rfl ?_
  refine go_iconst (v := nI 0) dX10_singersThere_2 (by decide) ?_
  refine go_istore_n (lv' := [_, _, _]) dX10_singersThere_3 rfl rfl rfl ?_
  skip
  refine lo_up n (P := fun i => Go κ mX10_singersThere 4 [some (.ref 0), some (.int (sm (fun i => if there σ i = true then σ 6 i else 0) i)), some (.int (nI i))] [] (wd (gg b) σ) (0, 0) _) (fun i hi ih => ?_) 0 (Nat.zero_le _)
  refine go_iload_n dX10_singersThere_4 rfl ?_
  refine go_aload_n dX10_singersThere_5 rfl ?_
  refine gs_gr dX10_singersThere_6 flX10_10 (gg_0 b) rfl ?_
  refine gs_gi dX10_singersThere_9 flX10_96 (gg_1 b) rfl (hN) ?_
  refine go_icmp_geN 41 dX10_singersThere_12 (by decide) (by omega) (by omega) (fun c12 => ?_) (fun c12 => ?_)
  · refine go_iload_n dX10_singersThere_41 rfl ?_
    refine go_iret dX10_singersThere_42 rfl rfl ?_
    have e : i = n := by omega
    subst e
    exact ⟨rfl, rfl⟩
  · refine go_aload_n dX10_singersThere_15 rfl ?_
    refine go_iload_n dX10_singersThere_16 rfl ?_
    refine gs_callVi dX10_singersThere_17 cvX10_singersThere_148 (cX10_isThere_ok κ b σ _ (by omega)) rfl (gg_0 b) rfl rfl rfl ⟨rfl, rfl⟩ rfl ?_
    refine go_if_eqB 35 dX10_singersThere_20 (by decide) (fun c20 => ?_) (fun c20 => ?_)
    · refine go_iincN (lv' := [_, _, _]) 1 dX10_singersThere_35 (by decide) rfl rfl rfl rfl ?_
      refine go_goto 4 dX10_singersThere_38 (by decide) ?_
      exact go_wk (by simp [lvle, sm, c12, c20]) (ih c12)
    · refine go_iload_n dX10_singersThere_23 rfl ?_
      refine go_aload_n dX10_singersThere_24 rfl ?_
      refine gs_gr dX10_singersThere_25 flX10_10 (gg_0 b) rfl ?_
      refine gs_gr dX10_singersThere_28 flX10_145 (gg_1 b) rfl ?_
      refine go_iload_n dX10_singersThere_31 rfl ?_
      refine gs_iald (_) dX10_singersThere_32 (gg_6 b) (rfl) (by omega) rfl (rfl) ?_
      refine go_iadd dX10_singersThere_33 ?_
      refine go_istore_n (lv' := [_, _, _]) dX10_singersThere_34 rfl rfl rfl ?_
      refine go_iincN (lv' := [_, _, _]) 1 dX10_singersThere_35 (by decide) rfl rfl rfl rfl ?_
      refine go_goto 4 dX10_singersThere_38 (by decide) ?_
      exact go_wk (by simp [lvle, sm, c12, c20]) (ih c12)
def rdy (σ : wg_S) (set : Int32) (i : Nat) : Bool := !decide (bv set i = nI 1) || (decide (σ 30 i = -1) && there σ i)
theorem cX10_areReadyToBeLaid_ok (κ : gm_K) (b : Bool) (σ : wg_S) (n : Nat) (hn : n ≤ 16) (hN : σ 1 0 = nI n) (set : Int32) : Fn κ mX10_areReadyToBeLaid [.ref 0, .int set] (gg b) σ (some (.int (bi (alb (rdy σ set) n)))) (gg b) σ := by
  refine go_start (by decide) (Nat.le_of_ble_eq_true rfl) ?_
  refine go_iconst (v := nI 0) dX10_areReadyToBeLaid_0 (by decide) ?_
  refine go_istore_n (lv' := [_, _, _]) dX10_areReadyToBeLaid_1 rfl rfl rfl ?_
  skip
  have loop : ∀ (i : Nat), i ≤ n → alb (rdy σ set) i = true → Go κ mX10_areReadyToBeLaid 2 [some (.ref 0), some (.int set), some (.int (nI i))] [] (wd (gg b) σ) (0, 0) (fun q h' => q = some (.int (bi (alb (rdy σ set) n))) ∧ h' = wd (gg b) σ) := by
    refine lo_up n (fun i hi ih ha => ?_)
    refine go_iload_n dX10_areReadyToBeLaid_2 rfl ?_
    refine go_aload_n dX10_areReadyToBeLaid_3 rfl ?_
    refine gs_gr dX10_areReadyToBeLaid_4 flX10_10 (gg_0 b) rfl ?_
    refine gs_gi dX10_areReadyToBeLaid_7 flX10_96 (gg_1 b) rfl (hN) ?_
    refine go_icmp_geN 49 dX10_areReadyToBeLaid_10 (by decide) (by omega) (by omega) (fun c10 => ?_) (fun c10 => ?_)
    · refine go_iconst (v := nI 1) dX10_areReadyToBeLaid_49 (by decide) ?_
      refine go_zret dX10_areReadyToBeLaid_50 rfl rfl (by decide) ?_
      have e : i = n := by omega
      subst e
      exact ⟨by simp [bi, ha], rfl⟩
    · refine go_iload_n dX10_areReadyToBeLaid_13 rfl ?_
      refine go_iload_n dX10_areReadyToBeLaid_14 rfl ?_
      refine go_ishr dX10_areReadyToBeLaid_15 ?_
      refine go_iconst (v := nI 1) dX10_areReadyToBeLaid_16 (by decide) ?_
      refine go_iand dX10_areReadyToBeLaid_17 ?_
      refine go_iconst (v := nI 1) dX10_areReadyToBeLaid_18 (by decide) ?_
      refine go_icmp_ne 43 dX10_areReadyToBeLaid_19 (by decide) (fun c19 => ?_) (fun c19 => ?_)
      · refine go_iincN (lv' := [_, _, _]) 1 dX10_areReadyToBeLaid_43 (by decide) rfl rfl rfl rfl ?_
        refine go_goto 2 dX10_areReadyToBeLaid_46 (by decide) ?_
        exact ih c10 (by simp [alb, ha, rdy, bv, c10, c19])
      · refine go_aload_n dX10_areReadyToBeLaid_22 rfl ?_
        refine gs_gr dX10_areReadyToBeLaid_23 flX10_49 (gg_0 b) rfl ?_
        refine go_iload_n dX10_areReadyToBeLaid_26 rfl ?_
        refine gs_callVi dX10_areReadyToBeLaid_27 cvX10_areReadyToBeLaid_213 (cX8_holds_ok κ b σ _ (by omega)) rfl (gg_29 b) rfl rfl rfl ⟨rfl, rfl⟩ rfl ?_
        refine go_if_neB 41 dX10_areReadyToBeLaid_30 (by decide) (fun c30 => ?_) (fun c30 => ?_)
        · simp at c30
          refine go_iconst (v := nI 0) dX10_areReadyToBeLaid_41 (by decide) ?_
          refine go_zret dX10_areReadyToBeLaid_42 rfl rfl (by decide) ?_
          exact ⟨by simp [bi, alb_not c10 (show rdy σ set i = false by simp [rdy, bv, c10, c19, c30])], rfl⟩
        · simp at c30
          refine go_aload_n dX10_areReadyToBeLaid_33 rfl ?_
          refine go_iload_n dX10_areReadyToBeLaid_34 rfl ?_
          refine gs_callVi dX10_areReadyToBeLaid_35 cvX10_areReadyToBeLaid_148 (cX10_isThere_ok κ b σ _ (by omega)) rfl (gg_0 b) rfl rfl rfl ⟨rfl, rfl⟩ rfl ?_
          refine go_if_neB 43 dX10_areReadyToBeLaid_38 (by decide) (fun c38 => ?_) (fun c38 => ?_)
          · refine go_iincN (lv' := [_, _, _]) 1 dX10_areReadyToBeLaid_43 (by decide) rfl rfl rfl rfl ?_
            refine go_goto 2 dX10_areReadyToBeLaid_46 (by decide) ?_
            exact ih c10 (by simp [alb, ha, rdy, bv, c10, c19, c30, c38])
          · refine go_iconst (v := nI 0) dX10_areReadyToBeLaid_41 (by decide) ?_
            refine go_zret dX10_areReadyToBeLaid_42 rfl rfl (by decide) ?_
            exact ⟨by simp [bi, alb_not c10 (show rdy σ set i = false by simp [rdy, bv, c10, c19, c30, c38])], rfl⟩
  exact loop 0 (Nat.zero_le _) rfl
def mnc (σ : wg_S) (j c : Nat) : Int32 := mnv (fun i => σ 16 (i * 16 + c)) j
def vlo (σ : wg_S) (j : Nat) (f : Int32) (c s : Nat) : Int32 := if f = nI 0 then (if nI 0 < mnc σ j c then mnc σ j c else nI 0) else if f = nI 1 then σ 12 s else if f = nI 2 then σ 3 c else if f = nI 3 then σ 6 c else σ 0 10
theorem cX10_valueOf_ok (κ : gm_K) (b : Bool) (σ : wg_S) (n m j r : Nat) (C : CI σ n m j r) (f : Int32) (c s : Nat) (hc : c < 16) (hs : s < 9) : Fn κ mX10_valueOf [.ref 0, .int f, .int (nI c), .int (nI s)] (gg b) σ (some (.int (vlo σ j f c s))) (gg b) σ := by
  refine go_start (by decide) (Nat.le_of_ble_eq_true rfl) ?_
  obtain ⟨⟨hN, hn⟩, ⟨hM, hm⟩, ⟨hJ, hj⟩, ⟨hR, hr⟩, hT⟩ := id C
  refine go_iload_n dX10_valueOf_0 rfl ?_
  refine go_tsw 3 [32, 45, 55, 65] 75 dX10_valueOf_1 (by decide) (by decide) (fun c1 => ?_) (fun k hk c1 => ?_)
  · refine go_aload_n dX10_valueOf_75 rfl ?_
    refine gs_gi dX10_valueOf_76 flX10_81 (gg_0 b) rfl (rfl) ?_
    refine go_iret dX10_valueOf_79 rfl rfl ?_
    exact ⟨by simp [vlo, c1 0 (by decide), c1 1 (by decide), c1 2 (by decide), c1 3 (by decide)], rfl⟩
  · match k, hk, c1 with
    | 0, _, c1 =>
      show Go κ mX10_valueOf 32 _ _ _ _ _
      refine go_iconst (v := nI 0) dX10_valueOf_32 (by decide) ?_
      refine go_aload_n dX10_valueOf_33 rfl ?_
      refine gs_gr dX10_valueOf_34 flX10_26 (gg_0 b) rfl ?_
      refine go_iload_n dX10_valueOf_37 rfl ?_
      refine gs_callVi dX10_valueOf_38 cvX10_valueOf_136 (cX2_meanOf_ok κ b σ j hj hJ c hc) rfl (gg_14 b) rfl rfl rfl ⟨rfl, rfl⟩ rfl ?_
      refine gs_callSi dX10_valueOf_41 csX10_valueOf_363 (cJ9_max_ok κ b σ _ _) rfl rfl rfl ⟨rfl, rfl⟩ rfl ?_
      refine go_iret dX10_valueOf_44 rfl rfl ?_
      exact ⟨by rw [vlo, if_pos c1]; rfl, rfl⟩
    | 1, _, c1 =>
      show Go κ mX10_valueOf 45 _ _ _ _ _
      refine go_aload_n dX10_valueOf_45 rfl ?_
      refine gs_gr dX10_valueOf_46 flX10_19 (gg_0 b) rfl ?_
      refine gs_gr dX10_valueOf_49 flX10_368 (gg_9 b) rfl ?_
      refine go_iload_n dX10_valueOf_52 rfl ?_
      refine gs_iald (_) dX10_valueOf_53 (gg_12 b) (rfl) (by omega) rfl (rfl) ?_
      refine go_iret dX10_valueOf_54 rfl rfl ?_
      exact ⟨by simp +decide [vlo, mnc, c1], rfl⟩
    | 2, _, c1 =>
      show Go κ mX10_valueOf 55 _ _ _ _ _
      refine go_aload_n dX10_valueOf_55 rfl ?_
      refine gs_gr dX10_valueOf_56 flX10_10 (gg_0 b) rfl ?_
      refine gs_gr dX10_valueOf_59 flX10_132 (gg_1 b) rfl ?_
      refine go_iload_n dX10_valueOf_62 rfl ?_
      refine gs_iald (_) dX10_valueOf_63 (gg_3 b) (rfl) (by omega) rfl (rfl) ?_
      refine go_iret dX10_valueOf_64 rfl rfl ?_
      exact ⟨by simp +decide [vlo, mnc, c1], rfl⟩
    | 3, _, c1 =>
      show Go κ mX10_valueOf 65 _ _ _ _ _
      refine go_aload_n dX10_valueOf_65 rfl ?_
      refine gs_gr dX10_valueOf_66 flX10_10 (gg_0 b) rfl ?_
      refine gs_gr dX10_valueOf_69 flX10_145 (gg_1 b) rfl ?_
      refine go_iload_n dX10_valueOf_72 rfl ?_
      refine gs_iald (_) dX10_valueOf_73 (gg_6 b) (rfl) (by omega) rfl (rfl) ?_
      refine go_iret dX10_valueOf_74 rfl rfl ?_
      exact ⟨by simp +decide [vlo, mnc, c1], rfl⟩
    | k + 4, hk, _ => exact absurd hk (by omega)
def rht (σ : wg_S) (j r c s t : Nat) : Bool := tsh σ r t (vlo σ j (σ 26 (r * 2 + t)) c s)
def rhl (σ : wg_S) (j r c s : Nat) : Bool := (decide (σ 24 r = -1) || decide (σ 24 r = σ 2 c)) && alb (rht σ j r c s) (tn σ r)
def lrl (σ : wg_S) (j c s : Nat) : Nat → Option Nat
  | 0 => none
  | k + 1 => if rhl σ j k c s then some k else lrl σ j c s k
theorem lrl_lt {σ : wg_S} {j c s : Nat} : ∀ {k x : Nat}, lrl σ j c s k = some x → x < k
  | 0, x, h => by simp [lrl] at h
  | k + 1, x, h => by
    rw [show lrl σ j c s (k + 1) = if rhl σ j k c s then some k else lrl σ j c s k from rfl] at h
    by_cases hc : rhl σ j k c s = true
    · rw [if_pos hc] at h; cases h; omega
    · rw [if_neg hc] at h; have := lrl_lt h; omega
theorem cX10_ruleHolds_ok (κ : gm_K) (b : Bool) (σ : wg_S) (n m j r : Nat) (C : CI σ n m j r) (q : Nat) (hq : q < r) (c s : Nat) (hc : c < 16) (hs : s < 9) : Fn κ mX10_ruleHolds [.ref 0, .int (nI q), .int (nI c), .int (nI s)] (gg b) σ (some (.int (bi (rhl σ j q c s)))) (gg b) σ := by
  refine go_start (by decide) (Nat.le_of_ble_eq_true rfl) ?_
  obtain ⟨⟨hN, hn⟩, ⟨hM, hm⟩, ⟨hJ, hj⟩, ⟨hR, hr⟩, hT⟩ := id C
  obtain ⟨hT1, hT2⟩ := hT q hq
  have loop : (decide (σ 24 q = -1) || decide (σ 24 q = σ 2 c)) = true → ∀ (i : Nat), i ≤ tn σ q → alb (rht σ j q c s) i = true → Go κ mX10_ruleHolds 39 [some (.ref 0), some (.int (nI q)), some (.int (nI c)), some (.int (nI s)), some (.int (nI i)), none] [] (wd (gg b) σ) (0, 0) (fun z h' => z = some (.int (bi (rhl σ j q c s))) ∧ h' = wd (gg b) σ) := by
    intro hk
    refine lo_up (tn σ q) (fun i hi ih ha => ?_)
    refine go_iload dX10_ruleHolds_39 rfl ?_
    refine go_aload_n dX10_ruleHolds_41 rfl ?_
    refine gs_gr dX10_ruleHolds_42 flX10_40 (gg_0 b) rfl ?_
    refine gs_gr dX10_ruleHolds_45 flX10_351 (gg_22 b) rfl ?_
    refine go_iload_n dX10_ruleHolds_48 rfl ?_
    refine gs_iald (_) dX10_ruleHolds_49 (gg_25 b) (rfl) (by omega) rfl (hT1) ?_
    refine go_icmp_geN 94 dX10_ruleHolds_50 (by decide) (by omega) (by omega) (fun c50 => ?_) (fun c50 => ?_)
    · refine go_iconst (v := nI 1) dX10_ruleHolds_94 (by decide) ?_
      refine go_zret dX10_ruleHolds_95 rfl rfl (by decide) ?_
      have e : i = tn σ q := by omega
      rw [e] at ha
      exact ⟨by rw [rhl, hk, ha]; rfl, rfl⟩
    · refine go_aload_n dX10_ruleHolds_53 rfl ?_
      refine go_aload_n dX10_ruleHolds_54 rfl ?_
      refine gs_gr dX10_ruleHolds_55 flX10_40 (gg_0 b) rfl ?_
      refine go_iload_n dX10_ruleHolds_58 rfl ?_
      refine go_iload dX10_ruleHolds_59 rfl ?_
      refine gs_callVi dX10_ruleHolds_61 cvX10_ruleHolds_354 (cX6_fieldOf_ok κ b σ q i (by omega) (by omega)) rfl (gg_22 b) rfl rfl rfl ⟨rfl, rfl⟩ rfl ?_
      refine go_iload_n dX10_ruleHolds_64 rfl ?_
      refine go_iload_n dX10_ruleHolds_65 rfl ?_
      refine gs_callVi dX10_ruleHolds_66 cvX10_ruleHolds_357 (cX10_valueOf_ok κ b σ n m j r C _ c s hc hs) rfl (gg_0 b) rfl rfl rfl ⟨rfl, rfl⟩ rfl ?_
      refine go_istore (lv' := [_, _, _, _, _, _]) dX10_ruleHolds_69 rfl rfl rfl ?_
      refine go_aload_n dX10_ruleHolds_71 rfl ?_
      refine gs_gr dX10_ruleHolds_72 flX10_40 (gg_0 b) rfl ?_
      refine go_iload_n dX10_ruleHolds_75 rfl ?_
      refine go_iload dX10_ruleHolds_76 rfl ?_
      refine go_iload dX10_ruleHolds_78 rfl ?_
      refine gs_callVi dX10_ruleHolds_80 cvX10_ruleHolds_360 (cX6_testHolds_ok κ b σ q i (by omega) (by omega) _) rfl (gg_22 b) rfl rfl rfl ⟨rfl, rfl⟩ rfl ?_
      refine go_if_neB 88 dX10_ruleHolds_83 (by decide) (fun c83 => ?_) (fun c83 => ?_)
      · refine go_iincN (lv' := [_, _, _, _, _, _]) 1 dX10_ruleHolds_88 (by decide) rfl rfl rfl rfl ?_
        refine go_goto 39 dX10_ruleHolds_91 (by decide) ?_
        exact go_wk (by exact ⟨rfl, rfl, rfl, rfl, rfl, trivial⟩) (ih c50 (by rw [alb, ha, Bool.true_and]; exact c83))
      · refine go_iconst (v := nI 0) dX10_ruleHolds_86 (by decide) ?_
        refine go_zret dX10_ruleHolds_87 rfl rfl (by decide) ?_
        exact ⟨by rw [rhl, alb_not c50 (show rht σ j q c s i = false from c83), Bool.and_false]; rfl, rfl⟩
  refine go_aload_n dX10_ruleHolds_0 rfl ?_
  refine gs_gr dX10_ruleHolds_1 flX10_40 (gg_0 b) rfl ?_
  refine gs_gr dX10_ruleHolds_4 flX10_350 (gg_22 b) rfl ?_
  refine go_iload_n dX10_ruleHolds_7 rfl ?_
  refine gs_iald (_) dX10_ruleHolds_8 (gg_24 b) (rfl) (by omega) rfl (rfl) ?_
  refine go_iconst (v := -1) dX10_ruleHolds_9 (by decide) ?_
  refine go_icmp_eq 36 dX10_ruleHolds_10 (by decide) (fun c10 => ?_) (fun c10 => ?_)
  · refine go_iconst (v := nI 0) dX10_ruleHolds_36 (by decide) ?_
    refine go_istore (lv' := [_, _, _, _, _, _]) dX10_ruleHolds_37 rfl rfl rfl ?_
    exact go_wk (by exact ⟨rfl, rfl, rfl, rfl, rfl, trivial⟩) (loop (by simp [c10]) 0 (Nat.zero_le _) rfl)
  · refine go_aload_n dX10_ruleHolds_13 rfl ?_
    refine gs_gr dX10_ruleHolds_14 flX10_40 (gg_0 b) rfl ?_
    refine gs_gr dX10_ruleHolds_17 flX10_350 (gg_22 b) rfl ?_
    refine go_iload_n dX10_ruleHolds_20 rfl ?_
    refine gs_iald (_) dX10_ruleHolds_21 (gg_24 b) (rfl) (by omega) rfl (rfl) ?_
    refine go_aload_n dX10_ruleHolds_22 rfl ?_
    refine gs_gr dX10_ruleHolds_23 flX10_10 (gg_0 b) rfl ?_
    refine gs_gr dX10_ruleHolds_26 flX10_142 (gg_1 b) rfl ?_
    refine go_iload_n dX10_ruleHolds_29 rfl ?_
    refine gs_iald (_) dX10_ruleHolds_30 (gg_2 b) (rfl) (by omega) rfl (rfl) ?_
    refine go_icmp_eq 36 dX10_ruleHolds_31 (by decide) (fun c31 => ?_) (fun c31 => ?_)
    · refine go_iconst (v := nI 0) dX10_ruleHolds_36 (by decide) ?_
      refine go_istore (lv' := [_, _, _, _, _, _]) dX10_ruleHolds_37 rfl rfl rfl ?_
      exact go_wk (by exact ⟨rfl, rfl, rfl, rfl, rfl, trivial⟩) (loop (by simp [c10, c31]) 0 (Nat.zero_le _) rfl)
    · refine go_iconst (v := nI 0) dX10_ruleHolds_34 (by decide) ?_
      refine go_zret dX10_ruleHolds_35 rfl rfl (by decide) ?_
      exact ⟨by simp [rhl, bi, c10, c31], rfl⟩
theorem cX10_lastRuleThatHolds_ok (κ : gm_K) (b : Bool) (σ : wg_S) (n m j r : Nat) (C : CI σ n m j r) (c s : Nat) (hc : c < 16) (hs : s < 9) : Fn κ mX10_lastRuleThatHolds [.ref 0, .int (nI c), .int (nI s)] (gg b) σ (some (.int (oI (lrl σ j c s r)))) (gg b) σ := by
  refine go_start (by decide) (Nat.le_of_ble_eq_true rfl) ?_
  obtain ⟨⟨hN, hn⟩, ⟨hM, hm⟩, ⟨hJ, hj⟩, ⟨hR, hr⟩, hT⟩ := id C
  have loop : ∀ (k : Nat), k ≤ r → lrl σ j c s r = lrl σ j c s k → Go κ mX10_lastRuleThatHolds 10 [some (.ref 0), some (.int (nI c)), some (.int (nI s)), some (.int (pI k))] [] (wd (gg b) σ) (0, 0) (fun z h' => z = some (.int (oI (lrl σ j c s r))) ∧ h' = wd (gg b) σ) := by
    intro k
    induction k with
    | zero =>
      intro hk hd
      rw [show pI 0 = -1 from rfl]
      refine go_iload_n dX10_lastRuleThatHolds_10 rfl ?_
      refine go_if_lt 32 dX10_lastRuleThatHolds_11 (by decide) (fun _ => ?_) (fun z => absurd z (by decide))
      refine go_iconst (v := -1) dX10_lastRuleThatHolds_32 (by decide) ?_
      refine go_iret dX10_lastRuleThatHolds_33 rfl rfl ?_
      exact ⟨by rw [hd]; rfl, rfl⟩
    | succ k ih =>
      intro hk hd
      have hs' : lrl σ j c s (k + 1) = if rhl σ j k c s then some k else lrl σ j c s k := rfl
      rw [show pI (k + 1) = nI k from rfl]
      refine go_iload_n dX10_lastRuleThatHolds_10 rfl ?_
      refine go_if_ltN 32 dX10_lastRuleThatHolds_11 (by decide) (by omega) ?_
      refine go_aload_n dX10_lastRuleThatHolds_14 rfl ?_
      refine go_iload_n dX10_lastRuleThatHolds_15 rfl ?_
      refine go_iload_n dX10_lastRuleThatHolds_16 rfl ?_
      refine go_iload_n dX10_lastRuleThatHolds_17 rfl ?_
      refine gs_callVi dX10_lastRuleThatHolds_18 cvX10_lastRuleThatHolds_347 (cX10_ruleHolds_ok κ b σ n m j r C k (by omega) c s hc hs) rfl (gg_0 b) rfl rfl rfl ⟨rfl, rfl⟩ rfl ?_
      refine go_if_eqB 26 dX10_lastRuleThatHolds_21 (by decide) (fun c21 => ?_) (fun c21 => ?_)
      · refine go_iinc (lv' := [_, _, _, _]) dX10_lastRuleThatHolds_26 rfl (pI_dec k) rfl rfl rfl ?_
        refine go_goto 10 dX10_lastRuleThatHolds_29 (by decide) ?_
        exact ih (by omega) (by rw [hd, hs', c21]; rfl)
      · refine go_iload_n dX10_lastRuleThatHolds_24 rfl ?_
        refine go_iret dX10_lastRuleThatHolds_25 rfl rfl ?_
        exact ⟨by rw [hd, hs', c21]; rfl, rfl⟩
  refine go_aload_n dX10_lastRuleThatHolds_0 rfl ?_
  refine gs_gr dX10_lastRuleThatHolds_1 flX10_40 (gg_0 b) rfl ?_
  refine gs_gi dX10_lastRuleThatHolds_4 flX10_176 (gg_22 b) rfl (hR) ?_
  refine go_iconst (v := nI 1) dX10_lastRuleThatHolds_7 (by decide) ?_
  refine go_isub dX10_lastRuleThatHolds_8 ?_
  refine go_istore_n (lv' := [_, _, _, _]) dX10_lastRuleThatHolds_9 rfl rfl rfl ?_
  refine go_wk ?_ (loop r (Nat.le_refl _) rfl)
  have e : nI r - nI 1 = pI r := by
    cases r with
    | zero => decide
    | succ r => exact nI_pred r
  exact ⟨rfl, rfl, rfl, congrArg (fun z => some (Value.int z)) e, trivial⟩
def vdt (σ : wg_S) (j r c s : Nat) : Int32 :=
  if there σ c = false then nI 1 else if (σ 10 s >>> (σ 2 c &&& 31)) &&& nI 1 = 0 then nI 2
  else if ¬ σ 11 s &&& (om (fun v => !decide (σ 5 (c * 4 + v) ≤ 0)) 4 ^^^ -1) = 0 then nI 3
  else match lrl σ j c s r with
    | none => nI 0
    | some k => if σ 23 k = 0 then nI 0 else nI 4
theorem cX10_verdict_ok (κ : gm_K) (b : Bool) (σ : wg_S) (n m j r : Nat) (C : CI σ n m j r) (c s : Nat) (hc : c < 16) (hs : s < 9) : Fn κ mX10_verdict [.ref 0, .int (nI c), .int (nI s)] (gg b) σ (some (.int (vdt σ j r c s))) (gg b) σ := by
  refine go_start (by decide) (Nat.le_of_ble_eq_true rfl) ?_
  obtain ⟨⟨hN, hn⟩, ⟨hM, hm⟩, ⟨hJ, hj⟩, ⟨hR, hr⟩, hT⟩ := id C
  have hlt := @lrl_lt σ j c s r
  refine go_aload_n dX10_verdict_0 rfl ?_
  refine go_iload_n dX10_verdict_1 rfl ?_
  refine gs_callVi dX10_verdict_2 cvX10_verdict_148 (cX10_isThere_ok κ b σ c hc) rfl (gg_0 b) rfl rfl rfl ⟨rfl, rfl⟩ rfl ?_
  refine go_if_neB 10 dX10_verdict_5 (by decide) (fun c5 => ?_) (fun c5 => ?_)
  · refine go_aload_n dX10_verdict_10 rfl ?_
    refine gs_gr dX10_verdict_11 flX10_19 (gg_0 b) rfl ?_
    refine gs_gr dX10_verdict_14 flX10_334 (gg_9 b) rfl ?_
    refine go_iload_n dX10_verdict_17 rfl ?_
    refine gs_iald (_) dX10_verdict_18 (gg_10 b) (rfl) (by omega) rfl (rfl) ?_
    refine go_aload_n dX10_verdict_19 rfl ?_
    refine gs_gr dX10_verdict_20 flX10_10 (gg_0 b) rfl ?_
    refine gs_gr dX10_verdict_23 flX10_142 (gg_1 b) rfl ?_
    refine go_iload_n dX10_verdict_26 rfl ?_
    refine gs_iald (_) dX10_verdict_27 (gg_2 b) (rfl) (by omega) rfl (rfl) ?_
    refine go_ishr dX10_verdict_28 ?_
    refine go_iconst (v := nI 1) dX10_verdict_29 (by decide) ?_
    refine go_iand dX10_verdict_30 ?_
    refine go_if_ne 36 dX10_verdict_31 (by decide) (fun c31 => ?_) (fun c31 => ?_)
    · refine go_aload_n dX10_verdict_36 rfl ?_
      refine gs_gr dX10_verdict_37 flX10_19 (gg_0 b) rfl ?_
      refine gs_gr dX10_verdict_40 flX10_337 (gg_9 b) rfl ?_
      refine go_iload_n dX10_verdict_43 rfl ?_
      refine gs_iald (_) dX10_verdict_44 (gg_11 b) (rfl) (by omega) rfl (rfl) ?_
      refine go_aload_n dX10_verdict_45 rfl ?_
      refine gs_gr dX10_verdict_46 flX10_10 (gg_0 b) rfl ?_
      refine go_iload_n dX10_verdict_49 rfl ?_
      refine gs_callVi dX10_verdict_50 cvX10_verdict_340 (cX0_voicesOf_ok κ b σ c hc) rfl (gg_1 b) rfl rfl rfl ⟨rfl, rfl⟩ rfl ?_
      refine go_iconst (v := -1) dX10_verdict_53 (by decide) ?_
      refine go_ixor dX10_verdict_54 ?_
      refine go_iand dX10_verdict_55 ?_
      refine go_if_eq 61 dX10_verdict_56 (by decide) (fun c56 => ?_) (fun c56 => ?_)
      · cases hl : lrl σ j c s r with
      | none =>
        have hL := cX10_lastRuleThatHolds_ok κ b σ n m j r C c s hc hs
        rw [hl] at hL
        refine go_aload_n dX10_verdict_61 rfl ?_
        refine go_iload_n dX10_verdict_62 rfl ?_
        refine go_iload_n dX10_verdict_63 rfl ?_
        refine gs_callVi dX10_verdict_64 cvX10_verdict_191 (hL) rfl (gg_0 b) rfl rfl rfl ⟨rfl, rfl⟩ rfl ?_
        refine go_istore_n (lv' := [_, _, _, _]) dX10_verdict_67 rfl rfl rfl ?_
        refine go_iload_n dX10_verdict_68 rfl ?_
        refine go_iconst (v := -1) dX10_verdict_69 (by decide) ?_
        refine go_icmp_eq 89 dX10_verdict_70 (by decide) (fun _ => ?_) (fun z => absurd z (by decide))
        refine go_iconst (v := nI 0) dX10_verdict_89 (by decide) ?_
        refine go_iret dX10_verdict_90 rfl rfl ?_
        exact ⟨by rw [vdt, if_neg (by simp [c5]), if_neg c31, if_neg (fun z => z c56), hl], rfl⟩
      | some k =>
        have hk := hlt hl
        have hL := cX10_lastRuleThatHolds_ok κ b σ n m j r C c s hc hs
        rw [hl] at hL
        refine go_aload_n dX10_verdict_61 rfl ?_
        refine go_iload_n dX10_verdict_62 rfl ?_
        refine go_iload_n dX10_verdict_63 rfl ?_
        refine gs_callVi dX10_verdict_64 cvX10_verdict_191 (hL) rfl (gg_0 b) rfl rfl rfl ⟨rfl, rfl⟩ rfl ?_
        refine go_istore_n (lv' := [_, _, _, _]) dX10_verdict_67 rfl rfl rfl ?_
        refine go_iload_n dX10_verdict_68 rfl ?_
        refine go_iconst (v := -1) dX10_verdict_69 (by decide) ?_
        refine go_icmp_eq 89 dX10_verdict_70 (by decide) (fun c70 => ?_) (fun c70 => ?_)
        · exact absurd c70 (nI_m1 (by omega))
        · refine go_aload_n dX10_verdict_73 rfl ?_
          refine gs_gr dX10_verdict_74 flX10_40 (gg_0 b) rfl ?_
          refine gs_gr dX10_verdict_77 flX10_343 (gg_22 b) rfl ?_
          refine go_iload_n dX10_verdict_80 rfl ?_
          refine gs_zald (_) dX10_verdict_81 (gg_23 b) (rfl) (by omega) rfl (rfl) ?_
          refine go_if_eq 89 dX10_verdict_82 (by decide) (fun c82 => ?_) (fun c82 => ?_)
          · refine go_iconst (v := nI 0) dX10_verdict_89 (by decide) ?_
            refine go_iret dX10_verdict_90 rfl rfl ?_
            exact ⟨by rw [vdt, if_neg (by simp [c5]), if_neg c31, if_neg (fun z => z c56), hl]; simp [c82], rfl⟩
          · refine go_iconst (v := nI 4) dX10_verdict_85 (by decide) ?_
            refine go_goto 90 dX10_verdict_86 (by decide) ?_
            refine go_iret dX10_verdict_90 rfl rfl ?_
            exact ⟨by rw [vdt, if_neg (by simp [c5]), if_neg c31, if_neg (fun z => z c56), hl]; simp [c82], rfl⟩
      · refine go_iconst (v := nI 3) dX10_verdict_59 (by decide) ?_
        refine go_iret dX10_verdict_60 rfl rfl ?_
        exact ⟨by rw [vdt, if_neg (by simp [c5]), if_neg c31, if_pos c56], rfl⟩
    · refine go_iconst (v := nI 2) dX10_verdict_34 (by decide) ?_
      refine go_iret dX10_verdict_35 rfl rfl ?_
      exact ⟨by simp +decide [vdt, c5, c31], rfl⟩
  · refine go_iconst (v := nI 1) dX10_verdict_8 (by decide) ?_
    refine go_iret dX10_verdict_9 rfl rfl ?_
    exact ⟨by simp +decide [vdt, c5], rfl⟩
theorem cX10_choirsThatMay_ok (κ : gm_K) (b : Bool) (σ : wg_S) (n m j r : Nat) (C : CI σ n m j r) (s : Nat) (hs : s < 9) : Fn κ mX10_choirsThatMay [.ref 0, .int (nI s)] (gg b) σ (some (.int (om (fun c => decide (vdt σ j r c s = 0)) n))) (gg b) σ := by
  refine go_start (by decide) (Nat.le_of_ble_eq_true rfl) ?_
  obtain ⟨⟨hN, hn⟩, ⟨hM, hm⟩, ⟨hJ, hj⟩, ⟨hR, hr⟩, hT⟩ := id C
  refine go_iconst (v := nI 0) dX10_choirsThatMay_0 (by decide) ?_
  refine go_istore_n (lv' := [_, _, _, _]) dX10_choirsThatMay_1 rfl rfl rfl ?_
  refine go_iconst (v := nI 0) dX10_choirsThatMay_2 (by decide) ?_
  refine go_istore_n (lv' := [_, _, _, _]) dX10_choirsThatMay_3 rfl rfl rfl ?_
  skip
  refine lo_up n (P := fun i => Go κ mX10_choirsThatMay 4 [some (.ref 0), some (.int (nI s)), some (.int (om (fun c => decide (vdt σ j r c s = 0)) i)), some (.int (nI i))] [] (wd (gg b) σ) (0, 0) _) (fun i hi ih => ?_) 0 (Nat.zero_le _)
  refine go_iload_n dX10_choirsThatMay_4 rfl ?_
  refine go_aload_n dX10_choirsThatMay_5 rfl ?_
  refine gs_gr dX10_choirsThatMay_6 flX10_10 (gg_0 b) rfl ?_
  refine gs_gi dX10_choirsThatMay_9 flX10_96 (gg_1 b) rfl (hN) ?_
  refine go_icmp_geN 36 dX10_choirsThatMay_12 (by decide) (by omega) (by omega) (fun c12 => ?_) (fun c12 => ?_)
  · refine go_iload_n dX10_choirsThatMay_36 rfl ?_
    refine go_iret dX10_choirsThatMay_37 rfl rfl ?_
    have e : i = n := by omega
    subst e
    exact ⟨rfl, rfl⟩
  · refine go_aload_n dX10_choirsThatMay_15 rfl ?_
    refine go_iload_n dX10_choirsThatMay_16 rfl ?_
    refine go_iload_n dX10_choirsThatMay_17 rfl ?_
    refine gs_callVi dX10_choirsThatMay_18 cvX10_choirsThatMay_188 (cX10_verdict_ok κ b σ n m j r C i s (by omega) hs) rfl (gg_0 b) rfl rfl rfl ⟨rfl, rfl⟩ rfl ?_
    refine go_if_ne 30 dX10_choirsThatMay_21 (by decide) (fun c21 => ?_) (fun c21 => ?_)
    · refine go_iincN (lv' := [_, _, _, _]) 1 dX10_choirsThatMay_30 (by decide) rfl rfl rfl rfl ?_
      refine go_goto 4 dX10_choirsThatMay_33 (by decide) ?_
      exact go_wk (by simp [lvle, om, c21]) (ih c12)
    · refine go_iload_n dX10_choirsThatMay_24 rfl ?_
      refine go_iconst (v := nI 1) dX10_choirsThatMay_25 (by decide) ?_
      refine go_iload_n dX10_choirsThatMay_26 rfl ?_
      refine go_ishl dX10_choirsThatMay_27 ?_
      refine go_ior dX10_choirsThatMay_28 ?_
      refine go_istore_n (lv' := [_, _, _, _]) dX10_choirsThatMay_29 rfl rfl rfl ?_
      refine go_iincN (lv' := [_, _, _, _]) 1 dX10_choirsThatMay_30 (by decide) rfl rfl rfl rfl ?_
      refine go_goto 4 dX10_choirsThatMay_33 (by decide) ?_
      exact go_wk (by simp [lvle, om, c21]) (ih c12)
