def K_change (σ : wg_S) (n j r : Nat) (p q : Int32) : Int32 := if hs (σ 9 0) p = false then -1 else if hs (σ 9 0) q = false then -1 else if p = q then -2 else sm (fun i => bv (ctm σ n j r p.toNatClampNeg ^^^ ctm σ n j r q.toNatClampNeg) i * po (σ 6 i) (nI 5)) n
theorem cX10_change_ok (κ : gm_K) (b : Bool) (σ : wg_S) (n m j r : Nat) (C : CI σ n m j r) (p q : Int32) : Fn κ mX10_change [.ref 0, .int p, .int q] (gg b) σ (some (.int (K_change σ n j r p q))) (gg b) σ := by
  refine go_start (by decide) (Nat.le_of_ble_eq_true rfl) ?_
  obtain ⟨⟨hN, hn⟩, ⟨hM, hm⟩, ⟨hJ, hj⟩, ⟨hR, hr⟩, hT⟩ := id C
  refine go_aload_n dX10_change_0 rfl ?_
  refine gs_gr dX10_change_1 flX10_19 (gg_0 b) rfl ?_
  refine go_iload_n dX10_change_4 rfl ?_
  refine gs_callVi dX10_change_5 cvX10_change_187 (cX7_has_ok κ b σ _) rfl (gg_9 b) rfl rfl rfl ⟨rfl, rfl⟩ rfl ?_
  refine go_if_eqB 22 dX10_change_8 (by decide) (fun c8 => ?_) (fun c8 => ?_)
  · refine go_iconst (v := -1) dX10_change_22 (by decide) ?_
    refine go_iret dX10_change_23 rfl rfl ?_
    exact ⟨by simp +decide [c8, K_change]; try rfl, rfl⟩
  · refine go_aload_n dX10_change_11 rfl ?_
    refine gs_gr dX10_change_12 flX10_19 (gg_0 b) rfl ?_
    refine go_iload_n dX10_change_15 rfl ?_
    refine gs_callVi dX10_change_16 cvX10_change_187 (cX7_has_ok κ b σ _) rfl (gg_9 b) rfl rfl rfl ⟨rfl, rfl⟩ rfl ?_
    refine go_if_neB 24 dX10_change_19 (by decide) (fun c19 => ?_) (fun c19 => ?_)
    · refine go_iload_n dX10_change_24 rfl ?_
      refine go_iload_n dX10_change_25 rfl ?_
      refine go_icmp_ne 32 dX10_change_26 (by decide) (fun c26 => ?_) (fun c26 => ?_)
      · obtain ⟨x, hx, rfl⟩ := hs_ix (by omega) (hM ▸ c8)
        obtain ⟨y, hy, rfl⟩ := hs_ix (by omega) (hM ▸ c19)
        have ex := nI_clamp (show x < 2 ^ 31 by omega)
        have ey := nI_clamp (show y < 2 ^ 31 by omega)
        refine go_aload_n dX10_change_32 rfl ?_
        refine gs_gr dX10_change_33 flX10_10 (gg_0 b) rfl ?_
        refine go_aload_n dX10_change_36 rfl ?_
        refine go_iload_n dX10_change_37 rfl ?_
        refine gs_callVi dX10_change_38 cvX10_change_194 (cX10_choirsThatMay_ok κ b σ n m j r C _ (by omega)) rfl (gg_0 b) rfl rfl rfl ⟨rfl, rfl⟩ rfl ?_
        refine go_aload_n dX10_change_41 rfl ?_
        refine go_iload_n dX10_change_42 rfl ?_
        refine gs_callVi dX10_change_43 cvX10_change_194 (cX10_choirsThatMay_ok κ b σ n m j r C _ (by omega)) rfl (gg_0 b) rfl rfl rfl ⟨rfl, rfl⟩ rfl ?_
        refine go_ixor dX10_change_46 ?_
        refine gs_callVi dX10_change_47 cvX10_change_252 (cX0_changeOf_ok κ b σ n hn hN _) rfl (gg_1 b) rfl rfl rfl ⟨rfl, rfl⟩ rfl ?_
        refine go_iret dX10_change_50 rfl rfl ?_
        exact ⟨by simp +decide [c8, c19, c26, ex, ey, K_change]; try rfl, rfl⟩
      · refine go_bipush (v := -2) dX10_change_29 (by decide) ?_
        refine go_iret dX10_change_31 rfl rfl ?_
        exact ⟨by simp +decide [c8, c19, c26, K_change]; try rfl, rfl⟩
    · refine go_iconst (v := -1) dX10_change_22 (by decide) ?_
      refine go_iret dX10_change_23 rfl rfl ?_
      exact ⟨by simp +decide [c8, c19, K_change]; try rfl, rfl⟩
def K_ordered (σ : wg_S) (i : Int32) : Int32 := if i < 0 then -1 else if σ 34 0 ≤ i then -1 else σ 35 i.toNatClampNeg
theorem cX10_ordered_ok (κ : gm_K) (b : Bool) (σ : wg_S) (kl : Nat) (hkl : σ 34 0 = nI kl ∧ kl ≤ 9) (i : Int32) : Fn κ mX10_ordered [.ref 0, .int i] (gg b) σ (some (.int (K_ordered σ i))) (gg b) σ := by
  refine go_start (by decide) (Nat.le_of_ble_eq_true rfl) ?_
  refine go_iload_n dX10_ordered_0 rfl ?_
  refine go_if_lt 27 dX10_ordered_1 (by decide) (fun c1 => ?_) (fun c1 => ?_)
  · refine go_iconst (v := -1) dX10_ordered_27 (by decide) ?_
    refine go_iret dX10_ordered_28 rfl rfl ?_
    exact ⟨by simp +decide [c1, K_ordered], rfl⟩
  · refine go_iload_n dX10_ordered_4 rfl ?_
    refine go_aload_n dX10_ordered_5 rfl ?_
    refine gs_gr dX10_ordered_6 flX10_56 (gg_0 b) rfl ?_
    refine gs_gi dX10_ordered_9 flX10_275 (gg_34 b) rfl (rfl) ?_
    refine go_icmp_ge 27 dX10_ordered_12 (by decide) (fun c12 => ?_) (fun c12 => ?_)
    · refine go_iconst (v := -1) dX10_ordered_27 (by decide) ?_
      refine go_iret dX10_ordered_28 rfl rfl ?_
      exact ⟨by simp +decide [c1, c12, K_ordered], rfl⟩
    · refine go_aload_n dX10_ordered_15 rfl ?_
      refine gs_gr dX10_ordered_16 flX10_56 (gg_0 b) rfl ?_
      refine gs_gr dX10_ordered_19 flX10_278 (gg_34 b) rfl ?_
      refine go_iload_n dX10_ordered_22 rfl ?_
      refine gs_ialdI dX10_ordered_23 (gg_35 b) (hs_in hkl.2 (by decide) (by rw [← hkl.1]; simp [hs, c1, c12])) (rfl) ?_
      refine go_goto 28 dX10_ordered_24 (by decide) ?_
      refine go_iret dX10_ordered_28 rfl rfl ?_
      exact ⟨by simp +decide [c1, c12, K_ordered], rfl⟩
def K_rehearse (σ : wg_S) (n j r : Nat) (p q s set : Int32) : Int32 × wg_S :=
  if (hs (nI 4) p && hs (nI 24) q) = false then (-1, σ) else if hs (σ 9 0) s = false then (-1, σ)
  else if (!decide (set = 0) && decide (set &&& -(nI 1 <<< (σ 1 0 &&& 31)) = 0)) = false then (-2, σ)
  else if ¬ set &&& (ctm σ n j r s.toNatClampNeg ^^^ -1) = 0 then (-3, σ)
  else if ¬ σ 41 (p.toNatClampNeg * 24 + q.toNatClampNeg) = -1 then (-3, σ)
  else if ¬ orf (fun x => σ 42 (x * 24 + q.toNatClampNeg)) 4 &&& set = 0 then (-3, σ)
  else (bct set, us (us (us σ 41 (p.toNatClampNeg * 24 + q.toNatClampNeg) s) 42 (p.toNatClampNeg * 24 + q.toNatClampNeg) set) 13 s.toNatClampNeg (σ 13 s.toNatClampNeg ||| set))
theorem cX10_rehearse_ok (κ : gm_K) (b : Bool) (σ : wg_S) (n m j r : Nat) (C : CI σ n m j r) (p q s set : Int32) : Fn κ mX10_rehearse [.ref 0, .int p, .int q, .int s, .int set] (gg b) σ (some (.int ((K_rehearse σ n j r p q s set).1))) (gg b) (K_rehearse σ n j r p q s set).2 := by
  refine go_start (by decide) (Nat.le_of_ble_eq_true rfl) ?_
  obtain ⟨⟨hN, hn⟩, ⟨hM, hm⟩, ⟨hJ, hj⟩, ⟨hR, hr⟩, hT⟩ := id C
  refine go_aload_n dX10_rehearse_0 rfl ?_
  refine gs_gr dX10_rehearse_1 flX10_63 (gg_0 b) rfl ?_
  refine go_iload_n dX10_rehearse_4 rfl ?_
  refine go_iload_n dX10_rehearse_5 rfl ?_
  refine gs_callVi dX10_rehearse_6 cvX10_rehearse_281 (cX1_has_ok κ b σ _ _) rfl (gg_40 b) rfl rfl rfl ⟨rfl, rfl⟩ rfl ?_
  refine go_if_eqB 23 dX10_rehearse_9 (by decide) (fun c9 => ?_) (fun c9 => ?_)
  · refine go_iconst (v := -1) dX10_rehearse_23 (by decide) ?_
    refine go_iret dX10_rehearse_24 rfl rfl ?_
    rw [K_rehearse, if_pos c9]; exact ⟨rfl, rfl⟩
  · have hA : ¬ (hs (nI 4) p && hs (nI 24) q) = false := by simp only [c9]; decide
    simp only [Bool.and_eq_true] at c9
    obtain ⟨x, hx, rfl⟩ := hs_ix (by decide) c9.1
    obtain ⟨y, hy, rfl⟩ := hs_ix (by decide) c9.2
    have ex := nI_clamp (show x < 2 ^ 31 by omega)
    have ey := nI_clamp (show y < 2 ^ 31 by omega)
    refine go_aload_n dX10_rehearse_12 rfl ?_
    refine gs_gr dX10_rehearse_13 flX10_19 (gg_0 b) rfl ?_
    refine go_iload_n dX10_rehearse_16 rfl ?_
    refine gs_callVi dX10_rehearse_17 cvX10_rehearse_187 (cX7_has_ok κ b σ _) rfl (gg_9 b) rfl rfl rfl ⟨rfl, rfl⟩ rfl ?_
    refine go_if_neB 25 dX10_rehearse_20 (by decide) (fun c20 => ?_) (fun c20 => ?_)
    · have hB : ¬ hs (σ 9 0) s = false := by simp [c20]
      obtain ⟨z, hz, rfl⟩ := hs_ix (by omega) (hM ▸ c20)
      have ez := nI_clamp (show z < 2 ^ 31 by omega)
      refine go_aload_n dX10_rehearse_25 rfl ?_
      refine go_iload dX10_rehearse_26 rfl ?_
      refine gs_callVi dX10_rehearse_28 cvX10_rehearse_232 (cX10_isSetOfChoirs_ok κ b σ _) rfl (gg_0 b) rfl rfl rfl ⟨rfl, rfl⟩ rfl ?_
      refine go_if_neB 37 dX10_rehearse_31 (by decide) (fun c31 => ?_) (fun c31 => ?_)
      · have hD : ¬ (!decide (set = 0) && decide (set &&& -(nI 1 <<< (σ 1 0 &&& 31)) = 0)) = false := by simp only [c31]; decide
        refine go_iload dX10_rehearse_37 rfl ?_
        refine go_aload_n dX10_rehearse_39 rfl ?_
        refine go_iload_n dX10_rehearse_40 rfl ?_
        refine gs_callVi dX10_rehearse_41 cvX10_rehearse_194 (cX10_choirsThatMay_ok κ b σ n m j r C _ (by omega)) rfl (gg_0 b) rfl rfl rfl ⟨rfl, rfl⟩ rfl ?_
        refine go_iconst (v := -1) dX10_rehearse_44 (by decide) ?_
        refine go_ixor dX10_rehearse_45 ?_
        refine go_iand dX10_rehearse_46 ?_
        refine go_if_ne 54 dX10_rehearse_47 (by decide) (fun c47 => ?_) (fun c47 => ?_)
        · change ¬ set &&& (ctm σ n j r z ^^^ -1) = 0 at c47
          refine go_iconst (v := nI 0) dX10_rehearse_54 (by decide) ?_
          refine go_istore (lv' := [_, _, _, _, _, _]) dX10_rehearse_55 rfl rfl rfl ?_
          refine go_iload dX10_rehearse_57 rfl ?_
          refine go_if_eq 88 dX10_rehearse_59 (by decide) (fun _ => ?_) (fun z => absurd z (by decide))
          refine go_bipush (v := -3) dX10_rehearse_88 (by decide) ?_
          refine go_iret dX10_rehearse_90 rfl rfl ?_
          rw [K_rehearse, if_neg hA, if_neg hB, if_neg hD, ez, if_pos c47]; exact ⟨rfl, rfl⟩
        · change set &&& (ctm σ n j r z ^^^ -1) = 0 at c47
          refine go_iconst (v := nI 1) dX10_rehearse_50 (by decide) ?_
          refine go_goto 55 dX10_rehearse_51 (by decide) ?_
          refine go_istore (lv' := [_, _, _, _, _, _]) dX10_rehearse_55 rfl rfl rfl ?_
          refine go_iload dX10_rehearse_57 rfl ?_
          refine go_if_eq 88 dX10_rehearse_59 (by decide) (fun z => absurd z (by decide)) (fun _ => ?_)
          refine go_aload_n dX10_rehearse_62 rfl ?_
          refine gs_gr dX10_rehearse_63 flX10_63 (gg_0 b) rfl ?_
          refine go_iload_n dX10_rehearse_66 rfl ?_
          refine go_iload_n dX10_rehearse_67 rfl ?_
          refine gs_callVi dX10_rehearse_68 cvX10_rehearse_284 (cX1_isFree_ok κ b σ x y hx hy) rfl (gg_40 b) rfl rfl rfl ⟨rfl, rfl⟩ rfl ?_
          refine go_if_eqB 88 dX10_rehearse_71 (by decide) (fun c71 => ?_) (fun c71 => ?_)
          · simp only [decide_eq_false_iff_not] at c71
            refine go_bipush (v := -3) dX10_rehearse_88 (by decide) ?_
            refine go_iret dX10_rehearse_90 rfl rfl ?_
            rw [K_rehearse, if_neg hA, if_neg hB, if_neg hD, ex, ey, ez, if_neg (fun z => z c47), if_pos c71]; exact ⟨rfl, rfl⟩
          · simp only [decide_eq_true_eq] at c71
            refine go_aload_n dX10_rehearse_74 rfl ?_
            refine gs_gr dX10_rehearse_75 flX10_63 (gg_0 b) rfl ?_
            refine go_iload_n dX10_rehearse_78 rfl ?_
            refine gs_callVi dX10_rehearse_79 cvX10_rehearse_286 (cX1_busyAt_ok κ b σ y hy) rfl (gg_40 b) rfl rfl rfl ⟨rfl, rfl⟩ rfl ?_
            refine go_iload dX10_rehearse_82 rfl ?_
            refine go_iand dX10_rehearse_84 ?_
            refine go_if_eq 91 dX10_rehearse_85 (by decide) (fun c85 => ?_) (fun c85 => ?_)
            · refine go_aload_n dX10_rehearse_91 rfl ?_
              refine gs_gr dX10_rehearse_92 flX10_63 (gg_0 b) rfl ?_
              refine go_iload_n dX10_rehearse_95 rfl ?_
              refine go_iload_n dX10_rehearse_96 rfl ?_
              refine go_iload_n dX10_rehearse_97 rfl ?_
              refine go_iload dX10_rehearse_98 rfl ?_
              refine gs_callVv dX10_rehearse_100 cvX10_rehearse_289 (cX1_take_ok κ b σ x y hx hy _ _) rfl (gg_40 b) rfl rfl rfl ⟨rfl, rfl⟩ rfl ?_
              refine go_aload_n dX10_rehearse_103 rfl ?_
              refine gs_gr dX10_rehearse_104 flX10_19 (gg_0 b) rfl ?_
              refine gs_gr dX10_rehearse_107 flX10_293 (gg_9 b) rfl ?_
              refine go_iload_n dX10_rehearse_110 rfl ?_
              refine go_dup2 dX10_rehearse_111 rfl rfl ?_
              refine gs_iald (_) dX10_rehearse_112 (gg_13 b) (rfl) (by omega) rfl (show _ = σ 13 z by simp [us]) ?_
              refine go_iload dX10_rehearse_113 rfl ?_
              refine go_ior dX10_rehearse_115 ?_
              refine gs_iast (_) dX10_rehearse_116 (gg_13 b) (rfl) (by omega) rfl ?_
              refine go_iload dX10_rehearse_117 rfl ?_
              refine gs_callSi dX10_rehearse_119 csX10_rehearse_235 (cJ6_bitCount_ok κ b _ _) rfl rfl rfl ⟨rfl, rfl⟩ rfl ?_
              refine go_iret dX10_rehearse_122 rfl rfl ?_
              rw [K_rehearse, if_neg hA, if_neg hB, if_neg hD, ex, ey, ez, if_neg (fun z => z c47), if_neg (fun z => z c71), if_neg (fun z => z c85)]
              exact ⟨rfl, rfl⟩
            · refine go_bipush (v := -3) dX10_rehearse_88 (by decide) ?_
              refine go_iret dX10_rehearse_90 rfl rfl ?_
              rw [K_rehearse, if_neg hA, if_neg hB, if_neg hD, ex, ey, ez, if_neg (fun z => z c47), if_neg (fun z => z c71), if_pos c85]; exact ⟨rfl, rfl⟩
      · refine go_bipush (v := -2) dX10_rehearse_34 (by decide) ?_
        refine go_iret dX10_rehearse_36 rfl rfl ?_
        rw [K_rehearse, if_neg hA, if_neg hB, if_pos c31]
        exact ⟨rfl, rfl⟩
    · refine go_iconst (v := -1) dX10_rehearse_23 (by decide) ?_
      refine go_iret dX10_rehearse_24 rfl rfl ?_
      rw [K_rehearse, if_neg hA, if_pos c20]; exact ⟨rfl, rfl⟩
def K_hall (σ : wg_S) (p q : Int32) : Int32 := if (hs (nI 4) p && hs (nI 24) q) = false then -1 else σ 41 (p.toNatClampNeg * 24 + q.toNatClampNeg)
theorem cX10_hall_ok (κ : gm_K) (b : Bool) (σ : wg_S) (p q : Int32) : Fn κ mX10_hall [.ref 0, .int p, .int q] (gg b) σ (some (.int (K_hall σ p q))) (gg b) σ := by
  refine go_start (by decide) (Nat.le_of_ble_eq_true rfl) ?_
  refine go_aload_n dX10_hall_0 rfl ?_
  refine gs_gr dX10_hall_1 flX10_63 (gg_0 b) rfl ?_
  refine go_iload_n dX10_hall_4 rfl ?_
  refine go_iload_n dX10_hall_5 rfl ?_
  refine gs_callVi dX10_hall_6 cvX10_hall_281 (cX1_has_ok κ b σ _ _) rfl (gg_40 b) rfl rfl rfl ⟨rfl, rfl⟩ rfl ?_
  refine go_if_eqB 24 dX10_hall_9 (by decide) (fun c9 => ?_) (fun c9 => ?_)
  · refine go_iconst (v := -1) dX10_hall_24 (by decide) ?_
    refine go_iret dX10_hall_25 rfl rfl ?_
    exact ⟨by rw [K_hall, if_pos c9], rfl⟩
  · have hA : ¬ (hs (nI 4) p && hs (nI 24) q) = false := by simp only [c9]; decide
    simp only [Bool.and_eq_true] at c9
    obtain ⟨x, hx, rfl⟩ := hs_ix (by decide) c9.1
    obtain ⟨y, hy, rfl⟩ := hs_ix (by decide) c9.2
    have ex := nI_clamp (show x < 2 ^ 31 by omega)
    have ey := nI_clamp (show y < 2 ^ 31 by omega)
    refine go_aload_n dX10_hall_12 rfl ?_
    refine gs_gr dX10_hall_13 flX10_63 (gg_0 b) rfl ?_
    refine go_iload_n dX10_hall_16 rfl ?_
    refine go_iload_n dX10_hall_17 rfl ?_
    refine gs_callVi dX10_hall_18 cvX10_hall_296 (cX1_songIn_ok κ b σ x y hx hy) rfl (gg_40 b) rfl rfl rfl ⟨rfl, rfl⟩ rfl ?_
    refine go_goto 25 dX10_hall_21 (by decide) ?_
    refine go_iret dX10_hall_25 rfl rfl ?_
    exact ⟨by rw [K_hall, if_neg hA, ex, ey], rfl⟩
def K_whole (σ : wg_S) (n j r : Nat) (s : Int32) : Int32 := if hs (σ 9 0) s = false then -1 else if ctm σ n j r s.toNatClampNeg = 0 then nI 0 else if ctm σ n j r s.toNatClampNeg &&& (σ 13 s.toNatClampNeg ^^^ -1) = 0 then nI 1 else nI 0
theorem cX10_whole_ok (κ : gm_K) (b : Bool) (σ : wg_S) (n m j r : Nat) (C : CI σ n m j r) (s : Int32) : Fn κ mX10_whole [.ref 0, .int s] (gg b) σ (some (.int (K_whole σ n j r s))) (gg b) σ := by
  refine go_start (by decide) (Nat.le_of_ble_eq_true rfl) ?_
  obtain ⟨⟨hN, hn⟩, ⟨hM, hm⟩, ⟨hJ, hj⟩, ⟨hR, hr⟩, hT⟩ := id C
  refine go_aload_n dX10_whole_0 rfl ?_
  refine gs_gr dX10_whole_1 flX10_19 (gg_0 b) rfl ?_
  refine go_iload_n dX10_whole_4 rfl ?_
  refine gs_callVi dX10_whole_5 cvX10_whole_187 (cX7_has_ok κ b σ _) rfl (gg_9 b) rfl rfl rfl ⟨rfl, rfl⟩ rfl ?_
  refine go_if_neB 13 dX10_whole_8 (by decide) (fun c8 => ?_) (fun c8 => ?_)
  · have hA : ¬ hs (σ 9 0) s = false := by simp [c8]
    obtain ⟨x, hx, rfl⟩ := hs_ix (by omega) (hM ▸ c8)
    have ex := nI_clamp (show x < 2 ^ 31 by omega)
    refine go_aload_n dX10_whole_13 rfl ?_
    refine go_iload_n dX10_whole_14 rfl ?_
    refine gs_callVi dX10_whole_15 cvX10_whole_194 (cX10_choirsThatMay_ok κ b σ n m j r C _ (by omega)) rfl (gg_0 b) rfl rfl rfl ⟨rfl, rfl⟩ rfl ?_
    refine go_istore_n (lv' := [_, _, _]) dX10_whole_18 rfl rfl rfl ?_
    refine go_iload_n dX10_whole_19 rfl ?_
    refine go_if_eq 43 dX10_whole_20 (by decide) (fun c20 => ?_) (fun c20 => ?_)
    · change ctm σ n j r x = 0 at c20
      refine go_iconst (v := nI 0) dX10_whole_43 (by decide) ?_
      refine go_iret dX10_whole_44 rfl rfl ?_
      exact ⟨by rw [K_whole, if_neg hA, ex, if_pos c20], rfl⟩
    · change ¬ ctm σ n j r x = 0 at c20
      refine go_iload_n dX10_whole_23 rfl ?_
      refine go_aload_n dX10_whole_24 rfl ?_
      refine gs_gr dX10_whole_25 flX10_19 (gg_0 b) rfl ?_
      refine gs_gr dX10_whole_28 flX10_293 (gg_9 b) rfl ?_
      refine go_iload_n dX10_whole_31 rfl ?_
      refine gs_iald (_) dX10_whole_32 (gg_13 b) (rfl) (by omega) rfl (rfl) ?_
      refine go_iconst (v := -1) dX10_whole_33 (by decide) ?_
      refine go_ixor dX10_whole_34 ?_
      refine go_iand dX10_whole_35 ?_
      refine go_if_ne 43 dX10_whole_36 (by decide) (fun c36 => ?_) (fun c36 => ?_)
      · change ¬ ctm σ n j r x &&& (σ 13 x ^^^ -1) = 0 at c36
        refine go_iconst (v := nI 0) dX10_whole_43 (by decide) ?_
        refine go_iret dX10_whole_44 rfl rfl ?_
        exact ⟨by rw [K_whole, if_neg hA, ex, if_neg c20, if_neg c36], rfl⟩
      · change ctm σ n j r x &&& (σ 13 x ^^^ -1) = 0 at c36
        refine go_iconst (v := nI 1) dX10_whole_39 (by decide) ?_
        refine go_goto 44 dX10_whole_40 (by decide) ?_
        refine go_iret dX10_whole_44 rfl rfl ?_
        exact ⟨by rw [K_whole, if_neg hA, ex, if_neg c20, if_pos c36], rfl⟩
  · refine go_iconst (v := -1) dX10_whole_11 (by decide) ?_
    refine go_iret dX10_whole_12 rfl rfl ?_
    exact ⟨by rw [K_whole, if_pos c8], rfl⟩
def K_beds (σ : wg_S) (n : Nat) (t v : Int32) : Int32 × wg_S := if hs (nI 8) t = false then (-1, σ) else if wi v (nI 0) (nI 999) = false then (-2, σ) else if ¬ tkn σ n t ≤ v then (-3, σ) else (σ 44 t.toNatClampNeg, us σ 44 t.toNatClampNeg v)
theorem cX10_beds_ok (κ : gm_K) (b : Bool) (σ : wg_S) (n m j r : Nat) (C : CI σ n m j r) (t v : Int32) : Fn κ mX10_beds [.ref 0, .int t, .int v] (gg b) σ (some (.int ((K_beds σ n t v).1))) (gg b) (K_beds σ n t v).2 := by
  refine go_start (by decide) (Nat.le_of_ble_eq_true rfl) ?_
  obtain ⟨⟨hN, hn⟩, ⟨hM, hm⟩, ⟨hJ, hj⟩, ⟨hR, hr⟩, hT⟩ := id C
  refine go_iload_n dX10_beds_0 rfl ?_
  refine gs_callSi dX10_beds_1 csX10_beds_85 (cX10_isTown_ok κ b σ _) rfl rfl rfl ⟨rfl, rfl⟩ rfl ?_
  refine go_if_neB 9 dX10_beds_4 (by decide) (fun c4 => ?_) (fun c4 => ?_)
  · obtain ⟨y, hy, rfl⟩ := hs_ix (by decide) c4
    have ey := nI_clamp (show y < 2 ^ 31 by omega)
    refine go_iload_n dX10_beds_9 rfl ?_
    refine go_iconst (v := nI 0) dX10_beds_10 (by decide) ?_
    refine go_sipush (v := nI 999) dX10_beds_11 (by decide) ?_
    refine gs_callSi dX10_beds_14 csX10_beds_114 (cX10_isWithin_ok κ b σ _ _ _) rfl rfl rfl ⟨rfl, rfl⟩ rfl ?_
    refine go_if_neB 23 dX10_beds_17 (by decide) (fun c17 => ?_) (fun c17 => ?_)
    · refine go_aload_n dX10_beds_23 rfl ?_
      refine gs_gr dX10_beds_24 flX10_70 (gg_0 b) rfl ?_
      refine go_iload_n dX10_beds_27 rfl ?_
      refine gs_callVi dX10_beds_28 cvX10_beds_299 (cX3_taken_ok κ b σ n hn hN _) rfl (gg_43 b) rfl rfl rfl ⟨rfl, rfl⟩ rfl ?_
      refine go_iload_n dX10_beds_31 rfl ?_
      refine go_icmp_le 38 dX10_beds_32 (by decide) (fun c32 => ?_) (fun c32 => ?_)
      · refine go_aload_n dX10_beds_38 rfl ?_
        refine gs_gr dX10_beds_39 flX10_70 (gg_0 b) rfl ?_
        refine gs_gr dX10_beds_42 flX10_302 (gg_43 b) rfl ?_
        refine go_iload_n dX10_beds_45 rfl ?_
        refine gs_iald (_) dX10_beds_46 (gg_44 b) (rfl) (by omega) rfl (rfl) ?_
        refine go_istore_n (lv' := [_, _, _, _]) dX10_beds_47 rfl rfl rfl ?_
        refine go_aload_n dX10_beds_48 rfl ?_
        refine gs_gr dX10_beds_49 flX10_70 (gg_0 b) rfl ?_
        refine gs_gr dX10_beds_52 flX10_302 (gg_43 b) rfl ?_
        refine go_iload_n dX10_beds_55 rfl ?_
        refine go_iload_n dX10_beds_56 rfl ?_
        refine gs_iast (_) dX10_beds_57 (gg_44 b) (rfl) (by omega) rfl ?_
        refine go_iload_n dX10_beds_58 rfl ?_
        refine go_iret dX10_beds_59 rfl rfl ?_
        refine ⟨?_, ?_⟩ <;> simp +decide [c4, ey, c17, c32, K_beds, tkn]
      · refine go_bipush (v := -3) dX10_beds_35 (by decide) ?_
        refine go_iret dX10_beds_37 rfl rfl ?_
        refine ⟨?_, ?_⟩ <;> simp +decide [c4, ey, c17, c32, K_beds, tkn]
    · refine go_bipush (v := -2) dX10_beds_20 (by decide) ?_
      refine go_iret dX10_beds_22 rfl rfl ?_
      refine ⟨?_, ?_⟩ <;> simp +decide [c4, ey, c17, K_beds, tkn]
  · refine go_iconst (v := -1) dX10_beds_7 (by decide) ?_
    refine go_iret dX10_beds_8 rfl rfl ?_
    refine ⟨?_, ?_⟩ <;> simp +decide [c4, K_beds, tkn]
def K_sleep (σ : wg_S) (n : Nat) (c t : Int32) : Int32 × wg_S := if hs (σ 1 0) c = false then (-5, σ) else if t = -1 then (σ 45 c.toNatClampNeg, us σ 45 c.toNatClampNeg (-1))
  else if hs (nI 8) t = false then (-5, σ) else if ctk σ n t.toNatClampNeg c.toNatClampNeg = false then (-3, σ) else (σ 45 c.toNatClampNeg, us σ 45 c.toNatClampNeg t)
theorem cX10_sleep_ok (κ : gm_K) (b : Bool) (σ : wg_S) (n m j r : Nat) (C : CI σ n m j r) (c t : Int32) : Fn κ mX10_sleep [.ref 0, .int c, .int t] (gg b) σ (some (.int ((K_sleep σ n c t).1))) (gg b) (K_sleep σ n c t).2 := by
  refine go_start (by decide) (Nat.le_of_ble_eq_true rfl) ?_
  obtain ⟨⟨hN, hn⟩, ⟨hM, hm⟩, ⟨hJ, hj⟩, ⟨hR, hr⟩, hT⟩ := id C
  refine go_aload_n dX10_sleep_0 rfl ?_
  refine gs_gr dX10_sleep_1 flX10_10 (gg_0 b) rfl ?_
  refine go_iload_n dX10_sleep_4 rfl ?_
  refine gs_callVi dX10_sleep_5 cvX10_sleep_127 (cX0_has_ok κ b σ _) rfl (gg_1 b) rfl rfl rfl ⟨rfl, rfl⟩ rfl ?_
  refine go_if_eqB 23 dX10_sleep_8 (by decide) (fun c8 => ?_) (fun c8 => ?_)
  · refine go_bipush (v := -5) dX10_sleep_23 (by decide) ?_
    refine go_iret dX10_sleep_25 rfl rfl ?_
    rw [K_sleep, if_pos c8]; exact ⟨rfl, rfl⟩
  · have hA : ¬ hs (σ 1 0) c = false := by simp [c8]
    obtain ⟨x, hx, rfl⟩ := hs_ix (by omega) (hN ▸ c8)
    have ex := nI_clamp (show x < 2 ^ 31 by omega)
    refine go_iload_n dX10_sleep_11 rfl ?_
    refine go_iconst (v := -1) dX10_sleep_12 (by decide) ?_
    refine go_icmp_eq 26 dX10_sleep_13 (by decide) (fun c13 => ?_) (fun c13 => ?_)
    · refine go_iload_n dX10_sleep_26 rfl ?_
      refine go_iconst (v := -1) dX10_sleep_27 (by decide) ?_
      refine go_icmp_eq 46 dX10_sleep_28 (by decide) (fun c28 => ?_) (fun c28 => ?_)
      · skip
        refine go_aload_n dX10_sleep_46 rfl ?_
        refine gs_gr dX10_sleep_47 flX10_70 (gg_0 b) rfl ?_
        refine gs_gr dX10_sleep_50 flX10_154 (gg_43 b) rfl ?_
        refine go_iload_n dX10_sleep_53 rfl ?_
        refine gs_iald (_) dX10_sleep_54 (gg_45 b) (rfl) (by omega) rfl (rfl) ?_
        refine go_istore_n (lv' := [_, _, _, _]) dX10_sleep_55 rfl rfl rfl ?_
        refine go_aload_n dX10_sleep_56 rfl ?_
        refine gs_gr dX10_sleep_57 flX10_70 (gg_0 b) rfl ?_
        refine gs_gr dX10_sleep_60 flX10_154 (gg_43 b) rfl ?_
        refine go_iload_n dX10_sleep_63 rfl ?_
        refine go_iload_n dX10_sleep_64 rfl ?_
        refine gs_iast (_) dX10_sleep_65 (gg_45 b) (rfl) (by omega) rfl ?_
        refine go_iload_n dX10_sleep_66 rfl ?_
        refine go_iret dX10_sleep_67 rfl rfl ?_
        rw [K_sleep, if_neg hA, if_pos c13, ex, c13]
        exact ⟨rfl, rfl⟩
      · exact absurd c13 c28
    · refine go_iload_n dX10_sleep_16 rfl ?_
      refine gs_callSi dX10_sleep_17 csX10_sleep_85 (cX10_isTown_ok κ b σ _) rfl rfl rfl ⟨rfl, rfl⟩ rfl ?_
      refine go_if_neB 26 dX10_sleep_20 (by decide) (fun c20 => ?_) (fun c20 => ?_)
      · have hB : ¬ hs (nI 8) t = false := by simp [c20]
        obtain ⟨y, hy, rfl⟩ := hs_ix (by decide) c20
        have ey := nI_clamp (show y < 2 ^ 31 by omega)
        refine go_iload_n dX10_sleep_26 rfl ?_
        refine go_iconst (v := -1) dX10_sleep_27 (by decide) ?_
        refine go_icmp_eq 46 dX10_sleep_28 (by decide) (fun c28 => ?_) (fun c28 => ?_)
        · exact absurd c28 c13
        · skip
          refine go_aload_n dX10_sleep_31 rfl ?_
          refine gs_gr dX10_sleep_32 flX10_70 (gg_0 b) rfl ?_
          refine go_iload_n dX10_sleep_35 rfl ?_
          refine go_iload_n dX10_sleep_36 rfl ?_
          refine gs_callVi dX10_sleep_37 cvX10_sleep_305 (cX3_canTake_ok κ b σ n hn hN x y (by omega) (by omega)) rfl (gg_43 b) rfl rfl rfl ⟨rfl, rfl⟩ rfl ?_
          refine go_if_neB 46 dX10_sleep_40 (by decide) (fun c40 => ?_) (fun c40 => ?_)
          · have hD : ¬ ctk σ n y x = false := by simp [c40]
            refine go_aload_n dX10_sleep_46 rfl ?_
            refine gs_gr dX10_sleep_47 flX10_70 (gg_0 b) rfl ?_
            refine gs_gr dX10_sleep_50 flX10_154 (gg_43 b) rfl ?_
            refine go_iload_n dX10_sleep_53 rfl ?_
            refine gs_iald (_) dX10_sleep_54 (gg_45 b) (rfl) (by omega) rfl (rfl) ?_
            refine go_istore_n (lv' := [_, _, _, _]) dX10_sleep_55 rfl rfl rfl ?_
            refine go_aload_n dX10_sleep_56 rfl ?_
            refine gs_gr dX10_sleep_57 flX10_70 (gg_0 b) rfl ?_
            refine gs_gr dX10_sleep_60 flX10_154 (gg_43 b) rfl ?_
            refine go_iload_n dX10_sleep_63 rfl ?_
            refine go_iload_n dX10_sleep_64 rfl ?_
            refine gs_iast (_) dX10_sleep_65 (gg_45 b) (rfl) (by omega) rfl ?_
            refine go_iload_n dX10_sleep_66 rfl ?_
            refine go_iret dX10_sleep_67 rfl rfl ?_
            rw [K_sleep, if_neg hA, if_neg c13, if_neg hB, ex, ey, if_neg hD]; exact ⟨rfl, rfl⟩
          · refine go_bipush (v := -3) dX10_sleep_43 (by decide) ?_
            refine go_iret dX10_sleep_45 rfl rfl ?_
            rw [K_sleep, if_neg hA, if_neg c13, if_neg hB, ex, ey, if_pos c40]
            exact ⟨rfl, rfl⟩
      · refine go_bipush (v := -5) dX10_sleep_23 (by decide) ?_
        refine go_iret dX10_sleep_25 rfl rfl ?_
        rw [K_sleep, if_neg hA, if_neg c13, if_pos c20]; exact ⟨rfl, rfl⟩
def bdl (σ : wg_S) (n : Nat) (set : Int32) : Nat → Int32 × wg_S
  | 0 => (nI 0, σ)
  | i + 1 => if bv set i = nI 1 ∧ (bdl σ n set i).2 45 i = -1 then ((bdl σ n set i).1 + (match ttn (bdl σ n set i).2 n i 8 with | none => nI 1 | some _ => nI 0), us (bdl σ n set i).2 45 i (oI (ttn (bdl σ n set i).2 n i 8))) else bdl σ n set i
theorem bdl_s (σ : wg_S) (n : Nat) (set : Int32) (i : Nat) : bdl σ n set (i + 1) = if bv set i = nI 1 ∧ (bdl σ n set i).2 45 i = -1 then ((bdl σ n set i).1 + (match ttn (bdl σ n set i).2 n i 8 with | none => nI 1 | some _ => nI 0), us (bdl σ n set i).2 45 i (oI (ttn (bdl σ n set i).2 n i 8))) else bdl σ n set i := by
  rw [show bdl σ n set (i + 1) = if bv set i = nI 1 ∧ (bdl σ n set i).2 45 i = -1 then ((bdl σ n set i).1 + (match ttn (bdl σ n set i).2 n i 8 with | none => nI 1 | some _ => nI 0), us (bdl σ n set i).2 45 i (oI (ttn (bdl σ n set i).2 n i 8))) else bdl σ n set i from rfl]
theorem bdl_p {σ : wg_S} {n : Nat} {set : Int32} {p : Nat} (h : p ≠ 45) : ∀ i, (bdl σ n set i).2 p = σ p
  | 0 => rfl
  | i + 1 => by
    rw [show bdl σ n set (i + 1) = if bv set i = nI 1 ∧ (bdl σ n set i).2 45 i = -1 then ((bdl σ n set i).1 + (match ttn (bdl σ n set i).2 n i 8 with | none => nI 1 | some _ => nI 0), us (bdl σ n set i).2 45 i (oI (ttn (bdl σ n set i).2 n i 8))) else bdl σ n set i from rfl]
    split
    · show us _ 45 _ _ p = _
      rw [us_p h]; exact bdl_p h i
    · exact bdl_p h i
def K_bed (σ : wg_S) (n : Nat) (set : Int32) : Int32 × wg_S := if set &&& -(nI 1 <<< (σ 1 0 &&& 31)) = 0 then bdl σ n set n else (-2, σ)
theorem cX10_bed_ok (κ : gm_K) (b : Bool) (σ : wg_S) (n m j r : Nat) (C : CI σ n m j r) (set : Int32) : Fn κ mX10_bed [.ref 0, .int set] (gg b) σ (some (.int ((K_bed σ n set).1))) (gg b) (K_bed σ n set).2 := by
  refine go_start (by decide) (Nat.le_of_ble_eq_true rfl) ?_
  obtain ⟨⟨hN, hn⟩, ⟨hM, hm⟩, ⟨hJ, hj⟩, ⟨hR, hr⟩, hT⟩ := id C
  refine go_aload_n dX10_bed_0 rfl ?_
  refine gs_gr dX10_bed_1 flX10_10 (gg_0 b) rfl ?_
  refine go_iload_n dX10_bed_4 rfl ?_
  refine gs_callVi dX10_bed_5 cvX10_bed_308 (cX0_hasAll_ok κ b σ _) rfl (gg_1 b) rfl rfl rfl ⟨rfl, rfl⟩ rfl ?_
  refine go_if_neB 14 dX10_bed_8 (by decide) (fun c8 => ?_) (fun c8 => ?_)
  · simp only [decide_eq_true_eq] at c8
    refine go_iconst (v := nI 0) dX10_bed_14 (by decide) ?_
    refine go_istore_n (lv' := [_, _, _, _, _]) dX10_bed_15 rfl rfl rfl ?_
    refine go_iconst (v := nI 0) dX10_bed_16 (by decide) ?_
    refine go_istore_n (lv' := [_, _, _, _, _]) dX10_bed_17 rfl rfl rfl ?_
    refine go_wk (by exact ⟨rfl, rfl, rfl, rfl, trivial⟩) (?_ : Go κ mX10_bed 18 [some (.ref 0), some (.int set), some (.int (bdl σ n set 0).1), some (.int (nI 0)), none] [] (wd (gg b) (bdl σ n set 0).2) (0, 0) _)
    refine lo_up n (P := fun i => Go κ mX10_bed 18 [some (.ref 0), some (.int set), some (.int (bdl σ n set i).1), some (.int (nI i)), none] [] (wd (gg b) (bdl σ n set i).2) (0, 0) _) (fun i hi ih => ?_) 0 (Nat.zero_le _)
    have hs' : bdl σ n set (i + 1) = if bv set i = nI 1 ∧ (bdl σ n set i).2 45 i = -1 then ((bdl σ n set i).1 + (match ttn (bdl σ n set i).2 n i 8 with | none => nI 1 | some _ => nI 0), us (bdl σ n set i).2 45 i (oI (ttn (bdl σ n set i).2 n i 8))) else bdl σ n set i := rfl
    have hN' : (bdl σ n set i).2 1 0 = nI n := (congrFun (bdl_p (by decide) i) 0).trans hN
    have htt : i < n → Fn κ mX3_tightestTown [.ref 43, .int (nI i)] (gg b) (bdl σ n set i).2 (some (.int (oI (ttn (bdl σ n set i).2 n i 8)))) (gg b) (bdl σ n set i).2 := fun h => cX3_tightestTown_ok κ b _ n hn hN' i (by omega)
    cases ht : ttn (bdl σ n set i).2 n i 8 with
    | none =>
      rw [ht] at hs' htt
      refine go_iload_n dX10_bed_18 rfl ?_
      refine go_aload_n dX10_bed_19 rfl ?_
      refine gs_gr dX10_bed_20 flX10_10 (gg_0 b) rfl ?_
      refine gs_gi dX10_bed_23 flX10_96 (gg_1 b) rfl (hN') ?_
      refine go_icmp_geN 92 dX10_bed_26 (by decide) (by omega) (by omega) (fun c26 => ?_) (fun c26 => ?_)
      · refine go_iload_n dX10_bed_92 rfl ?_
        refine go_iret dX10_bed_93 rfl rfl ?_
        have e : i = n := by omega
        subst e
        rw [K_bed, if_pos c8]
        exact ⟨rfl, rfl⟩
      · refine go_iload_n dX10_bed_29 rfl ?_
        refine go_iload_n dX10_bed_30 rfl ?_
        refine go_ishr dX10_bed_31 ?_
        refine go_iconst (v := nI 1) dX10_bed_32 (by decide) ?_
        refine go_iand dX10_bed_33 ?_
        refine go_iconst (v := nI 1) dX10_bed_34 (by decide) ?_
        refine go_icmp_ne 86 dX10_bed_35 (by decide) (fun c35 => ?_) (fun c35 => ?_)
        · rw [if_neg (fun z => c35 z.1)] at hs'
          refine go_iincN (lv' := [_, _, _, _, _]) 1 dX10_bed_86 (by decide) rfl rfl rfl rfl ?_
          refine go_goto 18 dX10_bed_89 (by decide) ?_
          exact go_wkh (by rw [hs']; exact ⟨rfl, rfl, rfl, rfl, trivial⟩) (by rw [hs']) (ih c26)
        · refine go_aload_n dX10_bed_38 rfl ?_
          refine gs_gr dX10_bed_39 flX10_70 (gg_0 b) rfl ?_
          refine gs_gr dX10_bed_42 flX10_154 (gg_43 b) rfl ?_
          refine go_iload_n dX10_bed_45 rfl ?_
          refine gs_iald (_) dX10_bed_46 (gg_45 b) (rfl) (by omega) rfl (rfl) ?_
          refine go_iconst (v := -1) dX10_bed_47 (by decide) ?_
          refine go_icmp_ne 86 dX10_bed_48 (by decide) (fun c48 => ?_) (fun c48 => ?_)
          · rw [if_neg (fun z => c48 z.2)] at hs'
            refine go_iincN (lv' := [_, _, _, _, _]) 1 dX10_bed_86 (by decide) rfl rfl rfl rfl ?_
            refine go_goto 18 dX10_bed_89 (by decide) ?_
            exact go_wkh (by rw [hs']; exact ⟨rfl, rfl, rfl, rfl, trivial⟩) (by rw [hs']) (ih c26)
          · rw [if_pos ⟨c35, c48⟩] at hs'
            refine go_aload_n dX10_bed_51 rfl ?_
            refine gs_gr dX10_bed_52 flX10_70 (gg_0 b) rfl ?_
            refine go_iload_n dX10_bed_55 rfl ?_
            refine gs_callVi dX10_bed_56 cvX10_bed_309 (htt c26) rfl (gg_43 b) rfl rfl rfl ⟨rfl, rfl⟩ rfl ?_
            refine go_istore (lv' := [_, _, _, _, _]) dX10_bed_59 rfl rfl rfl ?_
            refine go_aload_n dX10_bed_61 rfl ?_
            refine gs_gr dX10_bed_62 flX10_70 (gg_0 b) rfl ?_
            refine gs_gr dX10_bed_65 flX10_154 (gg_43 b) rfl ?_
            refine go_iload_n dX10_bed_68 rfl ?_
            refine go_iload dX10_bed_69 rfl ?_
            refine gs_iast (_) dX10_bed_71 (gg_45 b) (rfl) (by omega) rfl ?_
            refine go_iload_n dX10_bed_72 rfl ?_
            refine go_iload dX10_bed_73 rfl ?_
            refine go_iconst (v := -1) dX10_bed_75 (by decide) ?_
            refine go_icmp_ne 83 dX10_bed_76 (by decide) (fun z => absurd z (by decide)) (fun _ => ?_)
            refine go_iconst (v := nI 1) dX10_bed_79 (by decide) ?_
            refine go_goto 84 dX10_bed_80 (by decide) ?_
            refine go_iadd dX10_bed_84 ?_
            refine go_istore_n (lv' := [_, _, _, _, _]) dX10_bed_85 rfl rfl rfl ?_
            refine go_iincN (lv' := [_, _, _, _, _]) 1 dX10_bed_86 (by decide) rfl rfl rfl rfl ?_
            refine go_goto 18 dX10_bed_89 (by decide) ?_
            exact go_wkh (by rw [hs']; exact ⟨rfl, rfl, rfl, rfl, trivial⟩) (by rw [hs']) (ih c26)
    | some u =>
      have hu := ttn_lt _ _ _ _ _ ht
      rw [ht] at hs' htt
      refine go_iload_n dX10_bed_18 rfl ?_
      refine go_aload_n dX10_bed_19 rfl ?_
      refine gs_gr dX10_bed_20 flX10_10 (gg_0 b) rfl ?_
      refine gs_gi dX10_bed_23 flX10_96 (gg_1 b) rfl (hN') ?_
      refine go_icmp_geN 92 dX10_bed_26 (by decide) (by omega) (by omega) (fun c26 => ?_) (fun c26 => ?_)
      · refine go_iload_n dX10_bed_92 rfl ?_
        refine go_iret dX10_bed_93 rfl rfl ?_
        have e : i = n := by omega
        subst e
        rw [K_bed, if_pos c8]
        exact ⟨rfl, rfl⟩
      · refine go_iload_n dX10_bed_29 rfl ?_
        refine go_iload_n dX10_bed_30 rfl ?_
        refine go_ishr dX10_bed_31 ?_
        refine go_iconst (v := nI 1) dX10_bed_32 (by decide) ?_
        refine go_iand dX10_bed_33 ?_
        refine go_iconst (v := nI 1) dX10_bed_34 (by decide) ?_
        refine go_icmp_ne 86 dX10_bed_35 (by decide) (fun c35 => ?_) (fun c35 => ?_)
        · rw [if_neg (fun z => c35 z.1)] at hs'
          refine go_iincN (lv' := [_, _, _, _, _]) 1 dX10_bed_86 (by decide) rfl rfl rfl rfl ?_
          refine go_goto 18 dX10_bed_89 (by decide) ?_
          exact go_wkh (by rw [hs']; exact ⟨rfl, rfl, rfl, rfl, trivial⟩) (by rw [hs']) (ih c26)
        · refine go_aload_n dX10_bed_38 rfl ?_
          refine gs_gr dX10_bed_39 flX10_70 (gg_0 b) rfl ?_
          refine gs_gr dX10_bed_42 flX10_154 (gg_43 b) rfl ?_
          refine go_iload_n dX10_bed_45 rfl ?_
          refine gs_iald (_) dX10_bed_46 (gg_45 b) (rfl) (by omega) rfl (rfl) ?_
          refine go_iconst (v := -1) dX10_bed_47 (by decide) ?_
          refine go_icmp_ne 86 dX10_bed_48 (by decide) (fun c48 => ?_) (fun c48 => ?_)
          · rw [if_neg (fun z => c48 z.2)] at hs'
            refine go_iincN (lv' := [_, _, _, _, _]) 1 dX10_bed_86 (by decide) rfl rfl rfl rfl ?_
            refine go_goto 18 dX10_bed_89 (by decide) ?_
            exact go_wkh (by rw [hs']; exact ⟨rfl, rfl, rfl, rfl, trivial⟩) (by rw [hs']) (ih c26)
          · rw [if_pos ⟨c35, c48⟩] at hs'
            refine go_aload_n dX10_bed_51 rfl ?_
            refine gs_gr dX10_bed_52 flX10_70 (gg_0 b) rfl ?_
            refine go_iload_n dX10_bed_55 rfl ?_
            refine gs_callVi dX10_bed_56 cvX10_bed_309 (htt c26) rfl (gg_43 b) rfl rfl rfl ⟨rfl, rfl⟩ rfl ?_
            refine go_istore (lv' := [_, _, _, _, _]) dX10_bed_59 rfl rfl rfl ?_
            refine go_aload_n dX10_bed_61 rfl ?_
            refine gs_gr dX10_bed_62 flX10_70 (gg_0 b) rfl ?_
            refine gs_gr dX10_bed_65 flX10_154 (gg_43 b) rfl ?_
            refine go_iload_n dX10_bed_68 rfl ?_
            refine go_iload dX10_bed_69 rfl ?_
            refine gs_iast (_) dX10_bed_71 (gg_45 b) (rfl) (by omega) rfl ?_
            refine go_iload_n dX10_bed_72 rfl ?_
            refine go_iload dX10_bed_73 rfl ?_
            refine go_iconst (v := -1) dX10_bed_75 (by decide) ?_
            refine go_icmp_ne 83 dX10_bed_76 (by decide) (fun c76 => ?_) (fun c76 => ?_)
            · refine go_iconst (v := nI 0) dX10_bed_83 (by decide) ?_
              refine go_iadd dX10_bed_84 ?_
              refine go_istore_n (lv' := [_, _, _, _, _]) dX10_bed_85 rfl rfl rfl ?_
              refine go_iincN (lv' := [_, _, _, _, _]) 1 dX10_bed_86 (by decide) rfl rfl rfl rfl ?_
              refine go_goto 18 dX10_bed_89 (by decide) ?_
              exact go_wkh (by rw [hs']; exact ⟨rfl, rfl, rfl, rfl, trivial⟩) (by rw [hs']) (ih c26)
            · exact absurd c76 (nI_m1 (by omega))
  · simp only [decide_eq_false_iff_not] at c8
    refine go_bipush (v := -2) dX10_bed_11 (by decide) ?_
    refine go_iret dX10_bed_13 rfl rfl ?_
    rw [K_bed, if_neg c8]
    exact ⟨rfl, rfl⟩
def K_march (σ : wg_S) (n : Nat) (c : Int32) : Int32 × wg_S := if hs (σ 1 0) c = false then (-1, σ) else if bv (σ 46 1) c.toNatClampNeg = nI 1 then (-3, σ) else (mlen (us σ 46 1 (σ 46 1 ||| (nI 1 <<< (nI c.toNatClampNeg &&& 31)))) n, us σ 46 1 (σ 46 1 ||| (nI 1 <<< (nI c.toNatClampNeg &&& 31))))
def K_leave (σ : wg_S) (n : Nat) (c : Int32) : Int32 × wg_S := if hs (σ 1 0) c = false then (-1, σ) else if bv (σ 46 1) c.toNatClampNeg = nI 1 then (mlen (us σ 46 1 (σ 46 1 &&& ((nI 1 <<< (nI c.toNatClampNeg &&& 31)) ^^^ -1))) n, us σ 46 1 (σ 46 1 &&& ((nI 1 <<< (nI c.toNatClampNeg &&& 31)) ^^^ -1))) else (-3, σ)
theorem cX10_march_ok (κ : gm_K) (b : Bool) (σ : wg_S) (n m j r : Nat) (C : CI σ n m j r) (c : Int32) : Fn κ mX10_march [.ref 0, .int c] (gg b) σ (some (.int ((K_march σ n c).1))) (gg b) (K_march σ n c).2 := by
  refine go_start (by decide) (Nat.le_of_ble_eq_true rfl) ?_
  obtain ⟨⟨hN, hn⟩, ⟨hM, hm⟩, ⟨hJ, hj⟩, ⟨hR, hr⟩, hT⟩ := id C
  refine go_aload_n dX10_march_0 rfl ?_
  refine gs_gr dX10_march_1 flX10_10 (gg_0 b) rfl ?_
  refine go_iload_n dX10_march_4 rfl ?_
  refine gs_callVi dX10_march_5 cvX10_march_127 (cX0_has_ok κ b σ _) rfl (gg_1 b) rfl rfl rfl ⟨rfl, rfl⟩ rfl ?_
  refine go_if_neB 13 dX10_march_8 (by decide) (fun c8 => ?_) (fun c8 => ?_)
  · have hA : ¬ hs (σ 1 0) c = false := by simp [c8]
    obtain ⟨x, hx, rfl⟩ := hs_ix (by omega) (hN ▸ c8)
    have ex := nI_clamp (show x < 2 ^ 31 by omega)
    refine go_aload_n dX10_march_13 rfl ?_
    refine gs_gr dX10_march_14 flX10_77 (gg_0 b) rfl ?_
    refine go_iload_n dX10_march_17 rfl ?_
    refine gs_callVi dX10_march_18 cvX10_march_312 (cX4_holds_ok κ b σ x) rfl (gg_46 b) rfl rfl rfl ⟨rfl, rfl⟩ rfl ?_
    refine go_if_eqB 27 dX10_march_21 (by decide) (fun c21 => ?_) (fun c21 => ?_)
    · simp only [decide_eq_true_eq, decide_eq_false_iff_not] at c21
      refine go_aload_n dX10_march_27 rfl ?_
      refine gs_gr dX10_march_28 flX10_77 (gg_0 b) rfl ?_
      refine go_iload_n dX10_march_31 rfl ?_
      refine gs_callVv dX10_march_32 cvX10_march_313 (cX4_add_ok κ b σ x) rfl (gg_46 b) rfl rfl rfl ⟨rfl, rfl⟩ rfl ?_
      refine go_aload_n dX10_march_35 rfl ?_
      refine gs_gr dX10_march_36 flX10_77 (gg_0 b) rfl ?_
      refine gs_callVi dX10_march_39 cvX10_march_315 (cX4_length_ok κ b _ n hn (by rw [us_p (by decide)]; exact hN)) rfl (gg_46 b) rfl rfl rfl ⟨rfl, rfl⟩ rfl ?_
      refine go_iret dX10_march_42 rfl rfl ?_
      rw [K_march, if_neg hA, ex, if_neg c21]
      exact ⟨rfl, rfl⟩
    · simp only [decide_eq_true_eq, decide_eq_false_iff_not] at c21
      refine go_bipush (v := -3) dX10_march_24 (by decide) ?_
      refine go_iret dX10_march_26 rfl rfl ?_
      rw [K_march, if_neg hA, ex, if_pos c21]
      exact ⟨rfl, rfl⟩
  · refine go_iconst (v := -1) dX10_march_11 (by decide) ?_
    refine go_iret dX10_march_12 rfl rfl ?_
    rw [K_march, if_pos c8]
    exact ⟨rfl, rfl⟩
theorem cX10_leave_ok (κ : gm_K) (b : Bool) (σ : wg_S) (n m j r : Nat) (C : CI σ n m j r) (c : Int32) : Fn κ mX10_leave [.ref 0, .int c] (gg b) σ (some (.int ((K_leave σ n c).1))) (gg b) (K_leave σ n c).2 := by
  refine go_start (by decide) (Nat.le_of_ble_eq_true rfl) ?_
  obtain ⟨⟨hN, hn⟩, ⟨hM, hm⟩, ⟨hJ, hj⟩, ⟨hR, hr⟩, hT⟩ := id C
  refine go_aload_n dX10_leave_0 rfl ?_
  refine gs_gr dX10_leave_1 flX10_10 (gg_0 b) rfl ?_
  refine go_iload_n dX10_leave_4 rfl ?_
  refine gs_callVi dX10_leave_5 cvX10_leave_127 (cX0_has_ok κ b σ _) rfl (gg_1 b) rfl rfl rfl ⟨rfl, rfl⟩ rfl ?_
  refine go_if_neB 13 dX10_leave_8 (by decide) (fun c8 => ?_) (fun c8 => ?_)
  · have hA : ¬ hs (σ 1 0) c = false := by simp [c8]
    obtain ⟨x, hx, rfl⟩ := hs_ix (by omega) (hN ▸ c8)
    have ex := nI_clamp (show x < 2 ^ 31 by omega)
    refine go_aload_n dX10_leave_13 rfl ?_
    refine gs_gr dX10_leave_14 flX10_77 (gg_0 b) rfl ?_
    refine go_iload_n dX10_leave_17 rfl ?_
    refine gs_callVi dX10_leave_18 cvX10_leave_312 (cX4_holds_ok κ b σ x) rfl (gg_46 b) rfl rfl rfl ⟨rfl, rfl⟩ rfl ?_
    refine go_if_neB 27 dX10_leave_21 (by decide) (fun c21 => ?_) (fun c21 => ?_)
    · simp only [decide_eq_true_eq, decide_eq_false_iff_not] at c21
      refine go_aload_n dX10_leave_27 rfl ?_
      refine gs_gr dX10_leave_28 flX10_77 (gg_0 b) rfl ?_
      refine go_iload_n dX10_leave_31 rfl ?_
      refine gs_callVv dX10_leave_32 cvX10_leave_317 (cX4_remove_ok κ b σ x) rfl (gg_46 b) rfl rfl rfl ⟨rfl, rfl⟩ rfl ?_
      refine go_aload_n dX10_leave_35 rfl ?_
      refine gs_gr dX10_leave_36 flX10_77 (gg_0 b) rfl ?_
      refine gs_callVi dX10_leave_39 cvX10_leave_315 (cX4_length_ok κ b _ n hn (by rw [us_p (by decide)]; exact hN)) rfl (gg_46 b) rfl rfl rfl ⟨rfl, rfl⟩ rfl ?_
      refine go_iret dX10_leave_42 rfl rfl ?_
      rw [K_leave, if_neg hA, ex, if_pos c21]
      exact ⟨rfl, rfl⟩
    · simp only [decide_eq_true_eq, decide_eq_false_iff_not] at c21
      refine go_bipush (v := -3) dX10_leave_24 (by decide) ?_
      refine go_iret dX10_leave_26 rfl rfl ?_
      rw [K_leave, if_neg hA, ex, if_neg c21]
      exact ⟨rfl, rfl⟩
  · refine go_iconst (v := -1) dX10_leave_11 (by decide) ?_
    refine go_iret dX10_leave_12 rfl rfl ?_
    rw [K_leave, if_pos c8]
    exact ⟨rfl, rfl⟩
def K_gap (σ : wg_S) (v : Int32) : Int32 × wg_S := if wi v (nI 0) (nI 9) = false then (-2, σ) else (σ 46 0, us σ 46 0 v)
theorem cX10_gap_ok (κ : gm_K) (b : Bool) (σ : wg_S) (v : Int32) : Fn κ mX10_gap [.ref 0, .int v] (gg b) σ (some (.int ((K_gap σ v).1))) (gg b) (K_gap σ v).2 := by
  refine go_start (by decide) (Nat.le_of_ble_eq_true rfl) ?_
  refine go_iload_n dX10_gap_0 rfl ?_
  refine go_iconst (v := nI 0) dX10_gap_1 (by decide) ?_
  refine go_bipush (v := nI 9) dX10_gap_2 (by decide) ?_
  refine gs_callSi dX10_gap_4 csX10_gap_114 (cX10_isWithin_ok κ b σ _ _ _) rfl rfl rfl ⟨rfl, rfl⟩ rfl ?_
  refine go_if_neB 13 dX10_gap_7 (by decide) (fun c7 => ?_) (fun c7 => ?_)
  · refine go_aload_n dX10_gap_13 rfl ?_
    refine gs_gr dX10_gap_14 flX10_77 (gg_0 b) rfl ?_
    refine gs_gi dX10_gap_17 flX10_320 (gg_46 b) rfl (rfl) ?_
    refine go_istore_n (lv' := [_, _, _]) dX10_gap_20 rfl rfl rfl ?_
    refine go_aload_n dX10_gap_21 rfl ?_
    refine gs_gr dX10_gap_22 flX10_77 (gg_0 b) rfl ?_
    refine go_iload_n dX10_gap_25 rfl ?_
    refine gs_pi dX10_gap_26 flX10_320 (gg_46 b) rfl (fun q hq => by cases hq; exact ⟨rfl, rfl⟩) ?_
    refine go_iload_n dX10_gap_29 rfl ?_
    refine go_iret dX10_gap_30 rfl rfl ?_
    refine ⟨?_, ?_⟩ <;> simp +decide [c7, K_gap]
  · refine go_bipush (v := -2) dX10_gap_10 (by decide) ?_
    refine go_iret dX10_gap_12 rfl rfl ?_
    refine ⟨?_, ?_⟩ <;> simp +decide [c7, K_gap]
def K_count (σ : wg_S) (n : Nat) (w : Int32) : Int32 :=
  if w = nI 0 then σ 1 0 else if w = nI 1 then σ 9 0 else if w = nI 2 then σ 14 0 else if w = nI 3 then σ 22 0 else if w = nI 4 then σ 0 10
  else if w = nI 5 then sm (fun i => if σ 30 i = -1 then nI 0 else nI 1) n else if w = nI 6 then bct (σ 46 1) else if w = nI 7 then mlen σ n else if w = nI 8 then σ 17 0
  else if w = nI 9 then sm (fun i => if σ 45 i = -1 then nI 0 else nI 1) n else if w = nI 10 then sm (fun i => if there σ i = true then σ 6 i else 0) n else -1
theorem cX10_count_ok (κ : gm_K) (b : Bool) (σ : wg_S) (n m j r : Nat) (C : CI σ n m j r) (w : Int32) : Fn κ mX10_count [.ref 0, .int w] (gg b) σ (some (.int (K_count σ n w))) (gg b) σ := by
  refine go_start (by decide) (Nat.le_of_ble_eq_true rfl) ?_
  obtain ⟨⟨hN, hn⟩, ⟨hM, hm⟩, ⟨hJ, hj⟩, ⟨hR, hr⟩, hT⟩ := id C
  refine go_iload_n dX10_count_0 rfl ?_
  refine go_tsw 10 [60, 68, 76, 84, 92, 97, 105, 113, 121, 129, 137] 142 dX10_count_1 (by decide) (by decide) (fun c1 => ?_) (fun k hk c1 => ?_)
  · refine go_iconst (v := -1) dX10_count_142 (by decide) ?_
    refine go_iret dX10_count_143 rfl rfl ?_
    exact ⟨by simp [K_count, c1 0 (by decide), c1 1 (by decide), c1 2 (by decide), c1 3 (by decide), c1 4 (by decide), c1 5 (by decide), c1 6 (by decide), c1 7 (by decide), c1 8 (by decide), c1 9 (by decide), c1 10 (by decide)], rfl⟩
  · match k, hk, c1 with
    | 0, _, c1 =>
      show Go κ mX10_count 60 _ _ _ _ _
      refine go_aload_n dX10_count_60 rfl ?_
      refine gs_gr dX10_count_61 flX10_10 (gg_0 b) rfl ?_
      refine gs_gi dX10_count_64 flX10_96 (gg_1 b) rfl (rfl) ?_
      refine go_iret dX10_count_67 rfl rfl ?_
      exact ⟨by rw [c1]; rfl, rfl⟩
    | 1, _, c1 =>
      show Go κ mX10_count 68 _ _ _ _ _
      refine go_aload_n dX10_count_68 rfl ?_
      refine gs_gr dX10_count_69 flX10_19 (gg_0 b) rfl ?_
      refine gs_gi dX10_count_72 flX10_117 (gg_9 b) rfl (rfl) ?_
      refine go_iret dX10_count_75 rfl rfl ?_
      exact ⟨by rw [c1]; rfl, rfl⟩
    | 2, _, c1 =>
      show Go κ mX10_count 76 _ _ _ _ _
      refine go_aload_n dX10_count_76 rfl ?_
      refine gs_gr dX10_count_77 flX10_26 (gg_0 b) rfl ?_
      refine gs_gi dX10_count_80 flX10_121 (gg_14 b) rfl (rfl) ?_
      refine go_iret dX10_count_83 rfl rfl ?_
      exact ⟨by rw [c1]; rfl, rfl⟩
    | 3, _, c1 =>
      show Go κ mX10_count 84 _ _ _ _ _
      refine go_aload_n dX10_count_84 rfl ?_
      refine gs_gr dX10_count_85 flX10_40 (gg_0 b) rfl ?_
      refine gs_gi dX10_count_88 flX10_176 (gg_22 b) rfl (rfl) ?_
      refine go_iret dX10_count_91 rfl rfl ?_
      exact ⟨by rw [c1]; rfl, rfl⟩
    | 4, _, c1 =>
      show Go κ mX10_count 92 _ _ _ _ _
      refine go_aload_n dX10_count_92 rfl ?_
      refine gs_gi dX10_count_93 flX10_81 (gg_0 b) rfl (rfl) ?_
      refine go_iret dX10_count_96 rfl rfl ?_
      exact ⟨by rw [c1]; rfl, rfl⟩
    | 5, _, c1 =>
      show Go κ mX10_count 97 _ _ _ _ _
      refine go_aload_n dX10_count_97 rfl ?_
      refine gs_gr dX10_count_98 flX10_49 (gg_0 b) rfl ?_
      refine gs_callVi dX10_count_101 cvX10_count_200 (cX8_blocks_ok κ b σ n hn hN) rfl (gg_29 b) rfl rfl rfl ⟨rfl, rfl⟩ rfl ?_
      refine go_iret dX10_count_104 rfl rfl ?_
      exact ⟨by rw [c1]; rfl, rfl⟩
    | 6, _, c1 =>
      show Go κ mX10_count 105 _ _ _ _ _
      refine go_aload_n dX10_count_105 rfl ?_
      refine gs_gr dX10_count_106 flX10_77 (gg_0 b) rfl ?_
      refine gs_callVi dX10_count_109 cvX10_count_323 (cX4_number_ok κ b σ) rfl (gg_46 b) rfl rfl rfl ⟨rfl, rfl⟩ rfl ?_
      refine go_iret dX10_count_112 rfl rfl ?_
      exact ⟨by rw [c1]; rfl, rfl⟩
    | 7, _, c1 =>
      show Go κ mX10_count 113 _ _ _ _ _
      refine go_aload_n dX10_count_113 rfl ?_
      refine gs_gr dX10_count_114 flX10_77 (gg_0 b) rfl ?_
      refine gs_callVi dX10_count_117 cvX10_count_315 (cX4_length_ok κ b σ n hn hN) rfl (gg_46 b) rfl rfl rfl ⟨rfl, rfl⟩ rfl ?_
      refine go_iret dX10_count_120 rfl rfl ?_
      exact ⟨by rw [c1]; rfl, rfl⟩
    | 8, _, c1 =>
      show Go κ mX10_count 121 _ _ _ _ _
      refine go_aload_n dX10_count_121 rfl ?_
      refine gs_gr dX10_count_122 flX10_33 (gg_0 b) rfl ?_
      refine gs_gi dX10_count_125 flX10_169 (gg_17 b) rfl (rfl) ?_
      refine go_iret dX10_count_128 rfl rfl ?_
      exact ⟨by rw [c1]; rfl, rfl⟩
    | 9, _, c1 =>
      show Go κ mX10_count 129 _ _ _ _ _
      refine go_aload_n dX10_count_129 rfl ?_
      refine gs_gr dX10_count_130 flX10_70 (gg_0 b) rfl ?_
      refine gs_callVi dX10_count_133 cvX10_count_325 (cX3_sleepers_ok κ b σ n hn hN) rfl (gg_43 b) rfl rfl rfl ⟨rfl, rfl⟩ rfl ?_
      refine go_iret dX10_count_136 rfl rfl ?_
      exact ⟨by rw [c1]; rfl, rfl⟩
    | 10, _, c1 =>
      show Go κ mX10_count 137 _ _ _ _ _
      refine go_aload_n dX10_count_137 rfl ?_
      refine gs_callVi dX10_count_138 cvX10_count_328 (cX10_singersThere_ok κ b σ n hn hN) rfl (gg_0 b) rfl rfl rfl ⟨rfl, rfl⟩ rfl ?_
      refine go_iret dX10_count_141 rfl rfl ?_
      exact ⟨by rw [c1]; rfl, rfl⟩
    | k + 11, hk, _ => exact absurd hk (by omega)
