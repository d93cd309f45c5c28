theorem t64_lt (x y : Int32) : x.toInt64 < y.toInt64 ↔ x < y := by
  rw [Int64.lt_iff_toInt_lt, Int32.lt_iff_toInt_lt, Int32.toInt_toInt64, Int32.toInt_toInt64]
theorem cX11_isIn_ok (κ : gm_K) (b : Bool) (σ : wg_S) (x lo hi : Int32) (l h : Int64) (hl : lo.toInt64 = l) (hh : hi.toInt64 = h) : Fn κ mX11_isIn [.long x.toInt64, .long l, .long h] (gg b) σ (some (.int (bi (wi x lo hi)))) (gg b) σ := by
  refine go_start (by decide) (Nat.le_of_ble_eq_true rfl) ?_
  subst hl
  subst hh
  refine go_lload_n dX11_isIn_0 rfl ?_
  refine go_lload_n dX11_isIn_1 rfl ?_
  refine go_lcmp dX11_isIn_2 ?_
  refine go_if_lt 17 dX11_isIn_3 (by decide) (fun c3 => ?_) (fun c3 => ?_)
  · rw [lg_cmp_lt, t64_lt] at c3
    refine go_iconst (v := nI 0) dX11_isIn_17 (by decide) ?_
    refine go_zret dX11_isIn_18 rfl rfl (by decide) ?_
    exact ⟨by simp +decide [c3, bi, wi], rfl⟩
  · rw [lg_cmp_lt, t64_lt] at c3
    refine go_lload_n dX11_isIn_6 rfl ?_
    refine go_lload dX11_isIn_7 rfl ?_
    refine go_lcmp dX11_isIn_9 ?_
    refine go_if_gt 17 dX11_isIn_10 (by decide) (fun c10 => ?_) (fun c10 => ?_)
    · rw [lg_cmp_gt, t64_lt] at c10
      refine go_iconst (v := nI 0) dX11_isIn_17 (by decide) ?_
      refine go_zret dX11_isIn_18 rfl rfl (by decide) ?_
      exact ⟨by simp +decide [c3, c10, bi, wi], rfl⟩
    · rw [lg_cmp_gt, t64_lt] at c10
      refine go_iconst (v := nI 1) dX11_isIn_13 (by decide) ?_
      refine go_goto 18 dX11_isIn_14 (by decide) ?_
      refine go_zret dX11_isIn_18 rfl rfl (by decide) ?_
      exact ⟨by simp +decide [c3, c10, bi, wi], rfl⟩
theorem cX11_up_ok (κ : gm_K) (b : Bool) (σ : wg_S) (x y : Int32) (hy : ¬ y = 0) : Fn κ mX11_up [.int x, .int y] (gg b) σ (some (.int ((x + y - nI 1) / y))) (gg b) σ := by
  refine go_start (by decide) (Nat.le_of_ble_eq_true rfl) ?_
  refine go_iload_n dX11_up_0 rfl ?_
  refine go_iload_n dX11_up_1 rfl ?_
  refine go_iadd dX11_up_2 ?_
  refine go_iconst (v := nI 1) dX11_up_3 (by decide) ?_
  refine go_isub dX11_up_4 ?_
  refine go_iload_n dX11_up_5 rfl ?_
  refine go_idiv dX11_up_6 (hy) ?_
  refine go_iret dX11_up_7 rfl rfl ?_
  exact ⟨rfl, rfl⟩
theorem cX11_isChoir_ok (κ : gm_K) (b : Bool) (σ : wg_S) (c : Int32) : Fn κ mX11_isChoir [.ref 47, .int c] (gg b) σ (some (.int (bi (hs (σ 47 0) c)))) (gg b) σ := by
  refine go_start (by decide) (Nat.le_of_ble_eq_true rfl) ?_
  refine go_iload_n dX11_isChoir_0 rfl ?_
  refine go_if_lt 16 dX11_isChoir_1 (by decide) (fun c1 => ?_) (fun c1 => ?_)
  · refine go_iconst (v := nI 0) dX11_isChoir_16 (by decide) ?_
    refine go_zret dX11_isChoir_17 rfl rfl (by decide) ?_
    exact ⟨by simp +decide [c1, bi, hs], rfl⟩
  · refine go_iload_n dX11_isChoir_4 rfl ?_
    refine go_aload_n dX11_isChoir_5 rfl ?_
    refine gs_gi dX11_isChoir_6 flX11_134 (gg_47 b) rfl (rfl) ?_
    refine go_icmp_ge 16 dX11_isChoir_9 (by decide) (fun c9 => ?_) (fun c9 => ?_)
    · refine go_iconst (v := nI 0) dX11_isChoir_16 (by decide) ?_
      refine go_zret dX11_isChoir_17 rfl rfl (by decide) ?_
      exact ⟨by simp +decide [c1, c9, bi, hs], rfl⟩
    · refine go_iconst (v := nI 1) dX11_isChoir_12 (by decide) ?_
      refine go_goto 17 dX11_isChoir_13 (by decide) ?_
      refine go_zret dX11_isChoir_17 rfl rfl (by decide) ?_
      exact ⟨by simp +decide [c1, c9, bi, hs], rfl⟩
theorem cX11_isSong_ok (κ : gm_K) (b : Bool) (σ : wg_S) (c : Int32) : Fn κ mX11_isSong [.ref 47, .int c] (gg b) σ (some (.int (bi (hs (σ 47 11) c)))) (gg b) σ := by
  refine go_start (by decide) (Nat.le_of_ble_eq_true rfl) ?_
  refine go_iload_n dX11_isSong_0 rfl ?_
  refine go_if_lt 16 dX11_isSong_1 (by decide) (fun c1 => ?_) (fun c1 => ?_)
  · refine go_iconst (v := nI 0) dX11_isSong_16 (by decide) ?_
    refine go_zret dX11_isSong_17 rfl rfl (by decide) ?_
    exact ⟨by simp +decide [c1, bi, hs], rfl⟩
  · refine go_iload_n dX11_isSong_4 rfl ?_
    refine go_aload_n dX11_isSong_5 rfl ?_
    refine gs_gi dX11_isSong_6 flX11_137 (gg_47 b) rfl (rfl) ?_
    refine go_icmp_ge 16 dX11_isSong_9 (by decide) (fun c9 => ?_) (fun c9 => ?_)
    · refine go_iconst (v := nI 0) dX11_isSong_16 (by decide) ?_
      refine go_zret dX11_isSong_17 rfl rfl (by decide) ?_
      exact ⟨by simp +decide [c1, c9, bi, hs], rfl⟩
    · refine go_iconst (v := nI 1) dX11_isSong_12 (by decide) ?_
      refine go_goto 17 dX11_isSong_13 (by decide) ?_
      refine go_zret dX11_isSong_17 rfl rfl (by decide) ?_
      exact ⟨by simp +decide [c1, c9, bi, hs], rfl⟩
theorem cX11_isJudge_ok (κ : gm_K) (b : Bool) (σ : wg_S) (c : Int32) : Fn κ mX11_isJudge [.ref 47, .int c] (gg b) σ (some (.int (bi (hs (σ 47 16) c)))) (gg b) σ := by
  refine go_start (by decide) (Nat.le_of_ble_eq_true rfl) ?_
  refine go_iload_n dX11_isJudge_0 rfl ?_
  refine go_if_lt 16 dX11_isJudge_1 (by decide) (fun c1 => ?_) (fun c1 => ?_)
  · refine go_iconst (v := nI 0) dX11_isJudge_16 (by decide) ?_
    refine go_zret dX11_isJudge_17 rfl rfl (by decide) ?_
    exact ⟨by simp +decide [c1, bi, hs], rfl⟩
  · refine go_iload_n dX11_isJudge_4 rfl ?_
    refine go_aload_n dX11_isJudge_5 rfl ?_
    refine gs_gi dX11_isJudge_6 flX11_140 (gg_47 b) rfl (rfl) ?_
    refine go_icmp_ge 16 dX11_isJudge_9 (by decide) (fun c9 => ?_) (fun c9 => ?_)
    · refine go_iconst (v := nI 0) dX11_isJudge_16 (by decide) ?_
      refine go_zret dX11_isJudge_17 rfl rfl (by decide) ?_
      exact ⟨by simp +decide [c1, c9, bi, hs], rfl⟩
    · refine go_iconst (v := nI 1) dX11_isJudge_12 (by decide) ?_
      refine go_goto 17 dX11_isJudge_13 (by decide) ?_
      refine go_zret dX11_isJudge_17 rfl rfl (by decide) ?_
      exact ⟨by simp +decide [c1, c9, bi, hs], rfl⟩
theorem wi_hs (x : Int32) (k : Nat) (hk : k + 1 < 2 ^ 31) : wi x (nI 0) (nI k) = hs (nI (k + 1)) x := by
  unfold wi hs
  have e : (nI k < x) ↔ (nI (k + 1) ≤ x) := by
    rw [Int32.lt_iff_toInt_lt, Int32.le_iff_toInt_le, nI_toInt (by omega), nI_toInt (by omega)]; omega
  rw [nI_0]
  simp only [e]
theorem cX11_isTown_ok (κ : gm_K) (b : Bool) (σ : wg_S) (c : Int32) : Fn κ mX11_isTown [.int c] (gg b) σ (some (.int (bi (hs (nI 8) c)))) (gg b) σ := by
  refine go_start (by decide) (Nat.le_of_ble_eq_true rfl) ?_
  refine go_iload_n dX11_isTown_0 rfl ?_
  refine go_i2l dX11_isTown_1 ?_
  refine go_lconst (v := 0) dX11_isTown_2 (by decide) ?_
  refine go_ldc2 dX11_isTown_3 klX11_143 ?_
  refine gs_callSi dX11_isTown_6 csX11_isTown_145 (cX11_isIn_ok κ b σ _ (nI 0) (nI 7) _ _ (by decide) (by decide)) rfl rfl rfl ⟨rfl, rfl⟩ rfl ?_
  refine go_zret dX11_isTown_9 rfl rfl (bi_nar _) ?_
  exact ⟨by rw [wi_hs _ 7 (by decide)], rfl⟩
def dgt (v k : Int32) : Int32 := if k = 0 then v / 1000000 else if k = nI 1 then v / nI 10000 - v / nI 10000 / nI 100 * nI 100 else if k = nI 2 then v / nI 100 - v / nI 100 / nI 100 * nI 100 else v - v / nI 100 * nI 100
theorem cX11_digits_ok (κ : gm_K) (b : Bool) (σ : wg_S) (v k : Int32) : Fn κ mX11_digits [.int v, .int k] (gg b) σ (some (.int (dgt v k))) (gg b) σ := by
  refine go_start (by decide) (Nat.le_of_ble_eq_true rfl) ?_
  refine go_iload_n dX11_digits_0 rfl ?_
  refine go_if_ne 11 dX11_digits_1 (by decide) (fun c1 => ?_) (fun c1 => ?_)
  · refine go_iload_n dX11_digits_11 rfl ?_
    refine go_iconst (v := nI 1) dX11_digits_12 (by decide) ?_
    refine go_icmp_ne 27 dX11_digits_13 (by decide) (fun c13 => ?_) (fun c13 => ?_)
    · refine go_iload_n dX11_digits_27 rfl ?_
      refine go_iconst (v := nI 2) dX11_digits_28 (by decide) ?_
      refine go_icmp_ne 42 dX11_digits_29 (by decide) (fun c29 => ?_) (fun c29 => ?_)
      · refine go_iload_n dX11_digits_42 rfl ?_
        refine go_bipush (v := nI 100) dX11_digits_43 (by decide) ?_
        refine go_irem dX11_digits_45 (by decide) ?_
        refine go_iret dX11_digits_46 rfl rfl ?_
        exact ⟨by simp +decide [c1, c13, c29, dgt], rfl⟩
      · refine go_iload_n dX11_digits_32 rfl ?_
        refine go_bipush (v := nI 100) dX11_digits_33 (by decide) ?_
        refine go_idiv dX11_digits_35 (by decide) ?_
        refine go_bipush (v := nI 100) dX11_digits_36 (by decide) ?_
        refine go_irem dX11_digits_38 (by decide) ?_
        refine go_goto 46 dX11_digits_39 (by decide) ?_
        refine go_iret dX11_digits_46 rfl rfl ?_
        exact ⟨by simp +decide [c1, c13, c29, dgt], rfl⟩
    · refine go_iload_n dX11_digits_16 rfl ?_
      refine go_sipush (v := nI 10000) dX11_digits_17 (by decide) ?_
      refine go_idiv dX11_digits_20 (by decide) ?_
      refine go_bipush (v := nI 100) dX11_digits_21 (by decide) ?_
      refine go_irem dX11_digits_23 (by decide) ?_
      refine go_goto 46 dX11_digits_24 (by decide) ?_
      refine go_iret dX11_digits_46 rfl rfl ?_
      exact ⟨by simp +decide [c1, c13, dgt], rfl⟩
  · refine go_iload_n dX11_digits_4 rfl ?_
    refine go_ldc dX11_digits_5 kiX11_149 ?_
    refine go_idiv dX11_digits_7 (by decide) ?_
    refine go_goto 46 dX11_digits_8 (by decide) ?_
    refine go_iret dX11_digits_46 rfl rfl ?_
    exact ⟨by simp +decide [c1, dgt], rfl⟩
def msu (k s x : Int32) : Bool := (if k = nI 5 then decide (s = 0) else wi s (nI 1) 99999999) && (!decide (k = nI 1) || decide (dgt s (nI 0) + dgt s (nI 1) = 0)) && (!decide (k = nI 2) || decide (dgt s (nI 2) + dgt s (nI 3) = 0))
  && (decide (k = nI 5) || (if k = nI 4 then wi x (nI 0) (nI 3) else decide (x = 0)))
theorem cX11_suits_ok (κ : gm_K) (b : Bool) (σ : wg_S) (k s x : Int32) : Fn κ mX11_suits [.int k, .int s, .int x] (gg b) σ (some (.int (bi (msu k s x)))) (gg b) σ := by
  refine go_start (by decide) (Nat.le_of_ble_eq_true rfl) ?_
  refine go_iload_n dX11_suits_0 rfl ?_
  refine go_iconst (v := nI 0) dX11_suits_1 (by decide) ?_
  refine gs_callSi dX11_suits_2 csX11_suits_150 (cX11_digits_ok κ b σ _ _) rfl rfl rfl ⟨rfl, rfl⟩ rfl ?_
  refine go_iload_n dX11_suits_5 rfl ?_
  refine go_iconst (v := nI 1) dX11_suits_6 (by decide) ?_
  refine gs_callSi dX11_suits_7 csX11_suits_150 (cX11_digits_ok κ b σ _ _) rfl rfl rfl ⟨rfl, rfl⟩ rfl ?_
  refine go_iadd dX11_suits_10 ?_
  refine go_istore_n (lv' := [_, _, _, _, _, _]) dX11_suits_11 rfl rfl rfl ?_
  refine go_iload_n dX11_suits_12 rfl ?_
  refine go_iconst (v := nI 2) dX11_suits_13 (by decide) ?_
  refine gs_callSi dX11_suits_14 csX11_suits_150 (cX11_digits_ok κ b σ _ _) rfl rfl rfl ⟨rfl, rfl⟩ rfl ?_
  refine go_iload_n dX11_suits_17 rfl ?_
  refine go_iconst (v := nI 3) dX11_suits_18 (by decide) ?_
  refine gs_callSi dX11_suits_19 csX11_suits_150 (cX11_digits_ok κ b σ _ _) rfl rfl rfl ⟨rfl, rfl⟩ rfl ?_
  refine go_iadd dX11_suits_22 ?_
  refine go_istore (lv' := [_, _, _, _, _, _]) dX11_suits_23 rfl rfl rfl ?_
  refine go_iload_n dX11_suits_25 rfl ?_
  refine go_iconst (v := nI 5) dX11_suits_26 (by decide) ?_
  refine go_icmp_ne 42 dX11_suits_27 (by decide) (fun c27 => ?_) (fun c27 => ?_)
  · refine go_iload_n dX11_suits_42 rfl ?_
    refine go_i2l dX11_suits_43 ?_
    refine go_lconst (v := 1) dX11_suits_44 (by decide) ?_
    refine go_ldc2 dX11_suits_45 klX11_154 ?_
    refine gs_callSi dX11_suits_48 csX11_suits_145 (cX11_isIn_ok κ b σ _ (nI 1) (99999999) _ _ (by decide) (by decide)) rfl rfl rfl ⟨rfl, rfl⟩ rfl ?_
    refine go_istore (lv' := [_, _, _, _, _, _]) dX11_suits_51 rfl rfl rfl ?_
    refine go_iload dX11_suits_53 rfl ?_
    refine go_if_eqB 110 dX11_suits_55 (by decide) (fun c55 => ?_) (fun c55 => ?_)
    · refine go_iconst (v := nI 0) dX11_suits_110 (by decide) ?_
      refine go_zret dX11_suits_111 rfl rfl (by decide) ?_
      exact ⟨by simp_all +decide [msu, bi], rfl⟩
    · refine go_iload_n dX11_suits_58 rfl ?_
      refine go_iconst (v := nI 1) dX11_suits_59 (by decide) ?_
      refine go_icmp_ne 67 dX11_suits_60 (by decide) (fun c60 => ?_) (fun c60 => ?_)
      · refine go_iload_n dX11_suits_67 rfl ?_
        refine go_iconst (v := nI 2) dX11_suits_68 (by decide) ?_
        refine go_icmp_ne 77 dX11_suits_69 (by decide) (fun c69 => ?_) (fun c69 => ?_)
        · refine go_iload_n dX11_suits_77 rfl ?_
          refine go_iconst (v := nI 5) dX11_suits_78 (by decide) ?_
          refine go_icmp_eq 106 dX11_suits_79 (by decide) (fun c79 => ?_) (fun c79 => ?_)
          · refine go_iconst (v := nI 1) dX11_suits_106 (by decide) ?_
            refine go_goto 111 dX11_suits_107 (by decide) ?_
            refine go_zret dX11_suits_111 rfl rfl (by decide) ?_
            exact ⟨by simp_all +decide [msu, bi], rfl⟩
          · refine go_iload_n dX11_suits_82 rfl ?_
            refine go_iconst (v := nI 4) dX11_suits_83 (by decide) ?_
            refine go_icmp_ne 102 dX11_suits_84 (by decide) (fun c84 => ?_) (fun c84 => ?_)
            · refine go_iload_n dX11_suits_102 rfl ?_
              refine go_if_ne 110 dX11_suits_103 (by decide) (fun c103 => ?_) (fun c103 => ?_)
              · refine go_iconst (v := nI 0) dX11_suits_110 (by decide) ?_
                refine go_zret dX11_suits_111 rfl rfl (by decide) ?_
                exact ⟨by simp_all +decide [msu, bi], rfl⟩
              · refine go_iconst (v := nI 1) dX11_suits_106 (by decide) ?_
                refine go_goto 111 dX11_suits_107 (by decide) ?_
                refine go_zret dX11_suits_111 rfl rfl (by decide) ?_
                exact ⟨by simp_all +decide [msu, bi], rfl⟩
            · refine go_iload_n dX11_suits_87 rfl ?_
              refine go_i2l dX11_suits_88 ?_
              refine go_lconst (v := 0) dX11_suits_89 (by decide) ?_
              refine go_ldc2 dX11_suits_90 klX11_156 ?_
              refine gs_callSi dX11_suits_93 csX11_suits_145 (cX11_isIn_ok κ b σ _ (nI 0) (nI 3) _ _ (by decide) (by decide)) rfl rfl rfl ⟨rfl, rfl⟩ rfl ?_
              refine go_if_eqB 110 dX11_suits_96 (by decide) (fun c96 => ?_) (fun c96 => ?_)
              · refine go_iconst (v := nI 0) dX11_suits_110 (by decide) ?_
                refine go_zret dX11_suits_111 rfl rfl (by decide) ?_
                exact ⟨by simp_all +decide [msu, bi], rfl⟩
              · refine go_goto 106 dX11_suits_99 (by decide) ?_
                refine go_iconst (v := nI 1) dX11_suits_106 (by decide) ?_
                refine go_goto 111 dX11_suits_107 (by decide) ?_
                refine go_zret dX11_suits_111 rfl rfl (by decide) ?_
                exact ⟨by simp_all +decide [msu, bi], rfl⟩
        · refine go_iload dX11_suits_72 rfl ?_
          refine go_if_ne 110 dX11_suits_74 (by decide) (fun c74 => ?_) (fun c74 => ?_)
          · refine go_iconst (v := nI 0) dX11_suits_110 (by decide) ?_
            refine go_zret dX11_suits_111 rfl rfl (by decide) ?_
            exact ⟨by simp_all +decide [msu, bi], rfl⟩
          · refine go_iload_n dX11_suits_77 rfl ?_
            refine go_iconst (v := nI 5) dX11_suits_78 (by decide) ?_
            refine go_icmp_eq 106 dX11_suits_79 (by decide) (fun c79 => ?_) (fun c79 => ?_)
            · refine go_iconst (v := nI 1) dX11_suits_106 (by decide) ?_
              refine go_goto 111 dX11_suits_107 (by decide) ?_
              refine go_zret dX11_suits_111 rfl rfl (by decide) ?_
              exact ⟨by simp_all +decide [msu, bi], rfl⟩
            · refine go_iload_n dX11_suits_82 rfl ?_
              refine go_iconst (v := nI 4) dX11_suits_83 (by decide) ?_
              refine go_icmp_ne 102 dX11_suits_84 (by decide) (fun c84 => ?_) (fun c84 => ?_)
              · refine go_iload_n dX11_suits_102 rfl ?_
                refine go_if_ne 110 dX11_suits_103 (by decide) (fun c103 => ?_) (fun c103 => ?_)
                · refine go_iconst (v := nI 0) dX11_suits_110 (by decide) ?_
                  refine go_zret dX11_suits_111 rfl rfl (by decide) ?_
                  exact ⟨by simp_all +decide [msu, bi], rfl⟩
                · refine go_iconst (v := nI 1) dX11_suits_106 (by decide) ?_
                  refine go_goto 111 dX11_suits_107 (by decide) ?_
                  refine go_zret dX11_suits_111 rfl rfl (by decide) ?_
                  exact ⟨by simp_all +decide [msu, bi], rfl⟩
              · refine go_iload_n dX11_suits_87 rfl ?_
                refine go_i2l dX11_suits_88 ?_
                refine go_lconst (v := 0) dX11_suits_89 (by decide) ?_
                refine go_ldc2 dX11_suits_90 klX11_156 ?_
                refine gs_callSi dX11_suits_93 csX11_suits_145 (cX11_isIn_ok κ b σ _ (nI 0) (nI 3) _ _ (by decide) (by decide)) rfl rfl rfl ⟨rfl, rfl⟩ rfl ?_
                refine go_if_eqB 110 dX11_suits_96 (by decide) (fun c96 => ?_) (fun c96 => ?_)
                · refine go_iconst (v := nI 0) dX11_suits_110 (by decide) ?_
                  refine go_zret dX11_suits_111 rfl rfl (by decide) ?_
                  exact ⟨by simp_all +decide [msu, bi], rfl⟩
                · refine go_goto 106 dX11_suits_99 (by decide) ?_
                  refine go_iconst (v := nI 1) dX11_suits_106 (by decide) ?_
                  refine go_goto 111 dX11_suits_107 (by decide) ?_
                  refine go_zret dX11_suits_111 rfl rfl (by decide) ?_
                  exact ⟨by simp_all +decide [msu, bi], rfl⟩
      · refine go_iload_n dX11_suits_63 rfl ?_
        refine go_if_ne 110 dX11_suits_64 (by decide) (fun c64 => ?_) (fun c64 => ?_)
        · refine go_iconst (v := nI 0) dX11_suits_110 (by decide) ?_
          refine go_zret dX11_suits_111 rfl rfl (by decide) ?_
          exact ⟨by simp_all +decide [msu, bi], rfl⟩
        · refine go_iload_n dX11_suits_67 rfl ?_
          refine go_iconst (v := nI 2) dX11_suits_68 (by decide) ?_
          refine go_icmp_ne 77 dX11_suits_69 (by decide) (fun c69 => ?_) (fun c69 => ?_)
          · refine go_iload_n dX11_suits_77 rfl ?_
            refine go_iconst (v := nI 5) dX11_suits_78 (by decide) ?_
            refine go_icmp_eq 106 dX11_suits_79 (by decide) (fun c79 => ?_) (fun c79 => ?_)
            · refine go_iconst (v := nI 1) dX11_suits_106 (by decide) ?_
              refine go_goto 111 dX11_suits_107 (by decide) ?_
              refine go_zret dX11_suits_111 rfl rfl (by decide) ?_
              exact ⟨by simp_all +decide [msu, bi], rfl⟩
            · refine go_iload_n dX11_suits_82 rfl ?_
              refine go_iconst (v := nI 4) dX11_suits_83 (by decide) ?_
              refine go_icmp_ne 102 dX11_suits_84 (by decide) (fun c84 => ?_) (fun c84 => ?_)
              · refine go_iload_n dX11_suits_102 rfl ?_
                refine go_if_ne 110 dX11_suits_103 (by decide) (fun c103 => ?_) (fun c103 => ?_)
                · refine go_iconst (v := nI 0) dX11_suits_110 (by decide) ?_
                  refine go_zret dX11_suits_111 rfl rfl (by decide) ?_
                  exact ⟨by simp_all +decide [msu, bi], rfl⟩
                · refine go_iconst (v := nI 1) dX11_suits_106 (by decide) ?_
                  refine go_goto 111 dX11_suits_107 (by decide) ?_
                  refine go_zret dX11_suits_111 rfl rfl (by decide) ?_
                  exact ⟨by simp_all +decide [msu, bi], rfl⟩
              · refine go_iload_n dX11_suits_87 rfl ?_
                refine go_i2l dX11_suits_88 ?_
                refine go_lconst (v := 0) dX11_suits_89 (by decide) ?_
                refine go_ldc2 dX11_suits_90 klX11_156 ?_
                refine gs_callSi dX11_suits_93 csX11_suits_145 (cX11_isIn_ok κ b σ _ (nI 0) (nI 3) _ _ (by decide) (by decide)) rfl rfl rfl ⟨rfl, rfl⟩ rfl ?_
                refine go_if_eqB 110 dX11_suits_96 (by decide) (fun c96 => ?_) (fun c96 => ?_)
                · refine go_iconst (v := nI 0) dX11_suits_110 (by decide) ?_
                  refine go_zret dX11_suits_111 rfl rfl (by decide) ?_
                  exact ⟨by simp_all +decide [msu, bi], rfl⟩
                · refine go_goto 106 dX11_suits_99 (by decide) ?_
                  refine go_iconst (v := nI 1) dX11_suits_106 (by decide) ?_
                  refine go_goto 111 dX11_suits_107 (by decide) ?_
                  refine go_zret dX11_suits_111 rfl rfl (by decide) ?_
                  exact ⟨by simp_all +decide [msu, bi], rfl⟩
          · refine go_iload dX11_suits_72 rfl ?_
            refine go_if_ne 110 dX11_suits_74 (by decide) (fun c74 => ?_) (fun c74 => ?_)
            · refine go_iconst (v := nI 0) dX11_suits_110 (by decide) ?_
              refine go_zret dX11_suits_111 rfl rfl (by decide) ?_
              exact ⟨by simp_all +decide [msu, bi], rfl⟩
            · refine go_iload_n dX11_suits_77 rfl ?_
              refine go_iconst (v := nI 5) dX11_suits_78 (by decide) ?_
              refine go_icmp_eq 106 dX11_suits_79 (by decide) (fun c79 => ?_) (fun c79 => ?_)
              · refine go_iconst (v := nI 1) dX11_suits_106 (by decide) ?_
                refine go_goto 111 dX11_suits_107 (by decide) ?_
                refine go_zret dX11_suits_111 rfl rfl (by decide) ?_
                exact ⟨by simp_all +decide [msu, bi], rfl⟩
              · refine go_iload_n dX11_suits_82 rfl ?_
                refine go_iconst (v := nI 4) dX11_suits_83 (by decide) ?_
                refine go_icmp_ne 102 dX11_suits_84 (by decide) (fun c84 => ?_) (fun c84 => ?_)
                · refine go_iload_n dX11_suits_102 rfl ?_
                  refine go_if_ne 110 dX11_suits_103 (by decide) (fun c103 => ?_) (fun c103 => ?_)
                  · refine go_iconst (v := nI 0) dX11_suits_110 (by decide) ?_
                    refine go_zret dX11_suits_111 rfl rfl (by decide) ?_
                    exact ⟨by simp_all +decide [msu, bi], rfl⟩
                  · refine go_iconst (v := nI 1) dX11_suits_106 (by decide) ?_
                    refine go_goto 111 dX11_suits_107 (by decide) ?_
                    refine go_zret dX11_suits_111 rfl rfl (by decide) ?_
                    exact ⟨by simp_all +decide [msu, bi], rfl⟩
                · refine go_iload_n dX11_suits_87 rfl ?_
                  refine go_i2l dX11_suits_88 ?_
                  refine go_lconst (v := 0) dX11_suits_89 (by decide) ?_
                  refine go_ldc2 dX11_suits_90 klX11_156 ?_
                  refine gs_callSi dX11_suits_93 csX11_suits_145 (cX11_isIn_ok κ b σ _ (nI 0) (nI 3) _ _ (by decide) (by decide)) rfl rfl rfl ⟨rfl, rfl⟩ rfl ?_
                  refine go_if_eqB 110 dX11_suits_96 (by decide) (fun c96 => ?_) (fun c96 => ?_)
                  · refine go_iconst (v := nI 0) dX11_suits_110 (by decide) ?_
                    refine go_zret dX11_suits_111 rfl rfl (by decide) ?_
                    exact ⟨by simp_all +decide [msu, bi], rfl⟩
                  · refine go_goto 106 dX11_suits_99 (by decide) ?_
                    refine go_iconst (v := nI 1) dX11_suits_106 (by decide) ?_
                    refine go_goto 111 dX11_suits_107 (by decide) ?_
                    refine go_zret dX11_suits_111 rfl rfl (by decide) ?_
                    exact ⟨by simp_all +decide [msu, bi], rfl⟩
  · refine go_iload_n dX11_suits_30 rfl ?_
    refine go_if_ne 38 dX11_suits_31 (by decide) (fun c31 => ?_) (fun c31 => ?_)
    · refine go_iconst (v := nI 0) dX11_suits_38 (by decide) ?_
      refine go_goto 51 dX11_suits_39 (by decide) ?_
      refine go_istore (lv' := [_, _, _, _, _, _]) dX11_suits_51 rfl rfl rfl ?_
      refine go_iload dX11_suits_53 rfl ?_
      refine go_if_eq 110 dX11_suits_55 (by decide) (fun _ => ?_) (fun z => absurd z (by decide))
      refine go_iconst (v := nI 0) dX11_suits_110 (by decide) ?_
      refine go_zret dX11_suits_111 rfl rfl (by decide) ?_
      exact ⟨by simp_all +decide [msu, bi], rfl⟩
    · refine go_iconst (v := nI 1) dX11_suits_34 (by decide) ?_
      refine go_goto 51 dX11_suits_35 (by decide) ?_
      refine go_istore (lv' := [_, _, _, _, _, _]) dX11_suits_51 rfl rfl rfl ?_
      refine go_iload dX11_suits_53 rfl ?_
      refine go_if_eq 110 dX11_suits_55 (by decide) (fun z => absurd z (by decide)) (fun _ => ?_)
      refine go_iload_n dX11_suits_58 rfl ?_
      refine go_iconst (v := nI 1) dX11_suits_59 (by decide) ?_
      refine go_icmp_ne 67 dX11_suits_60 (by decide) (fun c60 => ?_) (fun c60 => ?_)
      · refine go_iload_n dX11_suits_67 rfl ?_
        refine go_iconst (v := nI 2) dX11_suits_68 (by decide) ?_
        refine go_icmp_ne 77 dX11_suits_69 (by decide) (fun c69 => ?_) (fun c69 => ?_)
        · refine go_iload_n dX11_suits_77 rfl ?_
          refine go_iconst (v := nI 5) dX11_suits_78 (by decide) ?_
          refine go_icmp_eq 106 dX11_suits_79 (by decide) (fun c79 => ?_) (fun c79 => ?_)
          · refine go_iconst (v := nI 1) dX11_suits_106 (by decide) ?_
            refine go_goto 111 dX11_suits_107 (by decide) ?_
            refine go_zret dX11_suits_111 rfl rfl (by decide) ?_
            exact ⟨by simp_all +decide [msu, bi], rfl⟩
          · refine go_iload_n dX11_suits_82 rfl ?_
            refine go_iconst (v := nI 4) dX11_suits_83 (by decide) ?_
            refine go_icmp_ne 102 dX11_suits_84 (by decide) (fun c84 => ?_) (fun c84 => ?_)
            · refine go_iload_n dX11_suits_102 rfl ?_
              refine go_if_ne 110 dX11_suits_103 (by decide) (fun c103 => ?_) (fun c103 => ?_)
              · refine go_iconst (v := nI 0) dX11_suits_110 (by decide) ?_
                refine go_zret dX11_suits_111 rfl rfl (by decide) ?_
                exact ⟨by simp_all +decide [msu, bi], rfl⟩
              · refine go_iconst (v := nI 1) dX11_suits_106 (by decide) ?_
                refine go_goto 111 dX11_suits_107 (by decide) ?_
                refine go_zret dX11_suits_111 rfl rfl (by decide) ?_
                exact ⟨by simp_all +decide [msu, bi], rfl⟩
            · refine go_iload_n dX11_suits_87 rfl ?_
              refine go_i2l dX11_suits_88 ?_
              refine go_lconst (v := 0) dX11_suits_89 (by decide) ?_
              refine go_ldc2 dX11_suits_90 klX11_156 ?_
              refine gs_callSi dX11_suits_93 csX11_suits_145 (cX11_isIn_ok κ b σ _ (nI 0) (nI 3) _ _ (by decide) (by decide)) rfl rfl rfl ⟨rfl, rfl⟩ rfl ?_
              refine go_if_eqB 110 dX11_suits_96 (by decide) (fun c96 => ?_) (fun c96 => ?_)
              · refine go_iconst (v := nI 0) dX11_suits_110 (by decide) ?_
                refine go_zret dX11_suits_111 rfl rfl (by decide) ?_
                exact ⟨by simp_all +decide [msu, bi], rfl⟩
              · refine go_goto 106 dX11_suits_99 (by decide) ?_
                refine go_iconst (v := nI 1) dX11_suits_106 (by decide) ?_
                refine go_goto 111 dX11_suits_107 (by decide) ?_
                refine go_zret dX11_suits_111 rfl rfl (by decide) ?_
                exact ⟨by simp_all +decide [msu, bi], rfl⟩
        · refine go_iload dX11_suits_72 rfl ?_
          refine go_if_ne 110 dX11_suits_74 (by decide) (fun c74 => ?_) (fun c74 => ?_)
          · refine go_iconst (v := nI 0) dX11_suits_110 (by decide) ?_
            refine go_zret dX11_suits_111 rfl rfl (by decide) ?_
            exact ⟨by simp_all +decide [msu, bi], rfl⟩
          · refine go_iload_n dX11_suits_77 rfl ?_
            refine go_iconst (v := nI 5) dX11_suits_78 (by decide) ?_
            refine go_icmp_eq 106 dX11_suits_79 (by decide) (fun c79 => ?_) (fun c79 => ?_)
            · refine go_iconst (v := nI 1) dX11_suits_106 (by decide) ?_
              refine go_goto 111 dX11_suits_107 (by decide) ?_
              refine go_zret dX11_suits_111 rfl rfl (by decide) ?_
              exact ⟨by simp_all +decide [msu, bi], rfl⟩
            · refine go_iload_n dX11_suits_82 rfl ?_
              refine go_iconst (v := nI 4) dX11_suits_83 (by decide) ?_
              refine go_icmp_ne 102 dX11_suits_84 (by decide) (fun c84 => ?_) (fun c84 => ?_)
              · refine go_iload_n dX11_suits_102 rfl ?_
                refine go_if_ne 110 dX11_suits_103 (by decide) (fun c103 => ?_) (fun c103 => ?_)
                · refine go_iconst (v := nI 0) dX11_suits_110 (by decide) ?_
                  refine go_zret dX11_suits_111 rfl rfl (by decide) ?_
                  exact ⟨by simp_all +decide [msu, bi], rfl⟩
                · refine go_iconst (v := nI 1) dX11_suits_106 (by decide) ?_
                  refine go_goto 111 dX11_suits_107 (by decide) ?_
                  refine go_zret dX11_suits_111 rfl rfl (by decide) ?_
                  exact ⟨by simp_all +decide [msu, bi], rfl⟩
              · refine go_iload_n dX11_suits_87 rfl ?_
                refine go_i2l dX11_suits_88 ?_
                refine go_lconst (v := 0) dX11_suits_89 (by decide) ?_
                refine go_ldc2 dX11_suits_90 klX11_156 ?_
                refine gs_callSi dX11_suits_93 csX11_suits_145 (cX11_isIn_ok κ b σ _ (nI 0) (nI 3) _ _ (by decide) (by decide)) rfl rfl rfl ⟨rfl, rfl⟩ rfl ?_
                refine go_if_eqB 110 dX11_suits_96 (by decide) (fun c96 => ?_) (fun c96 => ?_)
                · refine go_iconst (v := nI 0) dX11_suits_110 (by decide) ?_
                  refine go_zret dX11_suits_111 rfl rfl (by decide) ?_
                  exact ⟨by simp_all +decide [msu, bi], rfl⟩
                · refine go_goto 106 dX11_suits_99 (by decide) ?_
                  refine go_iconst (v := nI 1) dX11_suits_106 (by decide) ?_
                  refine go_goto 111 dX11_suits_107 (by decide) ?_
                  refine go_zret dX11_suits_111 rfl rfl (by decide) ?_
                  exact ⟨by simp_all +decide [msu, bi], rfl⟩
      · refine go_iload_n dX11_suits_63 rfl ?_
        refine go_if_ne 110 dX11_suits_64 (by decide) (fun c64 => ?_) (fun c64 => ?_)
        · refine go_iconst (v := nI 0) dX11_suits_110 (by decide) ?_
          refine go_zret dX11_suits_111 rfl rfl (by decide) ?_
          exact ⟨by simp_all +decide [msu, bi], rfl⟩
        · refine go_iload_n dX11_suits_67 rfl ?_
          refine go_iconst (v := nI 2) dX11_suits_68 (by decide) ?_
          refine go_icmp_ne 77 dX11_suits_69 (by decide) (fun c69 => ?_) (fun c69 => ?_)
          · refine go_iload_n dX11_suits_77 rfl ?_
            refine go_iconst (v := nI 5) dX11_suits_78 (by decide) ?_
            refine go_icmp_eq 106 dX11_suits_79 (by decide) (fun c79 => ?_) (fun c79 => ?_)
            · refine go_iconst (v := nI 1) dX11_suits_106 (by decide) ?_
              refine go_goto 111 dX11_suits_107 (by decide) ?_
              refine go_zret dX11_suits_111 rfl rfl (by decide) ?_
              exact ⟨by simp_all +decide [msu, bi], rfl⟩
            · refine go_iload_n dX11_suits_82 rfl ?_
              refine go_iconst (v := nI 4) dX11_suits_83 (by decide) ?_
              refine go_icmp_ne 102 dX11_suits_84 (by decide) (fun c84 => ?_) (fun c84 => ?_)
              · refine go_iload_n dX11_suits_102 rfl ?_
                refine go_if_ne 110 dX11_suits_103 (by decide) (fun c103 => ?_) (fun c103 => ?_)
                · refine go_iconst (v := nI 0) dX11_suits_110 (by decide) ?_
                  refine go_zret dX11_suits_111 rfl rfl (by decide) ?_
                  exact ⟨by simp_all +decide [msu, bi], rfl⟩
                · refine go_iconst (v := nI 1) dX11_suits_106 (by decide) ?_
                  refine go_goto 111 dX11_suits_107 (by decide) ?_
                  refine go_zret dX11_suits_111 rfl rfl (by decide) ?_
                  exact ⟨by simp_all +decide [msu, bi], rfl⟩
              · refine go_iload_n dX11_suits_87 rfl ?_
                refine go_i2l dX11_suits_88 ?_
                refine go_lconst (v := 0) dX11_suits_89 (by decide) ?_
                refine go_ldc2 dX11_suits_90 klX11_156 ?_
                refine gs_callSi dX11_suits_93 csX11_suits_145 (cX11_isIn_ok κ b σ _ (nI 0) (nI 3) _ _ (by decide) (by decide)) rfl rfl rfl ⟨rfl, rfl⟩ rfl ?_
                refine go_if_eqB 110 dX11_suits_96 (by decide) (fun c96 => ?_) (fun c96 => ?_)
                · refine go_iconst (v := nI 0) dX11_suits_110 (by decide) ?_
                  refine go_zret dX11_suits_111 rfl rfl (by decide) ?_
                  exact ⟨by simp_all +decide [msu, bi], rfl⟩
                · refine go_goto 106 dX11_suits_99 (by decide) ?_
                  refine go_iconst (v := nI 1) dX11_suits_106 (by decide) ?_
                  refine go_goto 111 dX11_suits_107 (by decide) ?_
                  refine go_zret dX11_suits_111 rfl rfl (by decide) ?_
                  exact ⟨by simp_all +decide [msu, bi], rfl⟩
          · refine go_iload dX11_suits_72 rfl ?_
            refine go_if_ne 110 dX11_suits_74 (by decide) (fun c74 => ?_) (fun c74 => ?_)
            · refine go_iconst (v := nI 0) dX11_suits_110 (by decide) ?_
              refine go_zret dX11_suits_111 rfl rfl (by decide) ?_
              exact ⟨by simp_all +decide [msu, bi], rfl⟩
            · refine go_iload_n dX11_suits_77 rfl ?_
              refine go_iconst (v := nI 5) dX11_suits_78 (by decide) ?_
              refine go_icmp_eq 106 dX11_suits_79 (by decide) (fun c79 => ?_) (fun c79 => ?_)
              · refine go_iconst (v := nI 1) dX11_suits_106 (by decide) ?_
                refine go_goto 111 dX11_suits_107 (by decide) ?_
                refine go_zret dX11_suits_111 rfl rfl (by decide) ?_
                exact ⟨by simp_all +decide [msu, bi], rfl⟩
              · refine go_iload_n dX11_suits_82 rfl ?_
                refine go_iconst (v := nI 4) dX11_suits_83 (by decide) ?_
                refine go_icmp_ne 102 dX11_suits_84 (by decide) (fun c84 => ?_) (fun c84 => ?_)
                · refine go_iload_n dX11_suits_102 rfl ?_
                  refine go_if_ne 110 dX11_suits_103 (by decide) (fun c103 => ?_) (fun c103 => ?_)
                  · refine go_iconst (v := nI 0) dX11_suits_110 (by decide) ?_
                    refine go_zret dX11_suits_111 rfl rfl (by decide) ?_
                    exact ⟨by simp_all +decide [msu, bi], rfl⟩
                  · refine go_iconst (v := nI 1) dX11_suits_106 (by decide) ?_
                    refine go_goto 111 dX11_suits_107 (by decide) ?_
                    refine go_zret dX11_suits_111 rfl rfl (by decide) ?_
                    exact ⟨by simp_all +decide [msu, bi], rfl⟩
                · refine go_iload_n dX11_suits_87 rfl ?_
                  refine go_i2l dX11_suits_88 ?_
                  refine go_lconst (v := 0) dX11_suits_89 (by decide) ?_
                  refine go_ldc2 dX11_suits_90 klX11_156 ?_
                  refine gs_callSi dX11_suits_93 csX11_suits_145 (cX11_isIn_ok κ b σ _ (nI 0) (nI 3) _ _ (by decide) (by decide)) rfl rfl rfl ⟨rfl, rfl⟩ rfl ?_
                  refine go_if_eqB 110 dX11_suits_96 (by decide) (fun c96 => ?_) (fun c96 => ?_)
                  · refine go_iconst (v := nI 0) dX11_suits_110 (by decide) ?_
                    refine go_zret dX11_suits_111 rfl rfl (by decide) ?_
                    exact ⟨by simp_all +decide [msu, bi], rfl⟩
                  · refine go_goto 106 dX11_suits_99 (by decide) ?_
                    refine go_iconst (v := nI 1) dX11_suits_106 (by decide) ?_
                    refine go_goto 111 dX11_suits_107 (by decide) ?_
                    refine go_zret dX11_suits_111 rfl rfl (by decide) ?_
                    exact ⟨by simp_all +decide [msu, bi], rfl⟩
def msz (σ : wg_S) (c : Nat) : Int32 := σ 50 (4 * c) + σ 50 (4 * c + 1) + σ 50 (4 * c + 2) + σ 50 (4 * c + 3)
def mhc (σ : wg_S) (c : Nat) : Bool := !decide (σ 48 c = nI 4) || !decide (σ 47 10 < σ 51 c)
def mxa (σ : wg_S) (c : Nat) : Int32 := σ 51 c / nI 16
def mxb (σ : wg_S) (c : Nat) : Int32 := σ 51 c - σ 51 c / nI 16 * nI 16
def mth (σ : wg_S) (c : Nat) : Bool := if σ 48 c = nI 5 then mhc σ (mxa σ c).toNatClampNeg && mhc σ (mxb σ c).toNatClampNeg else mhc σ c
def mtn (σ : wg_S) (k : Nat) : Nat := (σ 66 k).toNatClampNeg
/-- what the reference's own cells keep to, as far as its rows need it -/
def MX (σ : wg_S) (c : Nat) : Prop := σ 48 c = nI 5 → hs (nI 16) (mxa σ c) = true ∧ hs (nI 16) (mxb σ c) = true
def MI (σ : wg_S) (n m j r : Nat) : Prop := (σ 47 0 = nI n ∧ n ≤ 16) ∧ (σ 47 11 = nI m ∧ m ≤ 9) ∧ (σ 47 16 = nI j ∧ j ≤ 6) ∧ (σ 47 21 = nI r ∧ r ≤ 12) ∧ (∀ k, k < r → σ 66 k = nI (mtn σ k) ∧ mtn σ k ≤ 2) ∧ ∀ c, c < n → MX σ c
theorem cX11_sizeOf_ok (κ : gm_K) (b : Bool) (σ : wg_S) (c : Nat) (hc : c < 16) : Fn κ mX11_sizeOf [.ref 47, .int (nI c)] (gg b) σ (some (.int (msz σ c))) (gg b) σ := by
  refine go_start (by decide) (Nat.le_of_ble_eq_true rfl) ?_
  refine go_aload_n dX11_sizeOf_0 rfl ?_
  refine gs_gr dX11_sizeOf_1 flX11_16 (gg_47 b) rfl ?_
  refine go_iconst (v := nI 4) dX11_sizeOf_4 (by decide) ?_
  refine go_iload_n dX11_sizeOf_5 rfl ?_
  refine go_imulN dX11_sizeOf_6 ?_
  refine gs_iald (_) dX11_sizeOf_7 (gg_50 b) (rfl) (by omega) rfl (rfl) ?_
  refine go_aload_n dX11_sizeOf_8 rfl ?_
  refine gs_gr dX11_sizeOf_9 flX11_16 (gg_47 b) rfl ?_
  refine go_iconst (v := nI 4) dX11_sizeOf_12 (by decide) ?_
  refine go_iload_n dX11_sizeOf_13 rfl ?_
  refine go_imulN dX11_sizeOf_14 ?_
  refine go_iconst (v := nI 1) dX11_sizeOf_15 (by decide) ?_
  refine go_iaddN dX11_sizeOf_16 ?_
  refine gs_iald (_) dX11_sizeOf_17 (gg_50 b) (rfl) (by omega) rfl (rfl) ?_
  refine go_iadd dX11_sizeOf_18 ?_
  refine go_aload_n dX11_sizeOf_19 rfl ?_
  refine gs_gr dX11_sizeOf_20 flX11_16 (gg_47 b) rfl ?_
  refine go_iconst (v := nI 4) dX11_sizeOf_23 (by decide) ?_
  refine go_iload_n dX11_sizeOf_24 rfl ?_
  refine go_imulN dX11_sizeOf_25 ?_
  refine go_iconst (v := nI 2) dX11_sizeOf_26 (by decide) ?_
  refine go_iaddN dX11_sizeOf_27 ?_
  refine gs_iald (_) dX11_sizeOf_28 (gg_50 b) (rfl) (by omega) rfl (rfl) ?_
  refine go_iadd dX11_sizeOf_29 ?_
  refine go_aload_n dX11_sizeOf_30 rfl ?_
  refine gs_gr dX11_sizeOf_31 flX11_16 (gg_47 b) rfl ?_
  refine go_iconst (v := nI 4) dX11_sizeOf_34 (by decide) ?_
  refine go_iload_n dX11_sizeOf_35 rfl ?_
  refine go_imulN dX11_sizeOf_36 ?_
  refine go_iconst (v := nI 3) dX11_sizeOf_37 (by decide) ?_
  refine go_iaddN dX11_sizeOf_38 ?_
  refine gs_iald (_) dX11_sizeOf_39 (gg_50 b) (rfl) (by omega) rfl (rfl) ?_
  refine go_iadd dX11_sizeOf_40 ?_
  refine go_iret dX11_sizeOf_41 rfl rfl ?_
  exact ⟨rfl, rfl⟩
theorem cX11_hasCome_ok (κ : gm_K) (b : Bool) (σ : wg_S) (c : Nat) (hc : c < 16) : Fn κ mX11_hasCome [.ref 47, .int (nI c)] (gg b) σ (some (.int (bi (mhc σ c)))) (gg b) σ := by
  refine go_start (by decide) (Nat.le_of_ble_eq_true rfl) ?_
  refine go_aload_n dX11_hasCome_0 rfl ?_
  refine gs_gr dX11_hasCome_1 flX11_7 (gg_47 b) rfl ?_
  refine go_iload_n dX11_hasCome_4 rfl ?_
  refine gs_iald (_) dX11_hasCome_5 (gg_48 b) (rfl) (by omega) rfl (rfl) ?_
  refine go_iconst (v := nI 4) dX11_hasCome_6 (by decide) ?_
  refine go_icmp_ne 23 dX11_hasCome_7 (by decide) (fun c7 => ?_) (fun c7 => ?_)
  · refine go_iconst (v := nI 1) dX11_hasCome_23 (by decide) ?_
    refine go_goto 28 dX11_hasCome_24 (by decide) ?_
    refine go_zret dX11_hasCome_28 rfl rfl (by decide) ?_
    exact ⟨by simp +decide [c7, bi, mhc], rfl⟩
  · refine go_aload_n dX11_hasCome_10 rfl ?_
    refine gs_gi dX11_hasCome_11 flX11_171 (gg_47 b) rfl (rfl) ?_
    refine go_aload_n dX11_hasCome_14 rfl ?_
    refine gs_gr dX11_hasCome_15 flX11_19 (gg_47 b) rfl ?_
    refine go_iload_n dX11_hasCome_18 rfl ?_
    refine gs_iald (_) dX11_hasCome_19 (gg_51 b) (rfl) (by omega) rfl (rfl) ?_
    refine go_icmp_lt 27 dX11_hasCome_20 (by decide) (fun c20 => ?_) (fun c20 => ?_)
    · refine go_iconst (v := nI 0) dX11_hasCome_27 (by decide) ?_
      refine go_zret dX11_hasCome_28 rfl rfl (by decide) ?_
      exact ⟨by simp +decide [c7, c20, bi, mhc], rfl⟩
    · refine go_iconst (v := nI 1) dX11_hasCome_23 (by decide) ?_
      refine go_goto 28 dX11_hasCome_24 (by decide) ?_
      refine go_zret dX11_hasCome_28 rfl rfl (by decide) ?_
      exact ⟨by simp +decide [c7, c20, bi, mhc], rfl⟩
theorem cX11_isThere_ok (κ : gm_K) (b : Bool) (σ : wg_S) (c : Nat) (hc : c < 16) (hX : MX σ c) : Fn κ mX11_isThere [.ref 47, .int (nI c)] (gg b) σ (some (.int (bi (mth σ c)))) (gg b) σ := by
  refine go_start (by decide) (Nat.le_of_ble_eq_true rfl) ?_
  refine go_aload_n dX11_isThere_0 rfl ?_
  refine gs_gr dX11_isThere_1 flX11_7 (gg_47 b) rfl ?_
  refine go_iload_n dX11_isThere_4 rfl ?_
  refine gs_iald (_) dX11_isThere_5 (gg_48 b) (rfl) (by omega) rfl (rfl) ?_
  refine go_iconst (v := nI 5) dX11_isThere_6 (by decide) ?_
  refine go_icmp_ne 50 dX11_isThere_7 (by decide) (fun c7 => ?_) (fun c7 => ?_)
  · have hr : mth σ c = mhc σ c := by simp [mth, c7]
    refine go_aload_n dX11_isThere_50 rfl ?_
    refine go_iload_n dX11_isThere_51 rfl ?_
    refine gs_callVi dX11_isThere_52 cvX11_isThere_194 (cX11_hasCome_ok κ b σ c hc) rfl (gg_47 b) rfl rfl rfl ⟨rfl, rfl⟩ rfl ?_
    refine go_zret dX11_isThere_55 rfl rfl (bi_nar _) ?_
    exact ⟨by simp [hr, bi, c7], rfl⟩
  · obtain ⟨h1, h2⟩ := hX c7
    obtain ⟨x, hx, ex⟩ := hs_ix (by decide) h1
    obtain ⟨y, hy, ey⟩ := hs_ix (by decide) h2
    have hr : mth σ c = (mhc σ x && mhc σ y) := by rw [mth, if_pos c7, ex, ey, nI_clamp (show x < 2 ^ 31 by omega), nI_clamp (show y < 2 ^ 31 by omega)]
    refine go_aload_n dX11_isThere_10 rfl ?_
    refine go_aload_n dX11_isThere_11 rfl ?_
    refine gs_gr dX11_isThere_12 flX11_19 (gg_47 b) rfl ?_
    refine go_iload_n dX11_isThere_15 rfl ?_
    refine gs_iald (_) dX11_isThere_16 (gg_51 b) (rfl) (by omega) rfl (rfl) ?_
    refine go_bipush (v := nI 16) dX11_isThere_17 (by decide) ?_
    refine go_idiv dX11_isThere_19 (by decide) ?_
    refine go_topI ex ?_
    refine gs_callVi dX11_isThere_20 cvX11_isThere_194 (cX11_hasCome_ok κ b σ x hx) rfl (gg_47 b) rfl rfl rfl ⟨rfl, rfl⟩ rfl ?_
    refine go_if_eqB 46 dX11_isThere_23 (by decide) (fun c23 => ?_) (fun c23 => ?_)
    · refine go_iconst (v := nI 0) dX11_isThere_46 (by decide) ?_
      refine go_goto 55 dX11_isThere_47 (by decide) ?_
      refine go_zret dX11_isThere_55 rfl rfl (by decide) ?_
      exact ⟨by simp [hr, bi, c7, c23], rfl⟩
    · refine go_aload_n dX11_isThere_26 rfl ?_
      refine go_aload_n dX11_isThere_27 rfl ?_
      refine gs_gr dX11_isThere_28 flX11_19 (gg_47 b) rfl ?_
      refine go_iload_n dX11_isThere_31 rfl ?_
      refine gs_iald (_) dX11_isThere_32 (gg_51 b) (rfl) (by omega) rfl (rfl) ?_
      refine go_bipush (v := nI 16) dX11_isThere_33 (by decide) ?_
      refine go_irem dX11_isThere_35 (by decide) ?_
      refine go_topI ey ?_
      refine gs_callVi dX11_isThere_36 cvX11_isThere_194 (cX11_hasCome_ok κ b σ y hy) rfl (gg_47 b) rfl rfl rfl ⟨rfl, rfl⟩ rfl ?_
      refine go_if_eqB 46 dX11_isThere_39 (by decide) (fun c39 => ?_) (fun c39 => ?_)
      · refine go_iconst (v := nI 0) dX11_isThere_46 (by decide) ?_
        refine go_goto 55 dX11_isThere_47 (by decide) ?_
        refine go_zret dX11_isThere_55 rfl rfl (by decide) ?_
        exact ⟨by simp [hr, bi, c7, c23, c39], rfl⟩
      · refine go_iconst (v := nI 1) dX11_isThere_42 (by decide) ?_
        refine go_goto 55 dX11_isThere_43 (by decide) ?_
        refine go_zret dX11_isThere_55 rfl rfl (by decide) ?_
        exact ⟨by simp [hr, bi, c7, c23, c39], rfl⟩
