def rg1 (σ : wg_S) (p q : Nat) (set : Int32) (i : Nat) : Bool := decide (σ 81 (24 * p + q) = 0) && alb (fun h => decide (σ 82 (24 * h + q) &&& set = 0)) i
def rg2 (σ : wg_S) (j r p q s : Nat) (set : Int32) (i : Nat) : Bool := rg1 σ p q set 4 && alb (fun c => decide (bv set c = 0) || decide (mvd σ j r c s = 0)) i
def M_rehearse (σ : wg_S) (n j r : Nat) (p q s set : Int32) : Int32 × wg_S :=
  if wi p (nI 0) (nI 3) = false then (-1, σ) else if wi q (nI 0) (nI 23) = false then (-1, σ) else if hs (σ 47 11) s = false then (-1, σ)
  else if set ≤ 0 then (-2, σ) else if ¬ set < nI 1 <<< (σ 47 0 &&& 31) then (-2, σ)
  else if rg2 σ j r p.toNatClampNeg q.toNatClampNeg s.toNatClampNeg set n = false then (-3, σ)
  else (sm (bv set) 31, us (us σ 81 (24 * p.toNatClampNeg + q.toNatClampNeg) (nI (s.toNatClampNeg + 1))) 82 (24 * p.toNatClampNeg + q.toNatClampNeg) set)
theorem cX11_rehearse_ok (κ : gm_K) (b : Bool) (σ : wg_S) (n m j r : Nat) (C : MI σ n m j r) (p q s set : Int32) : Fn κ mX11_rehearse [.ref 47, .int p, .int q, .int s, .int set] (gg b) σ (some (.int ((M_rehearse σ n j r p q s set).1))) (gg b) (M_rehearse σ n j r p q s set).2 := by
  refine go_start (by decide) (Nat.le_of_ble_eq_true rfl) ?_
  obtain ⟨⟨hN, hn⟩, ⟨hM, hm⟩, ⟨hJ, hj⟩, ⟨hR, hr⟩, hT, hX⟩ := id C
  refine go_iload_n dX11_rehearse_0 rfl ?_
  refine go_i2l dX11_rehearse_1 ?_
  refine go_lconst (v := 0) dX11_rehearse_2 (by decide) ?_
  refine go_ldc2 dX11_rehearse_3 klX11_156 ?_
  refine gs_callSi dX11_rehearse_6 csX11_rehearse_145 (cX11_isIn_ok κ b σ _ (nI 0) (nI 3) _ _ (by decide) (by decide)) rfl rfl rfl ⟨rfl, rfl⟩ rfl ?_
  refine go_if_eqB 32 dX11_rehearse_9 (by decide) (fun c9 => ?_) (fun c9 => ?_)
  · refine go_iconst (v := -1) dX11_rehearse_32 (by decide) ?_
    refine go_iret dX11_rehearse_33 rfl rfl ?_
    exact ⟨by simp +decide [M_rehearse, c9], by simp +decide [M_rehearse, c9]⟩
  · have hx' := c9
    rw [wi_hs _ 3 (by decide)] at hx'
    obtain ⟨x, hx, rfl⟩ := hs_ix (by decide) hx'
    have ex := nI_clamp (show x < 2 ^ 31 by omega)
    refine go_iload_n dX11_rehearse_12 rfl ?_
    refine go_i2l dX11_rehearse_13 ?_
    refine go_lconst (v := 0) dX11_rehearse_14 (by decide) ?_
    refine go_ldc2 dX11_rehearse_15 klX11_299 ?_
    refine gs_callSi dX11_rehearse_18 csX11_rehearse_145 (cX11_isIn_ok κ b σ _ (nI 0) (nI 23) _ _ (by decide) (by decide)) rfl rfl rfl ⟨rfl, rfl⟩ rfl ?_
    refine go_if_eqB 32 dX11_rehearse_21 (by decide) (fun c21 => ?_) (fun c21 => ?_)
    · refine go_iconst (v := -1) dX11_rehearse_32 (by decide) ?_
      refine go_iret dX11_rehearse_33 rfl rfl ?_
      exact ⟨by simp +decide [M_rehearse, c9, ex, c21], by simp +decide [M_rehearse, c9, ex, c21]⟩
    · have hy' := c21
      rw [wi_hs _ 23 (by decide)] at hy'
      obtain ⟨y, hy, rfl⟩ := hs_ix (by decide) hy'
      have ey := nI_clamp (show y < 2 ^ 31 by omega)
      refine go_aload_n dX11_rehearse_24 rfl ?_
      refine go_iload_n dX11_rehearse_25 rfl ?_
      refine gs_callVi dX11_rehearse_26 cvX11_rehearse_255 (cX11_isSong_ok κ b σ _) rfl (gg_47 b) rfl rfl rfl ⟨rfl, rfl⟩ rfl ?_
      refine go_if_neB 34 dX11_rehearse_29 (by decide) (fun c29 => ?_) (fun c29 => ?_)
      · obtain ⟨z, hz, rfl⟩ := hs_ix (by omega) (hM ▸ c29)
        have ez := nI_clamp (show z < 2 ^ 31 by omega)
        refine go_iload dX11_rehearse_34 rfl ?_
        refine go_if_le 50 dX11_rehearse_36 (by decide) (fun c36 => ?_) (fun c36 => ?_)
        · refine go_bipush (v := -2) dX11_rehearse_50 (by decide) ?_
          refine go_iret dX11_rehearse_52 rfl rfl ?_
          exact ⟨by simp +decide [M_rehearse, c9, ex, c21, ey, c29, ez, c36], by simp +decide [M_rehearse, c9, ex, c21, ey, c29, ez, c36]⟩
        · refine go_iload dX11_rehearse_39 rfl ?_
          refine go_iconst (v := nI 1) dX11_rehearse_41 (by decide) ?_
          refine go_aload_n dX11_rehearse_42 rfl ?_
          refine gs_gi dX11_rehearse_43 flX11_134 (gg_47 b) rfl (rfl) ?_
          refine go_ishl dX11_rehearse_46 ?_
          refine go_icmp_lt 53 dX11_rehearse_47 (by decide) (fun c47 => ?_) (fun c47 => ?_)
          · have hK : M_rehearse σ n j r (nI x) (nI y) (nI z) set = if rg2 σ j r x y z set n = false then (-3, σ) else (sm (bv set) 31, us (us σ 81 (24 * x + y) (nI (z + 1))) 82 (24 * x + y) set) := by
              rw [M_rehearse, if_neg (by simp [c9]), if_neg (by simp [c21]), if_neg (by simp [c29]), if_neg c36, if_neg (fun h => h c47), ex, ey, ez]
            have loop2 : ∀ i, i ≤ n → Go κ mX11_rehearse 122 [some (.ref 47), some (.int (nI x)), some (.int (nI y)), some (.int (nI z)), some (.int set), some (.int (bi (rg2 σ j r x y z set i))), some (.int (nI i))] [] (wd (gg b) σ) (0, 0) (fun w h' => w = some (.int (M_rehearse σ n j r (nI x) (nI y) (nI z) set).1) ∧ h' = wd (gg b) (M_rehearse σ n j r (nI x) (nI y) (nI z) set).2) := by
              refine lo_up n (fun i hi ih => ?_)
              have hs1 : rg2 σ j r x y z set (i + 1) = (rg2 σ j r x y z set i && (decide (bv set i = 0) || decide (mvd σ j r i z = 0))) := by simp only [rg2, alb, Bool.and_assoc]
              cases hb : rg2 σ j r x y z set i with
              | false =>
                rw [hb, Bool.false_and] at hs1
                refine go_iload dX11_rehearse_122 rfl ?_
                refine go_aload_n dX11_rehearse_124 rfl ?_
                refine gs_gi dX11_rehearse_125 flX11_134 (gg_47 b) rfl (hN) ?_
                refine go_icmp_geN 169 dX11_rehearse_128 (by decide) (by omega) (by omega) (fun c128 => ?_) (fun c128 => ?_)
                · refine go_iload dX11_rehearse_169 rfl ?_
                  refine go_if_ne 177 dX11_rehearse_171 (by decide) (fun z => absurd z (by decide)) (fun _ => ?_)
                  refine go_bipush (v := -3) dX11_rehearse_174 (by decide) ?_
                  refine go_iret dX11_rehearse_176 rfl rfl ?_
                  have e : i = n := by omega
                  subst e
                  rw [hK, hb]
                  exact ⟨rfl, rfl⟩
                · refine go_iload dX11_rehearse_131 rfl ?_
                  refine go_if_eq 160 dX11_rehearse_133 (by decide) (fun _ => ?_) (fun z => absurd z (by decide))
                  refine go_iconst (v := nI 0) dX11_rehearse_160 (by decide) ?_
                  refine go_istore (lv' := [_, _, _, _, _, _, _]) dX11_rehearse_161 rfl rfl rfl ?_
                  refine go_iincN (lv' := [_, _, _, _, _, _, _]) 1 dX11_rehearse_163 (by decide) rfl rfl rfl rfl ?_
                  refine go_goto 122 dX11_rehearse_166 (by decide) ?_
                  exact go_wk (by rw [hs1]; simp [lvle, bi, nI_0, bv, c128]) (ih c128)
              | true =>
                rw [hb, Bool.true_and] at hs1
                refine go_iload dX11_rehearse_122 rfl ?_
                refine go_aload_n dX11_rehearse_124 rfl ?_
                refine gs_gi dX11_rehearse_125 flX11_134 (gg_47 b) rfl (hN) ?_
                refine go_icmp_geN 169 dX11_rehearse_128 (by decide) (by omega) (by omega) (fun c128 => ?_) (fun c128 => ?_)
                · refine go_iload dX11_rehearse_169 rfl ?_
                  refine go_if_ne 177 dX11_rehearse_171 (by decide) (fun _ => ?_) (fun z => absurd z (by decide))
                  refine go_aload_n dX11_rehearse_177 rfl ?_
                  refine gs_gr dX11_rehearse_178 flX11_119 (gg_47 b) rfl ?_
                  refine go_bipush (v := nI 24) dX11_rehearse_181 (by decide) ?_
                  refine go_iload_n dX11_rehearse_183 rfl ?_
                  refine go_imulN dX11_rehearse_184 ?_
                  refine go_iload_n dX11_rehearse_185 rfl ?_
                  refine go_iaddN dX11_rehearse_186 ?_
                  refine go_iload_n dX11_rehearse_187 rfl ?_
                  refine go_iconst (v := nI 1) dX11_rehearse_188 (by decide) ?_
                  refine go_iaddN dX11_rehearse_189 ?_
                  refine gs_iast (_) dX11_rehearse_190 (gg_81 b) (rfl) (by omega) rfl ?_
                  refine go_aload_n dX11_rehearse_191 rfl ?_
                  refine gs_gr dX11_rehearse_192 flX11_122 (gg_47 b) rfl ?_
                  refine go_bipush (v := nI 24) dX11_rehearse_195 (by decide) ?_
                  refine go_iload_n dX11_rehearse_197 rfl ?_
                  refine go_imulN dX11_rehearse_198 ?_
                  refine go_iload_n dX11_rehearse_199 rfl ?_
                  refine go_iaddN dX11_rehearse_200 ?_
                  refine go_iload dX11_rehearse_201 rfl ?_
                  refine gs_iast (_) dX11_rehearse_203 (gg_82 b) (rfl) (by omega) rfl ?_
                  refine go_iload dX11_rehearse_204 rfl ?_
                  refine gs_callSi dX11_rehearse_206 csX11_rehearse_278 (cX11_countBits_ok κ b _ _) rfl rfl rfl ⟨rfl, rfl⟩ rfl ?_
                  refine go_iret dX11_rehearse_209 rfl rfl ?_
                  have e : i = n := by omega
                  subst e
                  rw [hK, hb]
                  exact ⟨rfl, rfl⟩
                · refine go_iload dX11_rehearse_131 rfl ?_
                  refine go_if_eq 160 dX11_rehearse_133 (by decide) (fun z => absurd z (by decide)) (fun _ => ?_)
                  refine go_iload dX11_rehearse_136 rfl ?_
                  refine go_iload dX11_rehearse_138 rfl ?_
                  refine go_ishr dX11_rehearse_140 ?_
                  refine go_iconst (v := nI 1) dX11_rehearse_141 (by decide) ?_
                  refine go_iand dX11_rehearse_142 ?_
                  refine go_if_eq 156 dX11_rehearse_143 (by decide) (fun c143 => ?_) (fun c143 => ?_)
                  · refine go_iconst (v := nI 1) dX11_rehearse_156 (by decide) ?_
                    refine go_goto 161 dX11_rehearse_157 (by decide) ?_
                    refine go_istore (lv' := [_, _, _, _, _, _, _]) dX11_rehearse_161 rfl rfl rfl ?_
                    refine go_iincN (lv' := [_, _, _, _, _, _, _]) 1 dX11_rehearse_163 (by decide) rfl rfl rfl rfl ?_
                    refine go_goto 122 dX11_rehearse_166 (by decide) ?_
                    exact go_wk (by rw [hs1]; simp [lvle, bi, nI_0, bv, c128, c143]) (ih c128)
                  · refine go_aload_n dX11_rehearse_146 rfl ?_
                    refine go_iload dX11_rehearse_147 rfl ?_
                    refine go_iload_n dX11_rehearse_149 rfl ?_
                    refine gs_callVi dX11_rehearse_150 cvX11_rehearse_258 (cX11_mayOf_ok κ b σ n m j r C i z c128 hz) rfl (gg_47 b) rfl rfl rfl ⟨rfl, rfl⟩ rfl ?_
                    refine go_if_ne 160 dX11_rehearse_153 (by decide) (fun c153 => ?_) (fun c153 => ?_)
                    · refine go_iconst (v := nI 0) dX11_rehearse_160 (by decide) ?_
                      refine go_istore (lv' := [_, _, _, _, _, _, _]) dX11_rehearse_161 rfl rfl rfl ?_
                      refine go_iincN (lv' := [_, _, _, _, _, _, _]) 1 dX11_rehearse_163 (by decide) rfl rfl rfl rfl ?_
                      refine go_goto 122 dX11_rehearse_166 (by decide) ?_
                      exact go_wk (by rw [hs1]; simp [lvle, bi, nI_0, bv, c128, c143, c153]) (ih c128)
                    · refine go_iconst (v := nI 1) dX11_rehearse_156 (by decide) ?_
                      refine go_goto 161 dX11_rehearse_157 (by decide) ?_
                      refine go_istore (lv' := [_, _, _, _, _, _, _]) dX11_rehearse_161 rfl rfl rfl ?_
                      refine go_iincN (lv' := [_, _, _, _, _, _, _]) 1 dX11_rehearse_163 (by decide) rfl rfl rfl rfl ?_
                      refine go_goto 122 dX11_rehearse_166 (by decide) ?_
                      exact go_wk (by rw [hs1]; simp [lvle, bi, nI_0, bv, c128, c143, c153]) (ih c128)
            have loop1 : ∀ i, i ≤ 4 → Go κ mX11_rehearse 77 [some (.ref 47), some (.int (nI x)), some (.int (nI y)), some (.int (nI z)), some (.int set), some (.int (bi (rg1 σ x y set i))), some (.int (nI i))] [] (wd (gg b) σ) (0, 0) (fun w h' => w = some (.int (M_rehearse σ n j r (nI x) (nI y) (nI z) set).1) ∧ h' = wd (gg b) (M_rehearse σ n j r (nI x) (nI y) (nI z) set).2) := by
              refine lo_up 4 (fun i hi ih => ?_)
              have hs1 : rg1 σ x y set (i + 1) = (rg1 σ x y set i && decide (σ 82 (24 * i + y) &&& set = 0)) := by simp only [rg1, alb, Bool.and_assoc]
              cases hb : rg1 σ x y set i with
              | false =>
                have hs0 := hs1
                rw [hb, Bool.false_and] at hs1
                refine go_iload dX11_rehearse_77 rfl ?_
                refine go_iconst (v := nI 4) dX11_rehearse_79 (by decide) ?_
                refine go_icmp_geN 119 dX11_rehearse_80 (by decide) (by omega) (by omega) (fun c80 => ?_) (fun c80 => ?_)
                · refine go_iconst (v := nI 0) dX11_rehearse_119 (by decide) ?_
                  refine go_istore (lv' := [_, _, _, _, _, _, _]) dX11_rehearse_120 rfl rfl rfl ?_
                  have e : i = 4 := by omega
                  subst e
                  exact go_wk (by simp [lvle, rg2, alb, hb]) (loop2 0 (Nat.zero_le _))
                · refine go_iload dX11_rehearse_83 rfl ?_
                  refine go_if_eq 110 dX11_rehearse_85 (by decide) (fun _ => ?_) (fun z => absurd z (by decide))
                  refine go_iconst (v := nI 0) dX11_rehearse_110 (by decide) ?_
                  refine go_istore (lv' := [_, _, _, _, _, _, _]) dX11_rehearse_111 rfl rfl rfl ?_
                  refine go_iincN (lv' := [_, _, _, _, _, _, _]) 1 dX11_rehearse_113 (by decide) rfl rfl rfl rfl ?_
                  refine go_goto 77 dX11_rehearse_116 (by decide) ?_
                  exact go_wk (by rw [hs1]; simp [lvle, bi, nI_0, c80]) (ih c80)
              | true =>
                have hs0 := hs1
                rw [hb, Bool.true_and] at hs1
                refine go_iload dX11_rehearse_77 rfl ?_
                refine go_iconst (v := nI 4) dX11_rehearse_79 (by decide) ?_
                refine go_icmp_geN 119 dX11_rehearse_80 (by decide) (by omega) (by omega) (fun c80 => ?_) (fun c80 => ?_)
                · refine go_iconst (v := nI 0) dX11_rehearse_119 (by decide) ?_
                  refine go_istore (lv' := [_, _, _, _, _, _, _]) dX11_rehearse_120 rfl rfl rfl ?_
                  have e : i = 4 := by omega
                  subst e
                  exact go_wk (by simp [lvle, rg2, alb, hb]) (loop2 0 (Nat.zero_le _))
                · refine go_iload dX11_rehearse_83 rfl ?_
                  refine go_if_eq 110 dX11_rehearse_85 (by decide) (fun z => absurd z (by decide)) (fun _ => ?_)
                  refine go_aload_n dX11_rehearse_88 rfl ?_
                  refine gs_gr dX11_rehearse_89 flX11_122 (gg_47 b) rfl ?_
                  refine go_bipush (v := nI 24) dX11_rehearse_92 (by decide) ?_
                  refine go_iload dX11_rehearse_94 rfl ?_
                  refine go_imulN dX11_rehearse_96 ?_
                  refine go_iload_n dX11_rehearse_97 rfl ?_
                  refine go_iaddN dX11_rehearse_98 ?_
                  refine gs_iald (_) dX11_rehearse_99 (gg_82 b) (rfl) (by omega) rfl (rfl) ?_
                  refine go_iload dX11_rehearse_100 rfl ?_
                  refine go_iand dX11_rehearse_102 ?_
                  refine go_if_ne 110 dX11_rehearse_103 (by decide) (fun c103 => ?_) (fun c103 => ?_)
                  · refine go_iconst (v := nI 0) dX11_rehearse_110 (by decide) ?_
                    refine go_istore (lv' := [_, _, _, _, _, _, _]) dX11_rehearse_111 rfl rfl rfl ?_
                    refine go_iincN (lv' := [_, _, _, _, _, _, _]) 1 dX11_rehearse_113 (by decide) rfl rfl rfl rfl ?_
                    refine go_goto 77 dX11_rehearse_116 (by decide) ?_
                    exact go_wk (by rw [hs1]; simp [lvle, bi, nI_0, c80, c103]) (ih c80)
                  · refine go_iconst (v := nI 1) dX11_rehearse_106 (by decide) ?_
                    refine go_goto 111 dX11_rehearse_107 (by decide) ?_
                    refine go_istore (lv' := [_, _, _, _, _, _, _]) dX11_rehearse_111 rfl rfl rfl ?_
                    refine go_iincN (lv' := [_, _, _, _, _, _, _]) 1 dX11_rehearse_113 (by decide) rfl rfl rfl rfl ?_
                    refine go_goto 77 dX11_rehearse_116 (by decide) ?_
                    exact go_wk (by rw [hs1]; simp [lvle, bi, nI_0, c80, c103]) (ih c80)
            refine go_aload_n dX11_rehearse_53 rfl ?_
            refine gs_gr dX11_rehearse_54 flX11_119 (gg_47 b) rfl ?_
            refine go_bipush (v := nI 24) dX11_rehearse_57 (by decide) ?_
            refine go_iload_n dX11_rehearse_59 rfl ?_
            refine go_imulN dX11_rehearse_60 ?_
            refine go_iload_n dX11_rehearse_61 rfl ?_
            refine go_iaddN dX11_rehearse_62 ?_
            refine gs_iald (_) dX11_rehearse_63 (gg_81 b) (rfl) (by omega) rfl (rfl) ?_
            refine go_if_ne 71 dX11_rehearse_64 (by decide) (fun c64 => ?_) (fun c64 => ?_)
            · refine go_iconst (v := nI 0) dX11_rehearse_71 (by decide) ?_
              refine go_istore (lv' := [_, _, _, _, _, _, _]) dX11_rehearse_72 rfl rfl rfl ?_
              refine go_iconst (v := nI 0) dX11_rehearse_74 (by decide) ?_
              refine go_istore (lv' := [_, _, _, _, _, _, _]) dX11_rehearse_75 rfl rfl rfl ?_
              exact go_wk (by simp [lvle, rg1, alb, bi, c64]) (loop1 0 (Nat.zero_le _))
            · refine go_iconst (v := nI 1) dX11_rehearse_67 (by decide) ?_
              refine go_goto 72 dX11_rehearse_68 (by decide) ?_
              refine go_istore (lv' := [_, _, _, _, _, _, _]) dX11_rehearse_72 rfl rfl rfl ?_
              refine go_iconst (v := nI 0) dX11_rehearse_74 (by decide) ?_
              refine go_istore (lv' := [_, _, _, _, _, _, _]) dX11_rehearse_75 rfl rfl rfl ?_
              exact go_wk (by simp [lvle, rg1, alb, bi, c64]) (loop1 0 (Nat.zero_le _))
          · refine go_bipush (v := -2) dX11_rehearse_50 (by decide) ?_
            refine go_iret dX11_rehearse_52 rfl rfl ?_
            exact ⟨by simp +decide [M_rehearse, c9, ex, c21, ey, c29, ez, c36, c47], by simp +decide [M_rehearse, c9, ex, c21, ey, c29, ez, c36, c47]⟩
      · refine go_iconst (v := -1) dX11_rehearse_32 (by decide) ?_
        refine go_iret dX11_rehearse_33 rfl rfl ?_
        exact ⟨by simp +decide [M_rehearse, c9, ex, c21, ey, c29], by simp +decide [M_rehearse, c9, ex, c21, ey, c29]⟩
def M_hall (σ : wg_S) (p q : Int32) : Int32 := if wi p (nI 0) (nI 3) = false then -1 else if wi q (nI 0) (nI 23) = false then -1 else σ 81 (24 * p.toNatClampNeg + q.toNatClampNeg) - nI 1
theorem cX11_hall_ok (κ : gm_K) (b : Bool) (σ : wg_S) (p q : Int32) : Fn κ mX11_hall [.ref 47, .int p, .int q] (gg b) σ (some (.int (M_hall σ p q))) (gg b) σ := by
  refine go_start (by decide) (Nat.le_of_ble_eq_true rfl) ?_
  refine go_iload_n dX11_hall_0 rfl ?_
  refine go_i2l dX11_hall_1 ?_
  refine go_lconst (v := 0) dX11_hall_2 (by decide) ?_
  refine go_ldc2 dX11_hall_3 klX11_156 ?_
  refine gs_callSi dX11_hall_6 csX11_hall_145 (cX11_isIn_ok κ b σ _ (nI 0) (nI 3) _ _ (by decide) (by decide)) rfl rfl rfl ⟨rfl, rfl⟩ rfl ?_
  refine go_if_eqB 40 dX11_hall_9 (by decide) (fun c9 => ?_) (fun c9 => ?_)
  · refine go_iconst (v := -1) dX11_hall_40 (by decide) ?_
    refine go_iret dX11_hall_41 rfl rfl ?_
    exact ⟨by simp +decide [c9, M_hall], rfl⟩
  · have hx' := c9
    rw [wi_hs _ 3 (by decide)] at hx'
    obtain ⟨x, hx, rfl⟩ := hs_ix (by decide) hx'
    have ex := nI_clamp (show x < 2 ^ 31 by omega)
    refine go_iload_n dX11_hall_12 rfl ?_
    refine go_i2l dX11_hall_13 ?_
    refine go_lconst (v := 0) dX11_hall_14 (by decide) ?_
    refine go_ldc2 dX11_hall_15 klX11_299 ?_
    refine gs_callSi dX11_hall_18 csX11_hall_145 (cX11_isIn_ok κ b σ _ (nI 0) (nI 23) _ _ (by decide) (by decide)) rfl rfl rfl ⟨rfl, rfl⟩ rfl ?_
    refine go_if_eqB 40 dX11_hall_21 (by decide) (fun c21 => ?_) (fun c21 => ?_)
    · refine go_iconst (v := -1) dX11_hall_40 (by decide) ?_
      refine go_iret dX11_hall_41 rfl rfl ?_
      exact ⟨by simp +decide [c9, ex, c21, M_hall], rfl⟩
    · have hy' := c21
      rw [wi_hs _ 23 (by decide)] at hy'
      obtain ⟨y, hy, rfl⟩ := hs_ix (by decide) hy'
      have ey := nI_clamp (show y < 2 ^ 31 by omega)
      refine go_aload_n dX11_hall_24 rfl ?_
      refine gs_gr dX11_hall_25 flX11_119 (gg_47 b) rfl ?_
      refine go_bipush (v := nI 24) dX11_hall_28 (by decide) ?_
      refine go_iload_n dX11_hall_30 rfl ?_
      refine go_imulN dX11_hall_31 ?_
      refine go_iload_n dX11_hall_32 rfl ?_
      refine go_iaddN dX11_hall_33 ?_
      refine gs_iald (_) dX11_hall_34 (gg_81 b) (rfl) (by omega) rfl (rfl) ?_
      refine go_iconst (v := nI 1) dX11_hall_35 (by decide) ?_
      refine go_isub dX11_hall_36 ?_
      refine go_goto 41 dX11_hall_37 (by decide) ?_
      refine go_iret dX11_hall_41 rfl rfl ?_
      exact ⟨by simp +decide [c9, ex, c21, ey, M_hall], rfl⟩
def anb (f : Nat → Bool) : Nat → Bool
  | 0 => false
  | k + 1 => anb f k || f k
def mwo (σ : wg_S) (x i : Nat) : Int32 := orf (fun k => if σ 81 k = nI (x + 1) then σ 82 k else nI 0) i
def mwa (σ : wg_S) (j r x c : Nat) : Bool := decide (mvd σ j r c x = 0)
def mwb (σ : wg_S) (j r x : Nat) (w : Int32) (c : Nat) : Bool := !decide (mvd σ j r c x = 0) || decide (bv w c = nI 1)
def M_whole (σ : wg_S) (n j r : Nat) (s : Int32) : Int32 := if hs (σ 47 11) s = false then -1 else bi (anb (mwa σ j r s.toNatClampNeg) n && alb (mwb σ j r s.toNatClampNeg (mwo σ s.toNatClampNeg 96)) n)
theorem cX11_whole_ok (κ : gm_K) (b : Bool) (σ : wg_S) (n m j r : Nat) (C : MI σ n m j r) (s : Int32) : Fn κ mX11_whole [.ref 47, .int s] (gg b) σ (some (.int (M_whole σ n j r s))) (gg b) σ := by
  refine go_start (by decide) (Nat.le_of_ble_eq_true rfl) ?_
  obtain ⟨⟨hN, hn⟩, ⟨hM, hm⟩, ⟨hJ, hj⟩, ⟨hR, hr⟩, hT, hX⟩ := id C
  refine go_aload_n dX11_whole_0 rfl ?_
  refine go_iload_n dX11_whole_1 rfl ?_
  refine gs_callVi dX11_whole_2 cvX11_whole_255 (cX11_isSong_ok κ b σ _) rfl (gg_47 b) rfl rfl rfl ⟨rfl, rfl⟩ rfl ?_
  refine go_if_neB 10 dX11_whole_5 (by decide) (fun c5 => ?_) (fun c5 => ?_)
  · obtain ⟨x, hx, rfl⟩ := hs_ix (by omega) (hM ▸ c5)
    have ex := nI_clamp (show x < 2 ^ 31 by omega)
    refine go_iconst (v := nI 0) dX11_whole_10 (by decide) ?_
    refine go_istore_n (lv' := [_, _, _, _, _, _, _]) dX11_whole_11 rfl rfl rfl ?_
    refine go_iconst (v := nI 0) dX11_whole_12 (by decide) ?_
    refine go_istore_n (lv' := [_, _, _, _, _, _, _]) dX11_whole_13 rfl rfl rfl ?_
    have hK : M_whole σ n j r (nI x) = bi (anb (mwa σ j r x) n && alb (mwb σ j r x (mwo σ x 96)) n) := by rw [M_whole, if_neg (by simp [c5]), ex]
    have loop2 : ∀ i, i ≤ n → Go κ mX11_whole 59 [some (.ref 47), some (.int (nI x)), some (.int (mwo σ x 96)), some (.int (bi (anb (mwa σ j r x) i))), some (.int (bi (alb (mwb σ j r x (mwo σ x 96)) i))), some (.int (nI i)), none] [] (wd (gg b) σ) (0, 0) (fun w h' => w = some (.int (M_whole σ n j r (nI x))) ∧ h' = wd (gg b) σ) := by
      generalize mwo σ x 96 = ww at hK ⊢
      refine lo_up n (fun i hi ih => ?_)
      have hs1 : anb (mwa σ j r x) (i + 1) = (anb (mwa σ j r x) i || mwa σ j r x i) := rfl
      have hs2 : alb (mwb σ j r x ww) (i + 1) = (alb (mwb σ j r x ww) i && mwb σ j r x ww i) := rfl
      rw [mwa] at hs1
      rw [mwb] at hs2
      cases hb : anb (mwa σ j r x) i with
      | false =>
        rw [hb] at hs1
        cases hd : alb (mwb σ j r x ww) i with
        | false =>
          rw [hd] at hs2
          refine go_iload dX11_whole_59 rfl ?_
          refine go_aload_n dX11_whole_61 rfl ?_
          refine gs_gi dX11_whole_62 flX11_134 (gg_47 b) rfl (hN) ?_
          refine go_icmp_geN 133 dX11_whole_65 (by decide) (by omega) (by omega) (fun c65 => ?_) (fun c65 => ?_)
          · refine go_iload_n dX11_whole_133 rfl ?_
            refine go_if_eq 146 dX11_whole_134 (by decide) (fun _ => ?_) (fun z => absurd z (by decide))
            refine go_iconst (v := nI 0) dX11_whole_146 (by decide) ?_
            refine go_iret dX11_whole_147 rfl rfl ?_
            have e : i = n := by omega
            subst e
            rw [hK, hb, hd]
            exact ⟨rfl, rfl⟩
          · refine go_aload_n dX11_whole_68 rfl ?_
            refine go_iload dX11_whole_69 rfl ?_
            refine go_iload_n dX11_whole_71 rfl ?_
            refine gs_callVi dX11_whole_72 cvX11_whole_258 (cX11_mayOf_ok κ b σ n m j r C i x c65 hx) rfl (gg_47 b) rfl rfl rfl ⟨rfl, rfl⟩ rfl ?_
            refine go_if_ne 82 dX11_whole_75 (by decide) (fun c75 => ?_) (fun c75 => ?_)
            · refine go_iconst (v := nI 0) dX11_whole_82 (by decide) ?_
              refine go_istore (lv' := [_, _, _, _, _, _, _]) dX11_whole_83 rfl rfl rfl ?_
              refine go_iload_n dX11_whole_85 rfl ?_
              refine go_if_ne 94 dX11_whole_86 (by decide) (fun z => absurd z (by decide)) (fun _ => ?_)
              refine go_iload dX11_whole_89 rfl ?_
              refine go_if_eq 98 dX11_whole_91 (by decide) (fun _ => ?_) (fun z => absurd z (by decide))
              refine go_iconst (v := nI 0) dX11_whole_98 (by decide) ?_
              refine go_istore_n (lv' := [_, _, _, _, _, _, _]) dX11_whole_99 rfl rfl rfl ?_
              refine go_iload dX11_whole_100 rfl ?_
              refine go_if_eq 124 dX11_whole_102 (by decide) (fun _ => ?_) (fun z => absurd z (by decide))
              refine go_iconst (v := nI 0) dX11_whole_124 (by decide) ?_
              refine go_istore (lv' := [_, _, _, _, _, _, _]) dX11_whole_125 rfl rfl rfl ?_
              refine go_iincN (lv' := [_, _, _, _, _, _, _]) 1 dX11_whole_127 (by decide) rfl rfl rfl rfl ?_
              refine go_goto 59 dX11_whole_130 (by decide) ?_
              exact go_wk (by rw [hs1, hs2]; simp +decide [lvle, bi, nI_0, bv, c65, c75]) (ih c65)
            · refine go_iconst (v := nI 1) dX11_whole_78 (by decide) ?_
              refine go_goto 83 dX11_whole_79 (by decide) ?_
              refine go_istore (lv' := [_, _, _, _, _, _, _]) dX11_whole_83 rfl rfl rfl ?_
              refine go_iload_n dX11_whole_85 rfl ?_
              refine go_if_ne 94 dX11_whole_86 (by decide) (fun z => absurd z (by decide)) (fun _ => ?_)
              refine go_iload dX11_whole_89 rfl ?_
              refine go_if_eq 98 dX11_whole_91 (by decide) (fun z => absurd z (by decide)) (fun _ => ?_)
              refine go_iconst (v := nI 1) dX11_whole_94 (by decide) ?_
              refine go_goto 99 dX11_whole_95 (by decide) ?_
              refine go_istore_n (lv' := [_, _, _, _, _, _, _]) dX11_whole_99 rfl rfl rfl ?_
              refine go_iload dX11_whole_100 rfl ?_
              refine go_if_eq 124 dX11_whole_102 (by decide) (fun _ => ?_) (fun z => absurd z (by decide))
              refine go_iconst (v := nI 0) dX11_whole_124 (by decide) ?_
              refine go_istore (lv' := [_, _, _, _, _, _, _]) dX11_whole_125 rfl rfl rfl ?_
              refine go_iincN (lv' := [_, _, _, _, _, _, _]) 1 dX11_whole_127 (by decide) rfl rfl rfl rfl ?_
              refine go_goto 59 dX11_whole_130 (by decide) ?_
              exact go_wk (by rw [hs1, hs2]; simp +decide [lvle, bi, nI_0, bv, c65, c75]) (ih c65)
        | true =>
          rw [hd] at hs2
          refine go_iload dX11_whole_59 rfl ?_
          refine go_aload_n dX11_whole_61 rfl ?_
          refine gs_gi dX11_whole_62 flX11_134 (gg_47 b) rfl (hN) ?_
          refine go_icmp_geN 133 dX11_whole_65 (by decide) (by omega) (by omega) (fun c65 => ?_) (fun c65 => ?_)
          · refine go_iload_n dX11_whole_133 rfl ?_
            refine go_if_eq 146 dX11_whole_134 (by decide) (fun _ => ?_) (fun z => absurd z (by decide))
            refine go_iconst (v := nI 0) dX11_whole_146 (by decide) ?_
            refine go_iret dX11_whole_147 rfl rfl ?_
            have e : i = n := by omega
            subst e
            rw [hK, hb, hd]
            exact ⟨rfl, rfl⟩
          · refine go_aload_n dX11_whole_68 rfl ?_
            refine go_iload dX11_whole_69 rfl ?_
            refine go_iload_n dX11_whole_71 rfl ?_
            refine gs_callVi dX11_whole_72 cvX11_whole_258 (cX11_mayOf_ok κ b σ n m j r C i x c65 hx) rfl (gg_47 b) rfl rfl rfl ⟨rfl, rfl⟩ rfl ?_
            refine go_if_ne 82 dX11_whole_75 (by decide) (fun c75 => ?_) (fun c75 => ?_)
            · refine go_iconst (v := nI 0) dX11_whole_82 (by decide) ?_
              refine go_istore (lv' := [_, _, _, _, _, _, _]) dX11_whole_83 rfl rfl rfl ?_
              refine go_iload_n dX11_whole_85 rfl ?_
              refine go_if_ne 94 dX11_whole_86 (by decide) (fun z => absurd z (by decide)) (fun _ => ?_)
              refine go_iload dX11_whole_89 rfl ?_
              refine go_if_eq 98 dX11_whole_91 (by decide) (fun _ => ?_) (fun z => absurd z (by decide))
              refine go_iconst (v := nI 0) dX11_whole_98 (by decide) ?_
              refine go_istore_n (lv' := [_, _, _, _, _, _, _]) dX11_whole_99 rfl rfl rfl ?_
              refine go_iload dX11_whole_100 rfl ?_
              refine go_if_eq 124 dX11_whole_102 (by decide) (fun z => absurd z (by decide)) (fun _ => ?_)
              refine go_iload dX11_whole_105 rfl ?_
              refine go_if_eq 120 dX11_whole_107 (by decide) (fun _ => ?_) (fun z => absurd z (by decide))
              refine go_iconst (v := nI 1) dX11_whole_120 (by decide) ?_
              refine go_goto 125 dX11_whole_121 (by decide) ?_
              refine go_istore (lv' := [_, _, _, _, _, _, _]) dX11_whole_125 rfl rfl rfl ?_
              refine go_iincN (lv' := [_, _, _, _, _, _, _]) 1 dX11_whole_127 (by decide) rfl rfl rfl rfl ?_
              refine go_goto 59 dX11_whole_130 (by decide) ?_
              exact go_wk (by rw [hs1, hs2]; simp +decide [lvle, bi, nI_0, bv, c65, c75]) (ih c65)
            · refine go_iconst (v := nI 1) dX11_whole_78 (by decide) ?_
              refine go_goto 83 dX11_whole_79 (by decide) ?_
              refine go_istore (lv' := [_, _, _, _, _, _, _]) dX11_whole_83 rfl rfl rfl ?_
              refine go_iload_n dX11_whole_85 rfl ?_
              refine go_if_ne 94 dX11_whole_86 (by decide) (fun z => absurd z (by decide)) (fun _ => ?_)
              refine go_iload dX11_whole_89 rfl ?_
              refine go_if_eq 98 dX11_whole_91 (by decide) (fun z => absurd z (by decide)) (fun _ => ?_)
              refine go_iconst (v := nI 1) dX11_whole_94 (by decide) ?_
              refine go_goto 99 dX11_whole_95 (by decide) ?_
              refine go_istore_n (lv' := [_, _, _, _, _, _, _]) dX11_whole_99 rfl rfl rfl ?_
              refine go_iload dX11_whole_100 rfl ?_
              refine go_if_eq 124 dX11_whole_102 (by decide) (fun z => absurd z (by decide)) (fun _ => ?_)
              refine go_iload dX11_whole_105 rfl ?_
              refine go_if_eq 120 dX11_whole_107 (by decide) (fun z => absurd z (by decide)) (fun _ => ?_)
              refine go_iload_n dX11_whole_110 rfl ?_
              refine go_iload dX11_whole_111 rfl ?_
              refine go_ishr dX11_whole_113 ?_
              refine go_iconst (v := nI 1) dX11_whole_114 (by decide) ?_
              refine go_iand dX11_whole_115 ?_
              refine go_iconst (v := nI 1) dX11_whole_116 (by decide) ?_
              refine go_icmp_ne 124 dX11_whole_117 (by decide) (fun c117 => ?_) (fun c117 => ?_)
              · refine go_iconst (v := nI 0) dX11_whole_124 (by decide) ?_
                refine go_istore (lv' := [_, _, _, _, _, _, _]) dX11_whole_125 rfl rfl rfl ?_
                refine go_iincN (lv' := [_, _, _, _, _, _, _]) 1 dX11_whole_127 (by decide) rfl rfl rfl rfl ?_
                refine go_goto 59 dX11_whole_130 (by decide) ?_
                exact go_wk (by rw [hs1, hs2]; simp +decide [lvle, bi, nI_0, bv, c65, c75, c117]) (ih c65)
              · refine go_iconst (v := nI 1) dX11_whole_120 (by decide) ?_
                refine go_goto 125 dX11_whole_121 (by decide) ?_
                refine go_istore (lv' := [_, _, _, _, _, _, _]) dX11_whole_125 rfl rfl rfl ?_
                refine go_iincN (lv' := [_, _, _, _, _, _, _]) 1 dX11_whole_127 (by decide) rfl rfl rfl rfl ?_
                refine go_goto 59 dX11_whole_130 (by decide) ?_
                exact go_wk (by rw [hs1, hs2]; simp +decide [lvle, bi, nI_0, bv, c65, c75, c117]) (ih c65)
      | true =>
        rw [hb] at hs1
        cases hd : alb (mwb σ j r x ww) i with
        | false =>
          rw [hd] at hs2
          refine go_iload dX11_whole_59 rfl ?_
          refine go_aload_n dX11_whole_61 rfl ?_
          refine gs_gi dX11_whole_62 flX11_134 (gg_47 b) rfl (hN) ?_
          refine go_icmp_geN 133 dX11_whole_65 (by decide) (by omega) (by omega) (fun c65 => ?_) (fun c65 => ?_)
          · refine go_iload_n dX11_whole_133 rfl ?_
            refine go_if_eq 146 dX11_whole_134 (by decide) (fun z => absurd z (by decide)) (fun _ => ?_)
            refine go_iload dX11_whole_137 rfl ?_
            refine go_if_eq 146 dX11_whole_139 (by decide) (fun _ => ?_) (fun z => absurd z (by decide))
            refine go_iconst (v := nI 0) dX11_whole_146 (by decide) ?_
            refine go_iret dX11_whole_147 rfl rfl ?_
            have e : i = n := by omega
            subst e
            rw [hK, hb, hd]
            exact ⟨rfl, rfl⟩
          · refine go_aload_n dX11_whole_68 rfl ?_
            refine go_iload dX11_whole_69 rfl ?_
            refine go_iload_n dX11_whole_71 rfl ?_
            refine gs_callVi dX11_whole_72 cvX11_whole_258 (cX11_mayOf_ok κ b σ n m j r C i x c65 hx) rfl (gg_47 b) rfl rfl rfl ⟨rfl, rfl⟩ rfl ?_
            refine go_if_ne 82 dX11_whole_75 (by decide) (fun c75 => ?_) (fun c75 => ?_)
            · refine go_iconst (v := nI 0) dX11_whole_82 (by decide) ?_
              refine go_istore (lv' := [_, _, _, _, _, _, _]) dX11_whole_83 rfl rfl rfl ?_
              refine go_iload_n dX11_whole_85 rfl ?_
              refine go_if_ne 94 dX11_whole_86 (by decide) (fun _ => ?_) (fun z => absurd z (by decide))
              refine go_iconst (v := nI 1) dX11_whole_94 (by decide) ?_
              refine go_goto 99 dX11_whole_95 (by decide) ?_
              refine go_istore_n (lv' := [_, _, _, _, _, _, _]) dX11_whole_99 rfl rfl rfl ?_
              refine go_iload dX11_whole_100 rfl ?_
              refine go_if_eq 124 dX11_whole_102 (by decide) (fun _ => ?_) (fun z => absurd z (by decide))
              refine go_iconst (v := nI 0) dX11_whole_124 (by decide) ?_
              refine go_istore (lv' := [_, _, _, _, _, _, _]) dX11_whole_125 rfl rfl rfl ?_
              refine go_iincN (lv' := [_, _, _, _, _, _, _]) 1 dX11_whole_127 (by decide) rfl rfl rfl rfl ?_
              refine go_goto 59 dX11_whole_130 (by decide) ?_
              exact go_wk (by rw [hs1, hs2]; simp +decide [lvle, bi, nI_0, bv, c65, c75]) (ih c65)
            · refine go_iconst (v := nI 1) dX11_whole_78 (by decide) ?_
              refine go_goto 83 dX11_whole_79 (by decide) ?_
              refine go_istore (lv' := [_, _, _, _, _, _, _]) dX11_whole_83 rfl rfl rfl ?_
              refine go_iload_n dX11_whole_85 rfl ?_
              refine go_if_ne 94 dX11_whole_86 (by decide) (fun _ => ?_) (fun z => absurd z (by decide))
              refine go_iconst (v := nI 1) dX11_whole_94 (by decide) ?_
              refine go_goto 99 dX11_whole_95 (by decide) ?_
              refine go_istore_n (lv' := [_, _, _, _, _, _, _]) dX11_whole_99 rfl rfl rfl ?_
              refine go_iload dX11_whole_100 rfl ?_
              refine go_if_eq 124 dX11_whole_102 (by decide) (fun _ => ?_) (fun z => absurd z (by decide))
              refine go_iconst (v := nI 0) dX11_whole_124 (by decide) ?_
              refine go_istore (lv' := [_, _, _, _, _, _, _]) dX11_whole_125 rfl rfl rfl ?_
              refine go_iincN (lv' := [_, _, _, _, _, _, _]) 1 dX11_whole_127 (by decide) rfl rfl rfl rfl ?_
              refine go_goto 59 dX11_whole_130 (by decide) ?_
              exact go_wk (by rw [hs1, hs2]; simp +decide [lvle, bi, nI_0, bv, c65, c75]) (ih c65)
        | true =>
          rw [hd] at hs2
          refine go_iload dX11_whole_59 rfl ?_
          refine go_aload_n dX11_whole_61 rfl ?_
          refine gs_gi dX11_whole_62 flX11_134 (gg_47 b) rfl (hN) ?_
          refine go_icmp_geN 133 dX11_whole_65 (by decide) (by omega) (by omega) (fun c65 => ?_) (fun c65 => ?_)
          · refine go_iload_n dX11_whole_133 rfl ?_
            refine go_if_eq 146 dX11_whole_134 (by decide) (fun z => absurd z (by decide)) (fun _ => ?_)
            refine go_iload dX11_whole_137 rfl ?_
            refine go_if_eq 146 dX11_whole_139 (by decide) (fun z => absurd z (by decide)) (fun _ => ?_)
            refine go_iconst (v := nI 1) dX11_whole_142 (by decide) ?_
            refine go_goto 147 dX11_whole_143 (by decide) ?_
            refine go_iret dX11_whole_147 rfl rfl ?_
            have e : i = n := by omega
            subst e
            rw [hK, hb, hd]
            exact ⟨rfl, rfl⟩
          · refine go_aload_n dX11_whole_68 rfl ?_
            refine go_iload dX11_whole_69 rfl ?_
            refine go_iload_n dX11_whole_71 rfl ?_
            refine gs_callVi dX11_whole_72 cvX11_whole_258 (cX11_mayOf_ok κ b σ n m j r C i x c65 hx) rfl (gg_47 b) rfl rfl rfl ⟨rfl, rfl⟩ rfl ?_
            refine go_if_ne 82 dX11_whole_75 (by decide) (fun c75 => ?_) (fun c75 => ?_)
            · refine go_iconst (v := nI 0) dX11_whole_82 (by decide) ?_
              refine go_istore (lv' := [_, _, _, _, _, _, _]) dX11_whole_83 rfl rfl rfl ?_
              refine go_iload_n dX11_whole_85 rfl ?_
              refine go_if_ne 94 dX11_whole_86 (by decide) (fun _ => ?_) (fun z => absurd z (by decide))
              refine go_iconst (v := nI 1) dX11_whole_94 (by decide) ?_
              refine go_goto 99 dX11_whole_95 (by decide) ?_
              refine go_istore_n (lv' := [_, _, _, _, _, _, _]) dX11_whole_99 rfl rfl rfl ?_
              refine go_iload dX11_whole_100 rfl ?_
              refine go_if_eq 124 dX11_whole_102 (by decide) (fun z => absurd z (by decide)) (fun _ => ?_)
              refine go_iload dX11_whole_105 rfl ?_
              refine go_if_eq 120 dX11_whole_107 (by decide) (fun _ => ?_) (fun z => absurd z (by decide))
              refine go_iconst (v := nI 1) dX11_whole_120 (by decide) ?_
              refine go_goto 125 dX11_whole_121 (by decide) ?_
              refine go_istore (lv' := [_, _, _, _, _, _, _]) dX11_whole_125 rfl rfl rfl ?_
              refine go_iincN (lv' := [_, _, _, _, _, _, _]) 1 dX11_whole_127 (by decide) rfl rfl rfl rfl ?_
              refine go_goto 59 dX11_whole_130 (by decide) ?_
              exact go_wk (by rw [hs1, hs2]; simp +decide [lvle, bi, nI_0, bv, c65, c75]) (ih c65)
            · refine go_iconst (v := nI 1) dX11_whole_78 (by decide) ?_
              refine go_goto 83 dX11_whole_79 (by decide) ?_
              refine go_istore (lv' := [_, _, _, _, _, _, _]) dX11_whole_83 rfl rfl rfl ?_
              refine go_iload_n dX11_whole_85 rfl ?_
              refine go_if_ne 94 dX11_whole_86 (by decide) (fun _ => ?_) (fun z => absurd z (by decide))
              refine go_iconst (v := nI 1) dX11_whole_94 (by decide) ?_
              refine go_goto 99 dX11_whole_95 (by decide) ?_
              refine go_istore_n (lv' := [_, _, _, _, _, _, _]) dX11_whole_99 rfl rfl rfl ?_
              refine go_iload dX11_whole_100 rfl ?_
              refine go_if_eq 124 dX11_whole_102 (by decide) (fun z => absurd z (by decide)) (fun _ => ?_)
              refine go_iload dX11_whole_105 rfl ?_
              refine go_if_eq 120 dX11_whole_107 (by decide) (fun z => absurd z (by decide)) (fun _ => ?_)
              refine go_iload_n dX11_whole_110 rfl ?_
              refine go_iload dX11_whole_111 rfl ?_
              refine go_ishr dX11_whole_113 ?_
              refine go_iconst (v := nI 1) dX11_whole_114 (by decide) ?_
              refine go_iand dX11_whole_115 ?_
              refine go_iconst (v := nI 1) dX11_whole_116 (by decide) ?_
              refine go_icmp_ne 124 dX11_whole_117 (by decide) (fun c117 => ?_) (fun c117 => ?_)
              · refine go_iconst (v := nI 0) dX11_whole_124 (by decide) ?_
                refine go_istore (lv' := [_, _, _, _, _, _, _]) dX11_whole_125 rfl rfl rfl ?_
                refine go_iincN (lv' := [_, _, _, _, _, _, _]) 1 dX11_whole_127 (by decide) rfl rfl rfl rfl ?_
                refine go_goto 59 dX11_whole_130 (by decide) ?_
                exact go_wk (by rw [hs1, hs2]; simp +decide [lvle, bi, nI_0, bv, c65, c75, c117]) (ih c65)
              · refine go_iconst (v := nI 1) dX11_whole_120 (by decide) ?_
                refine go_goto 125 dX11_whole_121 (by decide) ?_
                refine go_istore (lv' := [_, _, _, _, _, _, _]) dX11_whole_125 rfl rfl rfl ?_
                refine go_iincN (lv' := [_, _, _, _, _, _, _]) 1 dX11_whole_127 (by decide) rfl rfl rfl rfl ?_
                refine go_goto 59 dX11_whole_130 (by decide) ?_
                exact go_wk (by rw [hs1, hs2]; simp +decide [lvle, bi, nI_0, bv, c65, c75, c117]) (ih c65)
    have loop1 : ∀ i, i ≤ 96 → Go κ mX11_whole 14 [some (.ref 47), some (.int (nI x)), some (.int (mwo σ x i)), some (.int (nI i)), none, none, none] [] (wd (gg b) σ) (0, 0) (fun w h' => w = some (.int (M_whole σ n j r (nI x))) ∧ h' = wd (gg b) σ) := by
      refine lo_up 96 (fun i hi ih => ?_)
      refine go_iload_n dX11_whole_14 rfl ?_
      refine go_bipush (v := nI 96) dX11_whole_15 (by decide) ?_
      refine go_icmp_geN 51 dX11_whole_17 (by decide) (by omega) (by omega) (fun c17 => ?_) (fun c17 => ?_)
      · refine go_iconst (v := nI 0) dX11_whole_51 (by decide) ?_
        refine go_istore_n (lv' := [_, _, _, _, _, _, _]) dX11_whole_52 rfl rfl rfl ?_
        refine go_iconst (v := nI 1) dX11_whole_53 (by decide) ?_
        refine go_istore (lv' := [_, _, _, _, _, _, _]) dX11_whole_54 rfl rfl rfl ?_
        refine go_iconst (v := nI 0) dX11_whole_56 (by decide) ?_
        refine go_istore (lv' := [_, _, _, _, _, _, _]) dX11_whole_57 rfl rfl rfl ?_
        have e : i = 96 := by omega
        subst e
        exact go_wk (by exact ⟨rfl, rfl, rfl, rfl, rfl, rfl, trivial⟩) (loop2 0 (Nat.zero_le _))
      · refine go_iload_n dX11_whole_20 rfl ?_
        refine go_aload_n dX11_whole_21 rfl ?_
        refine gs_gr dX11_whole_22 flX11_119 (gg_47 b) rfl ?_
        refine go_iload_n dX11_whole_25 rfl ?_
        refine gs_iald (_) dX11_whole_26 (gg_81 b) (rfl) (by omega) rfl (rfl) ?_
        refine go_iload_n dX11_whole_27 rfl ?_
        refine go_iconst (v := nI 1) dX11_whole_28 (by decide) ?_
        refine go_iaddN dX11_whole_29 ?_
        refine go_icmp_ne 42 dX11_whole_30 (by decide) (fun c30 => ?_) (fun c30 => ?_)
        · refine go_iconst (v := nI 0) dX11_whole_42 (by decide) ?_
          refine go_ior dX11_whole_43 ?_
          refine go_istore_n (lv' := [_, _, _, _, _, _, _]) dX11_whole_44 rfl rfl rfl ?_
          refine go_iincN (lv' := [_, _, _, _, _, _, _]) 1 dX11_whole_45 (by decide) rfl rfl rfl rfl ?_
          refine go_goto 14 dX11_whole_48 (by decide) ?_
          exact go_wk (by simp [lvle, mwo, orf, c17, c30]) (ih c17)
        · refine go_aload_n dX11_whole_33 rfl ?_
          refine gs_gr dX11_whole_34 flX11_122 (gg_47 b) rfl ?_
          refine go_iload_n dX11_whole_37 rfl ?_
          refine gs_iald (_) dX11_whole_38 (gg_82 b) (rfl) (by omega) rfl (rfl) ?_
          refine go_goto 43 dX11_whole_39 (by decide) ?_
          refine go_ior dX11_whole_43 ?_
          refine go_istore_n (lv' := [_, _, _, _, _, _, _]) dX11_whole_44 rfl rfl rfl ?_
          refine go_iincN (lv' := [_, _, _, _, _, _, _]) 1 dX11_whole_45 (by decide) rfl rfl rfl rfl ?_
          refine go_goto 14 dX11_whole_48 (by decide) ?_
          exact go_wk (by simp [lvle, mwo, orf, c17, c30]) (ih c17)
    exact go_wk (by exact ⟨rfl, rfl, rfl, rfl, trivial⟩) (loop1 0 (Nat.zero_le _))
  · refine go_iconst (v := -1) dX11_whole_8 (by decide) ?_
    refine go_iret dX11_whole_9 rfl rfl ?_
    exact ⟨by simp +decide [c5, M_whole], rfl⟩
def mtk (σ : wg_S) (n : Nat) (t : Int32) : Int32 := sm (fun i => if σ 53 i = t then msz σ i else nI 0) n
theorem cX11_takenIn_ok (κ : gm_K) (b : Bool) (σ : wg_S) (n : Nat) (hn : n ≤ 16) (hN : σ 47 0 = nI n) (t : Int32) : Fn κ mX11_takenIn [.ref 47, .int t] (gg b) σ (some (.int (sm (fun i => if σ 53 i = t then msz σ i else nI 0) n))) (gg b) σ := by
  refine go_start (by decide) (Nat.le_of_ble_eq_true rfl) ?_
  refine go_iconst (v := nI 0) dX11_takenIn_0 (by decide) ?_
  refine go_istore_n (lv' := [_, _, _, _]) dX11_takenIn_1 rfl rfl rfl ?_
  refine go_iconst (v := nI 0) dX11_takenIn_2 (by decide) ?_
  refine go_istore_n (lv' := [_, _, _, _]) dX11_takenIn_3 rfl rfl rfl ?_
  skip
  refine lo_up n (P := fun i => Go κ mX11_takenIn 4 [some (.ref 47), some (.int t), some (.int (sm (fun i => if σ 53 i = t then msz σ i else nI 0) i)), some (.int (nI i))] [] (wd (gg b) σ) (0, 0) _) (fun i hi ih => ?_) 0 (Nat.zero_le _)
  refine go_iload_n dX11_takenIn_4 rfl ?_
  refine go_aload_n dX11_takenIn_5 rfl ?_
  refine gs_gi dX11_takenIn_6 flX11_134 (gg_47 b) rfl (hN) ?_
  refine go_icmp_geN 40 dX11_takenIn_9 (by decide) (by omega) (by omega) (fun c9 => ?_) (fun c9 => ?_)
  · refine go_iload_n dX11_takenIn_40 rfl ?_
    refine go_iret dX11_takenIn_41 rfl rfl ?_
    have e : i = n := by omega
    subst e
    exact ⟨rfl, rfl⟩
  · refine go_iload_n dX11_takenIn_12 rfl ?_
    refine go_aload_n dX11_takenIn_13 rfl ?_
    refine gs_gr dX11_takenIn_14 flX11_25 (gg_47 b) rfl ?_
    refine go_iload_n dX11_takenIn_17 rfl ?_
    refine gs_iald (_) dX11_takenIn_18 (gg_53 b) (rfl) (by omega) rfl (rfl) ?_
    refine go_iload_n dX11_takenIn_19 rfl ?_
    refine go_icmp_ne 31 dX11_takenIn_20 (by decide) (fun c20 => ?_) (fun c20 => ?_)
    · refine go_iconst (v := nI 0) dX11_takenIn_31 (by decide) ?_
      refine go_iadd dX11_takenIn_32 ?_
      refine go_istore_n (lv' := [_, _, _, _]) dX11_takenIn_33 rfl rfl rfl ?_
      refine go_iincN (lv' := [_, _, _, _]) 1 dX11_takenIn_34 (by decide) rfl rfl rfl rfl ?_
      refine go_goto 4 dX11_takenIn_37 (by decide) ?_
      exact go_lv (by simp [sm, c9, c20]) (ih c9)
    · refine go_aload_n dX11_takenIn_23 rfl ?_
      refine go_iload_n dX11_takenIn_24 rfl ?_
      refine gs_callVi dX11_takenIn_25 cvX11_takenIn_197 (cX11_sizeOf_ok κ b σ i (by omega)) rfl (gg_47 b) rfl rfl rfl ⟨rfl, rfl⟩ rfl ?_
      refine go_goto 32 dX11_takenIn_28 (by decide) ?_
      refine go_iadd dX11_takenIn_32 ?_
      refine go_istore_n (lv' := [_, _, _, _]) dX11_takenIn_33 rfl rfl rfl ?_
      refine go_iincN (lv' := [_, _, _, _]) 1 dX11_takenIn_34 (by decide) rfl rfl rfl rfl ?_
      refine go_goto 4 dX11_takenIn_37 (by decide) ?_
      exact go_lv (by simp [sm, c9, c20]) (ih c9)
def M_beds (σ : wg_S) (n : Nat) (t v : Int32) : Int32 × wg_S := if hs (nI 8) t = false then (-1, σ) else if wi v (nI 0) (nI 999) = false then (-2, σ) else if ¬ mtk σ n t ≤ v then (-3, σ) else (σ 83 t.toNatClampNeg, us σ 83 t.toNatClampNeg v)
theorem cX11_beds_ok (κ : gm_K) (b : Bool) (σ : wg_S) (n m j r : Nat) (C : MI σ n m j r) (t v : Int32) : Fn κ mX11_beds [.ref 47, .int t, .int v] (gg b) σ (some (.int ((M_beds σ n t v).1))) (gg b) (M_beds σ n t v).2 := by
  refine go_start (by decide) (Nat.le_of_ble_eq_true rfl) ?_
  obtain ⟨⟨hN, hn⟩, ⟨hM, hm⟩, ⟨hJ, hj⟩, ⟨hR, hr⟩, hT, hX⟩ := id C
  refine go_iload_n dX11_beds_0 rfl ?_
  refine gs_callSi dX11_beds_1 csX11_beds_158 (cX11_isTown_ok κ b σ _) rfl rfl rfl ⟨rfl, rfl⟩ rfl ?_
  refine go_if_neB 9 dX11_beds_4 (by decide) (fun c4 => ?_) (fun c4 => ?_)
  · obtain ⟨x, hx, rfl⟩ := hs_ix (by decide) c4
    have ex := nI_clamp (show x < 2 ^ 31 by omega)
    refine go_iload_n dX11_beds_9 rfl ?_
    refine go_i2l dX11_beds_10 ?_
    refine go_lconst (v := 0) dX11_beds_11 (by decide) ?_
    refine go_ldc2 dX11_beds_12 klX11_301 ?_
    refine gs_callSi dX11_beds_15 csX11_beds_145 (cX11_isIn_ok κ b σ _ (nI 0) (nI 999) _ _ (by decide) (by decide)) rfl rfl rfl ⟨rfl, rfl⟩ rfl ?_
    refine go_if_neB 24 dX11_beds_18 (by decide) (fun c18 => ?_) (fun c18 => ?_)
    · refine go_aload_n dX11_beds_24 rfl ?_
      refine go_iload_n dX11_beds_25 rfl ?_
      refine gs_callVi dX11_beds_26 cvX11_beds_303 (cX11_takenIn_ok κ b σ n hn hN _) rfl (gg_47 b) rfl rfl rfl ⟨rfl, rfl⟩ rfl ?_
      refine go_iload_n dX11_beds_29 rfl ?_
      refine go_icmp_le 36 dX11_beds_30 (by decide) (fun c30 => ?_) (fun c30 => ?_)
      · refine go_aload_n dX11_beds_36 rfl ?_
        refine gs_gr dX11_beds_37 flX11_125 (gg_47 b) rfl ?_
        refine go_iload_n dX11_beds_40 rfl ?_
        refine gs_iald (_) dX11_beds_41 (gg_83 b) (rfl) (by omega) rfl (rfl) ?_
        refine go_istore_n (lv' := [_, _, _, _]) dX11_beds_42 rfl rfl rfl ?_
        refine go_aload_n dX11_beds_43 rfl ?_
        refine gs_gr dX11_beds_44 flX11_125 (gg_47 b) rfl ?_
        refine go_iload_n dX11_beds_47 rfl ?_
        refine go_iload_n dX11_beds_48 rfl ?_
        refine gs_iast (_) dX11_beds_49 (gg_83 b) (rfl) (by omega) rfl ?_
        refine go_iload_n dX11_beds_50 rfl ?_
        refine go_iret dX11_beds_51 rfl rfl ?_
        refine ⟨?_, ?_⟩ <;> simp +decide [c4, ex, c18, c30, M_beds, mtk]
      · refine go_bipush (v := -3) dX11_beds_33 (by decide) ?_
        refine go_iret dX11_beds_35 rfl rfl ?_
        refine ⟨?_, ?_⟩ <;> simp +decide [c4, ex, c18, c30, M_beds, mtk]
    · refine go_bipush (v := -2) dX11_beds_21 (by decide) ?_
      refine go_iret dX11_beds_23 rfl rfl ?_
      refine ⟨?_, ?_⟩ <;> simp +decide [c4, ex, c18, M_beds, mtk]
  · refine go_iconst (v := -1) dX11_beds_7 (by decide) ?_
    refine go_iret dX11_beds_8 rfl rfl ?_
    refine ⟨?_, ?_⟩ <;> simp +decide [c4, M_beds, mtk]
def M_sleep (σ : wg_S) (n : Nat) (c t : Int32) : Int32 × wg_S := if hs (σ 47 0) c = false then (-5, σ) else if t = -1 then (σ 53 c.toNatClampNeg, us σ 53 c.toNatClampNeg (-1))
  else if hs (nI 8) t = false then (-5, σ) else if t = σ 49 c.toNatClampNeg then (-3, σ) else if ¬ msz σ c.toNatClampNeg ≤ σ 83 t.toNatClampNeg - mtk (us σ 53 c.toNatClampNeg (-1)) n t then (-3, σ) else (σ 53 c.toNatClampNeg, us σ 53 c.toNatClampNeg t)
theorem lo_53 {σ : wg_S} {k : Nat} {v : Int32} (c : Nat) : msz (us σ 53 k v) c = msz σ c := by simp only [msz, us_p (show (50 : Nat) ≠ 53 by decide)]
theorem cX11_sleep_ok (κ : gm_K) (b : Bool) (σ : wg_S) (n m j r : Nat) (C : MI σ n m j r) (c t : Int32) : Fn κ mX11_sleep [.ref 47, .int c, .int t] (gg b) σ (some (.int ((M_sleep σ n c t).1))) (gg b) (M_sleep σ n c t).2 := by
  refine go_start (by decide) (Nat.le_of_ble_eq_true rfl) ?_
  obtain ⟨⟨hN, hn⟩, ⟨hM, hm⟩, ⟨hJ, hj⟩, ⟨hR, hr⟩, hT, hX⟩ := id C
  refine go_aload_n dX11_sleep_0 rfl ?_
  refine go_iload_n dX11_sleep_1 rfl ?_
  refine gs_callVi dX11_sleep_2 cvX11_sleep_162 (cX11_isChoir_ok κ b σ _) rfl (gg_47 b) rfl rfl rfl ⟨rfl, rfl⟩ rfl ?_
  refine go_if_eqB 20 dX11_sleep_5 (by decide) (fun c5 => ?_) (fun c5 => ?_)
  · refine go_bipush (v := -5) dX11_sleep_20 (by decide) ?_
    refine go_iret dX11_sleep_22 rfl rfl ?_
    rw [M_sleep, if_pos c5]; exact ⟨rfl, rfl⟩
  · obtain ⟨x, hx, rfl⟩ := hs_ix (by omega) (hN ▸ c5)
    have ex := nI_clamp (show x < 2 ^ 31 by omega)
    refine go_iload_n dX11_sleep_8 rfl ?_
    refine go_iconst (v := -1) dX11_sleep_9 (by decide) ?_
    refine go_icmp_eq 23 dX11_sleep_10 (by decide) (fun c10 => ?_) (fun c10 => ?_)
    · subst c10
      refine go_aload_n dX11_sleep_23 rfl ?_
      refine gs_gr dX11_sleep_24 flX11_25 (gg_47 b) rfl ?_
      refine go_iload_n dX11_sleep_27 rfl ?_
      refine gs_iald (_) dX11_sleep_28 (gg_53 b) (rfl) (by omega) rfl (rfl) ?_
      refine go_istore_n (lv' := [_, _, _, _]) dX11_sleep_29 rfl rfl rfl ?_
      refine go_aload_n dX11_sleep_30 rfl ?_
      refine gs_gr dX11_sleep_31 flX11_25 (gg_47 b) rfl ?_
      refine go_iload_n dX11_sleep_34 rfl ?_
      refine go_iconst (v := -1) dX11_sleep_35 (by decide) ?_
      refine gs_iast (_) dX11_sleep_36 (gg_53 b) (rfl) (by omega) rfl ?_
      refine go_iload_n dX11_sleep_37 rfl ?_
      refine go_iconst (v := -1) dX11_sleep_38 (by decide) ?_
      refine go_icmp_eq 82 dX11_sleep_39 (by decide) (fun _ => ?_) (fun z => absurd z (by decide))
      refine go_aload_n dX11_sleep_82 rfl ?_
      refine gs_gr dX11_sleep_83 flX11_25 (gg_47 b) rfl ?_
      refine go_iload_n dX11_sleep_86 rfl ?_
      refine go_iload_n dX11_sleep_87 rfl ?_
      refine gs_iast (_) dX11_sleep_88 (gg_53 b) (rfl) (by omega) rfl ?_
      refine go_iload_n dX11_sleep_89 rfl ?_
      refine go_iret dX11_sleep_90 rfl rfl ?_
      rw [M_sleep, if_neg (by simp [c5]), if_pos rfl, ex]
      exact ⟨rfl, congrArg (wd (gg b)) us_us⟩
    · refine go_iload_n dX11_sleep_13 rfl ?_
      refine gs_callSi dX11_sleep_14 csX11_sleep_158 (cX11_isTown_ok κ b σ _) rfl rfl rfl ⟨rfl, rfl⟩ rfl ?_
      refine go_if_neB 23 dX11_sleep_17 (by decide) (fun c17 => ?_) (fun c17 => ?_)
      · obtain ⟨y, hy, rfl⟩ := hs_ix (by decide) c17
        have ey := nI_clamp (show y < 2 ^ 31 by omega)
        have hN' : us σ 53 x (-1) 47 0 = nI n := by rw [us_p (by decide)]; exact hN
        have hz := cX11_sizeOf_ok κ b (us σ 53 x (-1)) x (by omega)
        rw [lo_53] at hz
        refine go_aload_n dX11_sleep_23 rfl ?_
        refine gs_gr dX11_sleep_24 flX11_25 (gg_47 b) rfl ?_
        refine go_iload_n dX11_sleep_27 rfl ?_
        refine gs_iald (_) dX11_sleep_28 (gg_53 b) (rfl) (by omega) rfl (rfl) ?_
        refine go_istore_n (lv' := [_, _, _, _]) dX11_sleep_29 rfl rfl rfl ?_
        refine go_aload_n dX11_sleep_30 rfl ?_
        refine gs_gr dX11_sleep_31 flX11_25 (gg_47 b) rfl ?_
        refine go_iload_n dX11_sleep_34 rfl ?_
        refine go_iconst (v := -1) dX11_sleep_35 (by decide) ?_
        refine gs_iast (_) dX11_sleep_36 (gg_53 b) (rfl) (by omega) rfl ?_
        refine go_iload_n dX11_sleep_37 rfl ?_
        refine go_iconst (v := -1) dX11_sleep_38 (by decide) ?_
        refine go_icmp_eq 82 dX11_sleep_39 (by decide) (fun c39 => ?_) (fun c39 => ?_)
        · exact absurd c39 c10
        · refine go_iload_n dX11_sleep_42 rfl ?_
          refine go_aload_n dX11_sleep_43 rfl ?_
          refine gs_gr dX11_sleep_44 flX11_13 (gg_47 b) rfl ?_
          refine go_iload_n dX11_sleep_47 rfl ?_
          refine gs_iald (_) dX11_sleep_48 (gg_49 b) (rfl) (by omega) rfl (congrFun (us_p (by decide)) x) ?_
          refine go_icmp_eq 72 dX11_sleep_49 (by decide) (fun c49 => ?_) (fun c49 => ?_)
          · refine go_aload_n dX11_sleep_72 rfl ?_
            refine gs_gr dX11_sleep_73 flX11_25 (gg_47 b) rfl ?_
            refine go_iload_n dX11_sleep_76 rfl ?_
            refine go_iload_n dX11_sleep_77 rfl ?_
            refine gs_iast (_) dX11_sleep_78 (gg_53 b) (rfl) (by omega) rfl ?_
            refine go_bipush (v := -3) dX11_sleep_79 (by decide) ?_
            refine go_iret dX11_sleep_81 rfl rfl ?_
            rw [M_sleep, if_neg (by simp [c5]), if_neg c10, if_neg (by simp [c17]), ex, ey, if_pos c49]; exact ⟨rfl, congrArg (wd (gg b)) (us_us.trans (us_id rfl))⟩
          · refine go_aload_n dX11_sleep_52 rfl ?_
            refine gs_gr dX11_sleep_53 flX11_125 (gg_47 b) rfl ?_
            refine go_iload_n dX11_sleep_56 rfl ?_
            refine gs_iald (_) dX11_sleep_57 (gg_83 b) (rfl) (by omega) rfl (congrFun (us_p (by decide)) y) ?_
            refine go_aload_n dX11_sleep_58 rfl ?_
            refine go_iload_n dX11_sleep_59 rfl ?_
            refine gs_callVi dX11_sleep_60 cvX11_sleep_303 (cX11_takenIn_ok κ b _ n hn hN' _) rfl (gg_47 b) rfl rfl rfl ⟨rfl, rfl⟩ rfl ?_
            refine go_isub dX11_sleep_63 ?_
            refine go_aload_n dX11_sleep_64 rfl ?_
            refine go_iload_n dX11_sleep_65 rfl ?_
            refine gs_callVi dX11_sleep_66 cvX11_sleep_197 (hz) rfl (gg_47 b) rfl rfl rfl ⟨rfl, rfl⟩ rfl ?_
            refine go_icmp_ge 82 dX11_sleep_69 (by decide) (fun c69 => ?_) (fun c69 => ?_)
            · refine go_aload_n dX11_sleep_82 rfl ?_
              refine gs_gr dX11_sleep_83 flX11_25 (gg_47 b) rfl ?_
              refine go_iload_n dX11_sleep_86 rfl ?_
              refine go_iload_n dX11_sleep_87 rfl ?_
              refine gs_iast (_) dX11_sleep_88 (gg_53 b) (rfl) (by omega) rfl ?_
              refine go_iload_n dX11_sleep_89 rfl ?_
              refine go_iret dX11_sleep_90 rfl rfl ?_
              rw [M_sleep, if_neg (by simp [c5]), if_neg c10, if_neg (by simp [c17]), ex, ey, if_neg c49, if_neg (fun h => h c69)]
              exact ⟨rfl, congrArg (wd (gg b)) us_us⟩
            · refine go_aload_n dX11_sleep_72 rfl ?_
              refine gs_gr dX11_sleep_73 flX11_25 (gg_47 b) rfl ?_
              refine go_iload_n dX11_sleep_76 rfl ?_
              refine go_iload_n dX11_sleep_77 rfl ?_
              refine gs_iast (_) dX11_sleep_78 (gg_53 b) (rfl) (by omega) rfl ?_
              refine go_bipush (v := -3) dX11_sleep_79 (by decide) ?_
              refine go_iret dX11_sleep_81 rfl rfl ?_
              rw [M_sleep, if_neg (by simp [c5]), if_neg c10, if_neg (by simp [c17]), ex, ey, if_neg c49, mtk, if_pos c69]; exact ⟨rfl, congrArg (wd (gg b)) (us_us.trans (us_id rfl))⟩
      · refine go_bipush (v := -5) dX11_sleep_20 (by decide) ?_
        refine go_iret dX11_sleep_22 rfl rfl ?_
        rw [M_sleep, if_neg (by simp [c5]), if_neg c10, if_pos c17]; exact ⟨rfl, rfl⟩
