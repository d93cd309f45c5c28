def mvl (σ : wg_S) (j : Nat) (f : Int32) (c s : Nat) : Int32 := if f = 0 then (if mmc σ j c = -1 then nI 0 else mmc σ j c) else if f = nI 1 then σ 59 s else if f = nI 2 then σ 49 c else if f = nI 3 then msz σ c else σ 47 10
def mts (σ : wg_S) (t : Nat) (v : Int32) : Bool := if σ 68 t = 0 then decide (v = σ 69 t) else if σ 68 t = nI 1 then !decide (σ 69 t ≤ v) else !decide (v ≤ σ 69 t)
def mht (σ : wg_S) (j r c s t : Nat) : Bool := mts σ (2 * r + t) (mvl σ j (σ 67 (2 * r + t)) c s)
def mhk (σ : wg_S) (r c : Nat) : Bool := decide (σ 65 r = nI 6) || decide (σ 65 r = σ 48 c)
def mhl (σ : wg_S) (j r c s : Nat) : Bool := mhk σ r c && alb (mht σ j r c s) (mtn σ r)
def mrl (σ : wg_S) (j c s : Nat) : Nat → Option Nat
  | 0 => none
  | k + 1 => if mhl σ j k c s then some k else mrl σ j c s k
theorem mrl_lt {σ : wg_S} {j c s : Nat} : ∀ {k x : Nat}, mrl σ j c s k = some x → x < k
  | 0, x, h => by simp [mrl] at h
  | k + 1, x, h => by
    rw [show mrl σ j c s (k + 1) = if mhl σ j k c s then some k else mrl σ j c s k from rfl] at h
    by_cases hc : mhl σ j k c s = true
    · rw [if_pos hc] at h; cases h; omega
    · rw [if_neg hc] at h; have := mrl_lt h; omega
def mvo (σ : wg_S) (c s v : Nat) : Bool := !decide (bv (σ 58 s) v = nI 1) || !decide (σ 50 (4 * c + v) = 0)
def mvd (σ : wg_S) (j r c s : Nat) : Int32 :=
  if mth σ c = false then nI 1 else if (σ 57 s >>> (σ 48 c &&& 31)) &&& nI 1 = 0 then nI 2
  else if alb (mvo σ c s) 4 = false then nI 3
  else match mrl σ j c s r with
    | none => nI 0
    | some k => if σ 64 k = 0 then nI 0 else nI 4
theorem cX11_holds_ok (κ : gm_K) (b : Bool) (σ : wg_S) (n m j r : Nat) (C : MI σ n m j r) (q : Nat) (hq : q < r) (c s : Nat) (hc : c < n) (hs : s < m) : Fn κ mX11_holds [.ref 47, .int (nI q), .int (nI c), .int (nI s)] (gg b) σ (some (.int (bi (mhl σ j q c s)))) (gg b) σ := by
  refine go_start (by decide) (Nat.le_of_ble_eq_true rfl) ?_
  obtain ⟨⟨hN, hn⟩, ⟨hM, hm⟩, ⟨hJ, hj⟩, ⟨hR, hr⟩, hT, hX⟩ := id C
  obtain ⟨hT1, hT2⟩ := hT q hq
  have loop : ∀ (i : Nat), i ≤ mtn σ q → Go κ mX11_holds 38 [some (.ref 47), some (.int (nI q)), some (.int (nI c)), some (.int (nI s)), some (.int (bi (mhk σ q c && alb (mht σ j q c s) i))), some (.int (nI (2 * q + i))), none, none, none, none] [] (wd (gg b) σ) (0, 0) (fun z h' => z = some (.int (bi (mhl σ j q c s))) ∧ h' = wd (gg b) σ) := by
    refine lo_up (mtn σ q) (fun i hi ih => ?_)
    have tail : i < mtn σ q → Go κ mX11_holds 137 [some (.ref 47), some (.int (nI q)), some (.int (nI c)), some (.int (nI s)), some (.int (bi (mhk σ q c && alb (mht σ j q c s) i))), some (.int (nI (2 * q + i))), none, none, none, none] [.int (mvl σ j (σ 67 (2 * q + i)) c s)] (wd (gg b) σ) (0, 0) (fun z h' => z = some (.int (bi (mhl σ j q c s))) ∧ h' = wd (gg b) σ) := by
      intro hlt
      have hs1 : alb (mht σ j q c s) (i + 1) = (alb (mht σ j q c s) i && mts σ (2 * q + i) (mvl σ j (σ 67 (2 * q + i)) c s)) := rfl
      generalize mvl σ j (σ 67 (2 * q + i)) c s = v at hs1 ⊢
      cases hb : (mhk σ q c && alb (mht σ j q c s) i) with
      | false =>
        have hb' : (mhk σ q c && alb (mht σ j q c s) (i + 1)) = false := by rw [hs1, ← Bool.and_assoc, hb]; rfl
        refine go_istore (lv' := [_, _, _, _, _, _, _, _, _, _]) dX11_holds_137 rfl rfl rfl ?_
        refine go_aload_n dX11_holds_139 rfl ?_
        refine gs_gr dX11_holds_140 flX11_75 (gg_47 b) rfl ?_
        refine go_iload dX11_holds_143 rfl ?_
        refine gs_iald (_) dX11_holds_145 (gg_69 b) (rfl) (by omega) rfl (rfl) ?_
        refine go_istore (lv' := [_, _, _, _, _, _, _, _, _, _]) dX11_holds_146 rfl rfl rfl ?_
        refine go_iload dX11_holds_148 rfl ?_
        refine go_if_eq 205 dX11_holds_150 (by decide) (fun _ => ?_) (fun z => absurd z (by decide))
        refine go_iconst (v := nI 0) dX11_holds_205 (by decide) ?_
        refine go_istore (lv' := [_, _, _, _, _, _, _, _, _, _]) dX11_holds_206 rfl rfl rfl ?_
        refine go_iincN (lv' := [_, _, _, _, _, _, _, _, _, _]) 1 dX11_holds_208 (by decide) rfl rfl rfl rfl ?_
        refine go_goto 38 dX11_holds_211 (by decide) ?_
        exact go_wk (by rw [hb']; exact ⟨rfl, rfl, rfl, rfl, rfl, rfl, trivial⟩) (ih hlt)
      | true =>
        have hb' : (mhk σ q c && alb (mht σ j q c s) (i + 1)) = mts σ (2 * q + i) v := by rw [hs1, ← Bool.and_assoc, hb]; rfl
        refine go_istore (lv' := [_, _, _, _, _, _, _, _, _, _]) dX11_holds_137 rfl rfl rfl ?_
        refine go_aload_n dX11_holds_139 rfl ?_
        refine gs_gr dX11_holds_140 flX11_75 (gg_47 b) rfl ?_
        refine go_iload dX11_holds_143 rfl ?_
        refine gs_iald (_) dX11_holds_145 (gg_69 b) (rfl) (by omega) rfl (rfl) ?_
        refine go_istore (lv' := [_, _, _, _, _, _, _, _, _, _]) dX11_holds_146 rfl rfl rfl ?_
        refine go_iload dX11_holds_148 rfl ?_
        refine go_if_eq 205 dX11_holds_150 (by decide) (fun z => absurd z (by decide)) (fun _ => ?_)
        refine go_aload_n dX11_holds_153 rfl ?_
        refine gs_gr dX11_holds_154 flX11_72 (gg_47 b) rfl ?_
        refine go_iload dX11_holds_157 rfl ?_
        refine gs_iald (_) dX11_holds_159 (gg_68 b) (rfl) (by omega) rfl (rfl) ?_
        refine go_if_ne 173 dX11_holds_160 (by decide) (fun c160 => ?_) (fun c160 => ?_)
        · refine go_aload_n dX11_holds_173 rfl ?_
          refine gs_gr dX11_holds_174 flX11_72 (gg_47 b) rfl ?_
          refine go_iload dX11_holds_177 rfl ?_
          refine gs_iald (_) dX11_holds_179 (gg_68 b) (rfl) (by omega) rfl (rfl) ?_
          refine go_iconst (v := nI 1) dX11_holds_180 (by decide) ?_
          refine go_icmp_ne 194 dX11_holds_181 (by decide) (fun c181 => ?_) (fun c181 => ?_)
          · refine go_iload dX11_holds_194 rfl ?_
            refine go_iload dX11_holds_196 rfl ?_
            refine go_icmp_le 205 dX11_holds_198 (by decide) (fun c198 => ?_) (fun c198 => ?_)
            · refine go_iconst (v := nI 0) dX11_holds_205 (by decide) ?_
              refine go_istore (lv' := [_, _, _, _, _, _, _, _, _, _]) dX11_holds_206 rfl rfl rfl ?_
              refine go_iincN (lv' := [_, _, _, _, _, _, _, _, _, _]) 1 dX11_holds_208 (by decide) rfl rfl rfl rfl ?_
              refine go_goto 38 dX11_holds_211 (by decide) ?_
              exact go_wk (by rw [hb', mts]; simp +decide [lvle, bi, nI_0, Nat.add_assoc, c160, c181, c198]) (ih hlt)
            · refine go_iconst (v := nI 1) dX11_holds_201 (by decide) ?_
              refine go_goto 206 dX11_holds_202 (by decide) ?_
              refine go_istore (lv' := [_, _, _, _, _, _, _, _, _, _]) dX11_holds_206 rfl rfl rfl ?_
              refine go_iincN (lv' := [_, _, _, _, _, _, _, _, _, _]) 1 dX11_holds_208 (by decide) rfl rfl rfl rfl ?_
              refine go_goto 38 dX11_holds_211 (by decide) ?_
              exact go_wk (by rw [hb', mts]; simp +decide [lvle, bi, nI_0, Nat.add_assoc, c160, c181, c198]) (ih hlt)
          · refine go_iload dX11_holds_184 rfl ?_
            refine go_iload dX11_holds_186 rfl ?_
            refine go_icmp_ge 205 dX11_holds_188 (by decide) (fun c188 => ?_) (fun c188 => ?_)
            · refine go_iconst (v := nI 0) dX11_holds_205 (by decide) ?_
              refine go_istore (lv' := [_, _, _, _, _, _, _, _, _, _]) dX11_holds_206 rfl rfl rfl ?_
              refine go_iincN (lv' := [_, _, _, _, _, _, _, _, _, _]) 1 dX11_holds_208 (by decide) rfl rfl rfl rfl ?_
              refine go_goto 38 dX11_holds_211 (by decide) ?_
              exact go_wk (by rw [hb', mts]; simp +decide [lvle, bi, nI_0, Nat.add_assoc, c160, c181, c188]) (ih hlt)
            · refine go_goto 201 dX11_holds_191 (by decide) ?_
              refine go_iconst (v := nI 1) dX11_holds_201 (by decide) ?_
              refine go_goto 206 dX11_holds_202 (by decide) ?_
              refine go_istore (lv' := [_, _, _, _, _, _, _, _, _, _]) dX11_holds_206 rfl rfl rfl ?_
              refine go_iincN (lv' := [_, _, _, _, _, _, _, _, _, _]) 1 dX11_holds_208 (by decide) rfl rfl rfl rfl ?_
              refine go_goto 38 dX11_holds_211 (by decide) ?_
              exact go_wk (by rw [hb', mts]; simp +decide [lvle, bi, nI_0, Nat.add_assoc, c160, c181, c188]) (ih hlt)
        · refine go_iload dX11_holds_163 rfl ?_
          refine go_iload dX11_holds_165 rfl ?_
          refine go_icmp_ne 205 dX11_holds_167 (by decide) (fun c167 => ?_) (fun c167 => ?_)
          · refine go_iconst (v := nI 0) dX11_holds_205 (by decide) ?_
            refine go_istore (lv' := [_, _, _, _, _, _, _, _, _, _]) dX11_holds_206 rfl rfl rfl ?_
            refine go_iincN (lv' := [_, _, _, _, _, _, _, _, _, _]) 1 dX11_holds_208 (by decide) rfl rfl rfl rfl ?_
            refine go_goto 38 dX11_holds_211 (by decide) ?_
            exact go_wk (by rw [hb', mts]; simp +decide [lvle, bi, nI_0, Nat.add_assoc, c160, c167]) (ih hlt)
          · refine go_goto 201 dX11_holds_170 (by decide) ?_
            refine go_iconst (v := nI 1) dX11_holds_201 (by decide) ?_
            refine go_goto 206 dX11_holds_202 (by decide) ?_
            refine go_istore (lv' := [_, _, _, _, _, _, _, _, _, _]) dX11_holds_206 rfl rfl rfl ?_
            refine go_iincN (lv' := [_, _, _, _, _, _, _, _, _, _]) 1 dX11_holds_208 (by decide) rfl rfl rfl rfl ?_
            refine go_goto 38 dX11_holds_211 (by decide) ?_
            exact go_wk (by rw [hb', mts]; simp +decide [lvle, bi, nI_0, Nat.add_assoc, c160, c167]) (ih hlt)
    refine go_iload dX11_holds_38 rfl ?_
    refine go_iconst (v := nI 2) dX11_holds_40 (by decide) ?_
    refine go_iload_n dX11_holds_41 rfl ?_
    refine go_imulN dX11_holds_42 ?_
    refine go_aload_n dX11_holds_43 rfl ?_
    refine gs_gr dX11_holds_44 flX11_66 (gg_47 b) rfl ?_
    refine go_iload_n dX11_holds_47 rfl ?_
    refine gs_iald (_) dX11_holds_48 (gg_66 b) (rfl) (by omega) rfl (hT1) ?_
    refine go_iaddN dX11_holds_49 ?_
    refine go_icmp_geN 214 dX11_holds_50 (by decide) (by omega) (by omega) (fun c50 => ?_) (fun c50 => ?_)
    · have e : i = mtn σ q := by omega
      refine go_iload dX11_holds_214 rfl ?_
      refine go_zret dX11_holds_216 rfl rfl (bi_nar _) ?_
      subst e
      exact ⟨rfl, rfl⟩
    · have hlt : i < mtn σ q := by omega
      refine go_aload_n dX11_holds_53 rfl ?_
      refine gs_gr dX11_holds_54 flX11_69 (gg_47 b) rfl ?_
      refine go_iload dX11_holds_57 rfl ?_
      refine gs_iald (_) dX11_holds_59 (gg_67 b) (rfl) (by omega) rfl (rfl) ?_
      refine go_istore (lv' := [_, _, _, _, _, _, _, _, _, _]) dX11_holds_60 rfl rfl rfl ?_
      refine go_aload_n dX11_holds_62 rfl ?_
      refine go_iload_n dX11_holds_63 rfl ?_
      refine gs_callVi dX11_holds_64 cvX11_holds_187 (cX11_meanOf_ok κ b σ j hj hJ c (by omega)) rfl (gg_47 b) rfl rfl rfl ⟨rfl, rfl⟩ rfl ?_
      refine go_istore (lv' := [_, _, _, _, _, _, _, _, _, _]) dX11_holds_67 rfl rfl rfl ?_
      refine go_iload dX11_holds_69 rfl ?_
      refine go_if_ne 89 dX11_holds_71 (by decide) (fun c71 => ?_) (fun c71 => ?_)
      · refine go_iload dX11_holds_89 rfl ?_
        refine go_iconst (v := nI 1) dX11_holds_91 (by decide) ?_
        refine go_icmp_ne 104 dX11_holds_92 (by decide) (fun c92 => ?_) (fun c92 => ?_)
        · refine go_iload dX11_holds_104 rfl ?_
          refine go_iconst (v := nI 2) dX11_holds_106 (by decide) ?_
          refine go_icmp_ne 119 dX11_holds_107 (by decide) (fun c107 => ?_) (fun c107 => ?_)
          · refine go_iload dX11_holds_119 rfl ?_
            refine go_iconst (v := nI 3) dX11_holds_121 (by decide) ?_
            refine go_icmp_ne 133 dX11_holds_122 (by decide) (fun c122 => ?_) (fun c122 => ?_)
            · refine go_aload_n dX11_holds_133 rfl ?_
              refine gs_gi dX11_holds_134 flX11_171 (gg_47 b) rfl (rfl) ?_
              exact go_topI (show _ = mvl σ j (σ 67 (2 * q + i)) c s by simp +decide [mvl, c50, c71, c92, c107, c122]) (go_wk (by exact ⟨rfl, rfl, rfl, rfl, rfl, rfl, trivial⟩) (tail hlt))
            · refine go_aload_n dX11_holds_125 rfl ?_
              refine go_iload_n dX11_holds_126 rfl ?_
              refine gs_callVi dX11_holds_127 cvX11_holds_197 (cX11_sizeOf_ok κ b σ c (by omega)) rfl (gg_47 b) rfl rfl rfl ⟨rfl, rfl⟩ rfl ?_
              refine go_goto 137 dX11_holds_130 (by decide) ?_
              exact go_topI (show _ = mvl σ j (σ 67 (2 * q + i)) c s by simp +decide [mvl, c50, c71, c92, c107, c122]) (go_wk (by exact ⟨rfl, rfl, rfl, rfl, rfl, rfl, trivial⟩) (tail hlt))
          · refine go_aload_n dX11_holds_110 rfl ?_
            refine gs_gr dX11_holds_111 flX11_13 (gg_47 b) rfl ?_
            refine go_iload_n dX11_holds_114 rfl ?_
            refine gs_iald (_) dX11_holds_115 (gg_49 b) (rfl) (by omega) rfl (rfl) ?_
            refine go_goto 137 dX11_holds_116 (by decide) ?_
            exact go_topI (show _ = mvl σ j (σ 67 (2 * q + i)) c s by simp +decide [mvl, c50, c71, c92, c107]) (go_wk (by exact ⟨rfl, rfl, rfl, rfl, rfl, rfl, trivial⟩) (tail hlt))
        · refine go_aload_n dX11_holds_95 rfl ?_
          refine gs_gr dX11_holds_96 flX11_43 (gg_47 b) rfl ?_
          refine go_iload_n dX11_holds_99 rfl ?_
          refine gs_iald (_) dX11_holds_100 (gg_59 b) (rfl) (by omega) rfl (rfl) ?_
          refine go_goto 137 dX11_holds_101 (by decide) ?_
          exact go_topI (show _ = mvl σ j (σ 67 (2 * q + i)) c s by simp +decide [mvl, c50, c71, c92]) (go_wk (by exact ⟨rfl, rfl, rfl, rfl, rfl, rfl, trivial⟩) (tail hlt))
      · refine go_iload dX11_holds_74 rfl ?_
        refine go_iconst (v := -1) dX11_holds_76 (by decide) ?_
        refine go_icmp_ne 84 dX11_holds_77 (by decide) (fun c77 => ?_) (fun c77 => ?_)
        · refine go_iload dX11_holds_84 rfl ?_
          refine go_goto 137 dX11_holds_86 (by decide) ?_
          exact go_topI (show _ = mvl σ j (σ 67 (2 * q + i)) c s by simp +decide [mvl, c50, c71, c77]) (go_wk (by exact ⟨rfl, rfl, rfl, rfl, rfl, rfl, trivial⟩) (tail hlt))
        · refine go_iconst (v := nI 0) dX11_holds_80 (by decide) ?_
          refine go_goto 137 dX11_holds_81 (by decide) ?_
          exact go_topI (show _ = mvl σ j (σ 67 (2 * q + i)) c s by simp +decide [mvl, c50, c71, c77]) (go_wk (by exact ⟨rfl, rfl, rfl, rfl, rfl, rfl, trivial⟩) (tail hlt))
  refine go_aload_n dX11_holds_0 rfl ?_
  refine gs_gr dX11_holds_1 flX11_63 (gg_47 b) rfl ?_
  refine go_iload_n dX11_holds_4 rfl ?_
  refine gs_iald (_) dX11_holds_5 (gg_65 b) (rfl) (by omega) rfl (rfl) ?_
  refine go_bipush (v := nI 6) dX11_holds_6 (by decide) ?_
  refine go_icmp_eq 26 dX11_holds_8 (by decide) (fun c8 => ?_) (fun c8 => ?_)
  · refine go_iconst (v := nI 1) dX11_holds_26 (by decide) ?_
    refine go_goto 31 dX11_holds_27 (by decide) ?_
    refine go_istore (lv' := [_, _, _, _, _, _, _, _, _, _]) dX11_holds_31 rfl rfl rfl ?_
    refine go_iconst (v := nI 2) dX11_holds_33 (by decide) ?_
    refine go_iload_n dX11_holds_34 rfl ?_
    refine go_imulN dX11_holds_35 ?_
    refine go_istore (lv' := [_, _, _, _, _, _, _, _, _, _]) dX11_holds_36 rfl rfl rfl ?_
    exact go_wk (by simp [lvle, mhk, alb, bi, c8]) (loop 0 (Nat.zero_le _))
  · refine go_aload_n dX11_holds_11 rfl ?_
    refine gs_gr dX11_holds_12 flX11_63 (gg_47 b) rfl ?_
    refine go_iload_n dX11_holds_15 rfl ?_
    refine gs_iald (_) dX11_holds_16 (gg_65 b) (rfl) (by omega) rfl (rfl) ?_
    refine go_aload_n dX11_holds_17 rfl ?_
    refine gs_gr dX11_holds_18 flX11_7 (gg_47 b) rfl ?_
    refine go_iload_n dX11_holds_21 rfl ?_
    refine gs_iald (_) dX11_holds_22 (gg_48 b) (rfl) (by omega) rfl (rfl) ?_
    refine go_icmp_ne 30 dX11_holds_23 (by decide) (fun c23 => ?_) (fun c23 => ?_)
    · refine go_iconst (v := nI 0) dX11_holds_30 (by decide) ?_
      refine go_istore (lv' := [_, _, _, _, _, _, _, _, _, _]) dX11_holds_31 rfl rfl rfl ?_
      refine go_iconst (v := nI 2) dX11_holds_33 (by decide) ?_
      refine go_iload_n dX11_holds_34 rfl ?_
      refine go_imulN dX11_holds_35 ?_
      refine go_istore (lv' := [_, _, _, _, _, _, _, _, _, _]) dX11_holds_36 rfl rfl rfl ?_
      exact go_wk (by simp [lvle, mhk, alb, bi, c8, c23]) (loop 0 (Nat.zero_le _))
    · refine go_iconst (v := nI 1) dX11_holds_26 (by decide) ?_
      refine go_goto 31 dX11_holds_27 (by decide) ?_
      refine go_istore (lv' := [_, _, _, _, _, _, _, _, _, _]) dX11_holds_31 rfl rfl rfl ?_
      refine go_iconst (v := nI 2) dX11_holds_33 (by decide) ?_
      refine go_iload_n dX11_holds_34 rfl ?_
      refine go_imulN dX11_holds_35 ?_
      refine go_istore (lv' := [_, _, _, _, _, _, _, _, _, _]) dX11_holds_36 rfl rfl rfl ?_
      exact go_wk (by simp [lvle, mhk, alb, bi, c8, c23]) (loop 0 (Nat.zero_le _))
theorem cX11_ruleFor_ok (κ : gm_K) (b : Bool) (σ : wg_S) (n m j r : Nat) (C : MI σ n m j r) (c s : Nat) (hc : c < n) (hs : s < m) : Fn κ mX11_ruleFor [.ref 47, .int (nI c), .int (nI s)] (gg b) σ (some (.int (oI (mrl σ j c s r)))) (gg b) σ := by
  refine go_start (by decide) (Nat.le_of_ble_eq_true rfl) ?_
  obtain ⟨⟨hN, hn⟩, ⟨hM, hm⟩, ⟨hJ, hj⟩, ⟨hR, hr⟩, hT, hX⟩ := id C
  refine go_iconst (v := -1) dX11_ruleFor_0 (by decide) ?_
  refine go_istore_n (lv' := [_, _, _, _, _]) dX11_ruleFor_1 rfl rfl rfl ?_
  refine go_iconst (v := nI 0) dX11_ruleFor_2 (by decide) ?_
  refine go_istore (lv' := [_, _, _, _, _]) dX11_ruleFor_3 rfl rfl rfl ?_
  skip
  refine lo_up r (P := fun i => Go κ mX11_ruleFor 5 [some (.ref 47), some (.int (nI c)), some (.int (nI s)), some (.int (oI (mrl σ j c s i))), some (.int (nI i))] [] (wd (gg b) σ) (0, 0) _) (fun i hi ih => ?_) 0 (Nat.zero_le _)
  have hs' : mrl σ j c s (i + 1) = if mhl σ j i c s then some i else mrl σ j c s i := rfl
  refine go_iload dX11_ruleFor_5 rfl ?_
  refine go_aload_n dX11_ruleFor_7 rfl ?_
  refine gs_gi dX11_ruleFor_8 flX11_243 (gg_47 b) rfl (hR) ?_
  refine go_icmp_geN 38 dX11_ruleFor_11 (by decide) (by omega) (by omega) (fun c11 => ?_) (fun c11 => ?_)
  · refine go_iload_n dX11_ruleFor_38 rfl ?_
    refine go_iret dX11_ruleFor_39 rfl rfl ?_
    have e : i = r := by omega
    subst e
    exact ⟨rfl, rfl⟩
  · refine go_aload_n dX11_ruleFor_14 rfl ?_
    refine go_iload dX11_ruleFor_15 rfl ?_
    refine go_iload_n dX11_ruleFor_17 rfl ?_
    refine go_iload_n dX11_ruleFor_18 rfl ?_
    refine gs_callVi dX11_ruleFor_19 cvX11_ruleFor_249 (cX11_holds_ok κ b σ n m j r C i (by omega) c s hc hs) rfl (gg_47 b) rfl rfl rfl ⟨rfl, rfl⟩ rfl ?_
    refine go_if_eqB 30 dX11_ruleFor_22 (by decide) (fun c22 => ?_) (fun c22 => ?_)
    · refine go_iload_n dX11_ruleFor_30 rfl ?_
      refine go_istore_n (lv' := [_, _, _, _, _]) dX11_ruleFor_31 rfl rfl rfl ?_
      refine go_iincN (lv' := [_, _, _, _, _]) 1 dX11_ruleFor_32 (by decide) rfl rfl rfl rfl ?_
      refine go_goto 5 dX11_ruleFor_35 (by decide) ?_
      exact go_wk (by rw [hs']; simp [lvle, oI, c11, c22]) (ih c11)
    · refine go_iload dX11_ruleFor_25 rfl ?_
      refine go_goto 31 dX11_ruleFor_27 (by decide) ?_
      refine go_istore_n (lv' := [_, _, _, _, _]) dX11_ruleFor_31 rfl rfl rfl ?_
      refine go_iincN (lv' := [_, _, _, _, _]) 1 dX11_ruleFor_32 (by decide) rfl rfl rfl rfl ?_
      refine go_goto 5 dX11_ruleFor_35 (by decide) ?_
      exact go_wk (by rw [hs']; simp [lvle, oI, c11, c22]) (ih c11)
theorem cX11_mayOf_ok (κ : gm_K) (b : Bool) (σ : wg_S) (n m j r : Nat) (C : MI σ n m j r) (c s : Nat) (hc : c < n) (hs : s < m) : Fn κ mX11_mayOf [.ref 47, .int (nI c), .int (nI s)] (gg b) σ (some (.int (mvd σ j r c s))) (gg b) σ := by
  refine go_start (by decide) (Nat.le_of_ble_eq_true rfl) ?_
  obtain ⟨⟨hN, hn⟩, ⟨hM, hm⟩, ⟨hJ, hj⟩, ⟨hR, hr⟩, hT, hX⟩ := id C
  have hL := cX11_ruleFor_ok κ b σ n m j r C c s hc hs
  refine go_aload_n dX11_mayOf_0 rfl ?_
  refine go_iload_n dX11_mayOf_1 rfl ?_
  refine gs_callVi dX11_mayOf_2 cvX11_mayOf_200 (cX11_isThere_ok κ b σ c (by omega) (hX c hc)) rfl (gg_47 b) rfl rfl rfl ⟨rfl, rfl⟩ rfl ?_
  refine go_if_neB 10 dX11_mayOf_5 (by decide) (fun c5 => ?_) (fun c5 => ?_)
  · refine go_aload_n dX11_mayOf_10 rfl ?_
    refine gs_gr dX11_mayOf_11 flX11_37 (gg_47 b) rfl ?_
    refine go_iload_n dX11_mayOf_14 rfl ?_
    refine gs_iald (_) dX11_mayOf_15 (gg_57 b) (rfl) (by omega) rfl (rfl) ?_
    refine go_aload_n dX11_mayOf_16 rfl ?_
    refine gs_gr dX11_mayOf_17 flX11_7 (gg_47 b) rfl ?_
    refine go_iload_n dX11_mayOf_20 rfl ?_
    refine gs_iald (_) dX11_mayOf_21 (gg_48 b) (rfl) (by omega) rfl (rfl) ?_
    refine go_ishr dX11_mayOf_22 ?_
    refine go_iconst (v := nI 1) dX11_mayOf_23 (by decide) ?_
    refine go_iand dX11_mayOf_24 ?_
    refine go_if_ne 30 dX11_mayOf_25 (by decide) (fun c25 => ?_) (fun c25 => ?_)
    · refine go_iconst (v := nI 0) dX11_mayOf_30 (by decide) ?_
      refine go_istore_n (lv' := [_, _, _, _]) dX11_mayOf_31 rfl rfl rfl ?_
      have hm3 : mvd σ j r c s = if alb (mvo σ c s) 4 = false then nI 3 else match mrl σ j c s r with | none => nI 0 | some k => if σ 64 k = 0 then nI 0 else nI 4 := by rw [mvd, if_neg (by simp [c5]), if_neg c25]
      have loop : ∀ (i : Nat), i ≤ 4 → alb (mvo σ c s) i = true → Go κ mX11_mayOf 32 [some (.ref 47), some (.int (nI c)), some (.int (nI s)), some (.int (nI i))] [] (wd (gg b) σ) (0, 0) (fun z h' => z = some (.int (mvd σ j r c s)) ∧ h' = wd (gg b) σ) := by
        refine lo_up 4 (fun i hi ih ha => ?_)
        refine go_iload_n dX11_mayOf_32 rfl ?_
        refine go_iconst (v := nI 4) dX11_mayOf_33 (by decide) ?_
        refine go_icmp_geN 72 dX11_mayOf_34 (by decide) (by omega) (by omega) (fun c34 => ?_) (fun c34 => ?_)
        · have e : i = 4 := by omega
          subst e
          rw [if_neg (by simp [ha])] at hm3
          cases hl : mrl σ j c s r with
          | none =>
            rw [hl] at hm3 hL
            refine go_aload_n dX11_mayOf_72 rfl ?_
            refine go_iload_n dX11_mayOf_73 rfl ?_
            refine go_iload_n dX11_mayOf_74 rfl ?_
            refine gs_callVi dX11_mayOf_75 cvX11_mayOf_252 (hL) rfl (gg_47 b) rfl rfl rfl ⟨rfl, rfl⟩ rfl ?_
            refine go_istore_n (lv' := [_, _, _, _]) dX11_mayOf_78 rfl rfl rfl ?_
            refine go_iload_n dX11_mayOf_79 rfl ?_
            refine go_iconst (v := -1) dX11_mayOf_80 (by decide) ?_
            refine go_icmp_eq 97 dX11_mayOf_81 (by decide) (fun _ => ?_) (fun z => absurd z (by decide))
            refine go_iconst (v := nI 0) dX11_mayOf_97 (by decide) ?_
            refine go_iret dX11_mayOf_98 rfl rfl ?_
            exact ⟨by rw [hm3], rfl⟩
          | some k =>
            have hk := mrl_lt hl
            rw [hl] at hm3 hL
            refine go_aload_n dX11_mayOf_72 rfl ?_
            refine go_iload_n dX11_mayOf_73 rfl ?_
            refine go_iload_n dX11_mayOf_74 rfl ?_
            refine gs_callVi dX11_mayOf_75 cvX11_mayOf_252 (hL) rfl (gg_47 b) rfl rfl rfl ⟨rfl, rfl⟩ rfl ?_
            refine go_istore_n (lv' := [_, _, _, _]) dX11_mayOf_78 rfl rfl rfl ?_
            refine go_iload_n dX11_mayOf_79 rfl ?_
            refine go_iconst (v := -1) dX11_mayOf_80 (by decide) ?_
            refine go_icmp_eq 97 dX11_mayOf_81 (by decide) (fun c81 => ?_) (fun c81 => ?_)
            · exact absurd c81 (nI_m1 (by omega))
            · refine go_aload_n dX11_mayOf_84 rfl ?_
              refine gs_gr dX11_mayOf_85 flX11_59 (gg_47 b) rfl ?_
              refine go_iload_n dX11_mayOf_88 rfl ?_
              refine gs_zald (_) dX11_mayOf_89 (gg_64 b) (rfl) (by omega) rfl (rfl) ?_
              refine go_if_eq 97 dX11_mayOf_90 (by decide) (fun c90 => ?_) (fun c90 => ?_)
              · refine go_iconst (v := nI 0) dX11_mayOf_97 (by decide) ?_
                refine go_iret dX11_mayOf_98 rfl rfl ?_
                exact ⟨by rw [hm3]; simp [c90], rfl⟩
              · refine go_iconst (v := nI 4) dX11_mayOf_93 (by decide) ?_
                refine go_goto 98 dX11_mayOf_94 (by decide) ?_
                refine go_iret dX11_mayOf_98 rfl rfl ?_
                exact ⟨by rw [hm3]; simp [c90], rfl⟩
        · refine go_aload_n dX11_mayOf_37 rfl ?_
          refine gs_gr dX11_mayOf_38 flX11_40 (gg_47 b) rfl ?_
          refine go_iload_n dX11_mayOf_41 rfl ?_
          refine gs_iald (_) dX11_mayOf_42 (gg_58 b) (rfl) (by omega) rfl (rfl) ?_
          refine go_iload_n dX11_mayOf_43 rfl ?_
          refine go_ishr dX11_mayOf_44 ?_
          refine go_iconst (v := nI 1) dX11_mayOf_45 (by decide) ?_
          refine go_iand dX11_mayOf_46 ?_
          refine go_iconst (v := nI 1) dX11_mayOf_47 (by decide) ?_
          refine go_icmp_ne 66 dX11_mayOf_48 (by decide) (fun c48 => ?_) (fun c48 => ?_)
          · refine go_iincN (lv' := [_, _, _, _]) 1 dX11_mayOf_66 (by decide) rfl rfl rfl rfl ?_
            refine go_goto 32 dX11_mayOf_69 (by decide) ?_
            exact ih c34 (by simp [alb, ha, mvo, bv, c34, c48])
          · refine go_aload_n dX11_mayOf_51 rfl ?_
            refine gs_gr dX11_mayOf_52 flX11_16 (gg_47 b) rfl ?_
            refine go_iconst (v := nI 4) dX11_mayOf_55 (by decide) ?_
            refine go_iload_n dX11_mayOf_56 rfl ?_
            refine go_imulN dX11_mayOf_57 ?_
            refine go_iload_n dX11_mayOf_58 rfl ?_
            refine go_iaddN dX11_mayOf_59 ?_
            refine gs_iald (_) dX11_mayOf_60 (gg_50 b) (rfl) (by omega) rfl (rfl) ?_
            refine go_if_ne 66 dX11_mayOf_61 (by decide) (fun c61 => ?_) (fun c61 => ?_)
            · refine go_iincN (lv' := [_, _, _, _]) 1 dX11_mayOf_66 (by decide) rfl rfl rfl rfl ?_
              refine go_goto 32 dX11_mayOf_69 (by decide) ?_
              exact ih c34 (by simp [alb, ha, mvo, bv, c34, c48, c61])
            · refine go_iconst (v := nI 3) dX11_mayOf_64 (by decide) ?_
              refine go_iret dX11_mayOf_65 rfl rfl ?_
              exact ⟨by rw [hm3, if_pos (alb_not c34 (show mvo σ c s i = false by simp [mvo, bv, c34, c48, c61]))], rfl⟩
      exact go_wk (by exact ⟨rfl, rfl, rfl, rfl, trivial⟩) (loop 0 (Nat.zero_le _) rfl)
    · refine go_iconst (v := nI 2) dX11_mayOf_28 (by decide) ?_
      refine go_iret dX11_mayOf_29 rfl rfl ?_
      exact ⟨by simp +decide [mvd, c5, c25], rfl⟩
  · refine go_iconst (v := nI 1) dX11_mayOf_8 (by decide) ?_
    refine go_iret dX11_mayOf_9 rfl rfl ?_
    exact ⟨by simp +decide [mvd, c5], rfl⟩
def M_may (σ : wg_S) (j r : Nat) (c s : Int32) : Int32 := if hs (σ 47 0) c = false then -1 else if hs (σ 47 11) s = false then -1 else mvd σ j r c.toNatClampNeg s.toNatClampNeg
def M_why (σ : wg_S) (j r : Nat) (c s : Int32) : Int32 := if hs (σ 47 0) c = false then -1 else if hs (σ 47 11) s = false then -1 else oI (mrl σ j c.toNatClampNeg s.toNatClampNeg r)
theorem cX11_may_ok (κ : gm_K) (b : Bool) (σ : wg_S) (n m j r : Nat) (C : MI σ n m j r) (c s : Int32) : Fn κ mX11_may [.ref 47, .int c, .int s] (gg b) σ (some (.int (M_may σ j r c s))) (gg b) σ := by
  refine go_start (by decide) (Nat.le_of_ble_eq_true rfl) ?_
  obtain ⟨⟨hN, hn⟩, ⟨hM, hm⟩, ⟨hJ, hj⟩, ⟨hR, hr⟩, hT, hX⟩ := id C
  refine go_aload_n dX11_may_0 rfl ?_
  refine go_iload_n dX11_may_1 rfl ?_
  refine gs_callVi dX11_may_2 cvX11_may_162 (cX11_isChoir_ok κ b σ _) rfl (gg_47 b) rfl rfl rfl ⟨rfl, rfl⟩ rfl ?_
  refine go_if_eqB 25 dX11_may_5 (by decide) (fun c5 => ?_) (fun c5 => ?_)
  · refine go_iconst (v := -1) dX11_may_25 (by decide) ?_
    refine go_iret dX11_may_26 rfl rfl ?_
    exact ⟨by simp +decide [c5, M_may], rfl⟩
  · obtain ⟨x, hx, rfl⟩ := hs_ix (by omega) (hN ▸ c5)
    have ex := nI_clamp (show x < 2 ^ 31 by omega)
    refine go_aload_n dX11_may_8 rfl ?_
    refine go_iload_n dX11_may_9 rfl ?_
    refine gs_callVi dX11_may_10 cvX11_may_255 (cX11_isSong_ok κ b σ _) rfl (gg_47 b) rfl rfl rfl ⟨rfl, rfl⟩ rfl ?_
    refine go_if_eqB 25 dX11_may_13 (by decide) (fun c13 => ?_) (fun c13 => ?_)
    · refine go_iconst (v := -1) dX11_may_25 (by decide) ?_
      refine go_iret dX11_may_26 rfl rfl ?_
      exact ⟨by simp +decide [c5, ex, c13, M_may], rfl⟩
    · obtain ⟨y, hy, rfl⟩ := hs_ix (by omega) (hM ▸ c13)
      have ey := nI_clamp (show y < 2 ^ 31 by omega)
      refine go_aload_n dX11_may_16 rfl ?_
      refine go_iload_n dX11_may_17 rfl ?_
      refine go_iload_n dX11_may_18 rfl ?_
      refine gs_callVi dX11_may_19 cvX11_may_258 (cX11_mayOf_ok κ b σ n m j r C x y hx hy) rfl (gg_47 b) rfl rfl rfl ⟨rfl, rfl⟩ rfl ?_
      refine go_goto 26 dX11_may_22 (by decide) ?_
      refine go_iret dX11_may_26 rfl rfl ?_
      exact ⟨by simp +decide [c5, ex, c13, ey, M_may], rfl⟩
theorem cX11_why_ok (κ : gm_K) (b : Bool) (σ : wg_S) (n m j r : Nat) (C : MI σ n m j r) (c s : Int32) : Fn κ mX11_why [.ref 47, .int c, .int s] (gg b) σ (some (.int (M_why σ j r c s))) (gg b) σ := by
  refine go_start (by decide) (Nat.le_of_ble_eq_true rfl) ?_
  obtain ⟨⟨hN, hn⟩, ⟨hM, hm⟩, ⟨hJ, hj⟩, ⟨hR, hr⟩, hT, hX⟩ := id C
  refine go_aload_n dX11_why_0 rfl ?_
  refine go_iload_n dX11_why_1 rfl ?_
  refine gs_callVi dX11_why_2 cvX11_why_162 (cX11_isChoir_ok κ b σ _) rfl (gg_47 b) rfl rfl rfl ⟨rfl, rfl⟩ rfl ?_
  refine go_if_eqB 25 dX11_why_5 (by decide) (fun c5 => ?_) (fun c5 => ?_)
  · refine go_iconst (v := -1) dX11_why_25 (by decide) ?_
    refine go_iret dX11_why_26 rfl rfl ?_
    exact ⟨by simp +decide [c5, M_why], rfl⟩
  · obtain ⟨x, hx, rfl⟩ := hs_ix (by omega) (hN ▸ c5)
    have ex := nI_clamp (show x < 2 ^ 31 by omega)
    refine go_aload_n dX11_why_8 rfl ?_
    refine go_iload_n dX11_why_9 rfl ?_
    refine gs_callVi dX11_why_10 cvX11_why_255 (cX11_isSong_ok κ b σ _) rfl (gg_47 b) rfl rfl rfl ⟨rfl, rfl⟩ rfl ?_
    refine go_if_eqB 25 dX11_why_13 (by decide) (fun c13 => ?_) (fun c13 => ?_)
    · refine go_iconst (v := -1) dX11_why_25 (by decide) ?_
      refine go_iret dX11_why_26 rfl rfl ?_
      exact ⟨by simp +decide [c5, ex, c13, M_why], rfl⟩
    · obtain ⟨y, hy, rfl⟩ := hs_ix (by omega) (hM ▸ c13)
      have ey := nI_clamp (show y < 2 ^ 31 by omega)
      refine go_aload_n dX11_why_16 rfl ?_
      refine go_iload_n dX11_why_17 rfl ?_
      refine go_iload_n dX11_why_18 rfl ?_
      refine gs_callVi dX11_why_19 cvX11_why_252 (cX11_ruleFor_ok κ b σ n m j r C x y hx hy) rfl (gg_47 b) rfl rfl rfl ⟨rfl, rfl⟩ rfl ?_
      refine go_goto 26 dX11_why_22 (by decide) ?_
      refine go_iret dX11_why_26 rfl rfl ?_
      exact ⟨by simp +decide [c5, ex, c13, ey, M_why], rfl⟩
theorem cX11_blocks_ok (κ : gm_K) (b : Bool) (σ : wg_S) (n : Nat) (hn : n ≤ 16) (hN : σ 47 0 = nI n) : Fn κ mX11_blocks [.ref 47] (gg b) σ (some (.int (sm (fun i => if σ 55 i = -1 then nI 0 else nI 1) n))) (gg b) σ := by
  refine go_start (by decide) (Nat.le_of_ble_eq_true rfl) ?_
  refine go_iconst (v := nI 0) dX11_blocks_0 (by decide) ?_
  refine go_istore_n (lv' := [_, _, _]) dX11_blocks_1 rfl rfl rfl ?_
  refine go_iconst (v := nI 0) dX11_blocks_2 (by decide) ?_
  refine go_istore_n (lv' := [_, _, _]) dX11_blocks_3 rfl rfl rfl ?_
  skip
  refine lo_up n (P := fun i => Go κ mX11_blocks 4 [some (.ref 47), some (.int (sm (fun i => if σ 55 i = -1 then nI 0 else nI 1) i)), some (.int (nI i))] [] (wd (gg b) σ) (0, 0) _) (fun i hi ih => ?_) 0 (Nat.zero_le _)
  refine go_iload_n dX11_blocks_4 rfl ?_
  refine go_aload_n dX11_blocks_5 rfl ?_
  refine gs_gi dX11_blocks_6 flX11_134 (gg_47 b) rfl (hN) ?_
  refine go_icmp_geN 36 dX11_blocks_9 (by decide) (by omega) (by omega) (fun c9 => ?_) (fun c9 => ?_)
  · refine go_iload_n dX11_blocks_36 rfl ?_
    refine go_iret dX11_blocks_37 rfl rfl ?_
    have e : i = n := by omega
    subst e
    exact ⟨rfl, rfl⟩
  · refine go_iload_n dX11_blocks_12 rfl ?_
    refine go_aload_n dX11_blocks_13 rfl ?_
    refine gs_gr dX11_blocks_14 flX11_31 (gg_47 b) rfl ?_
    refine go_iload_n dX11_blocks_17 rfl ?_
    refine gs_iald (_) dX11_blocks_18 (gg_55 b) (rfl) (by omega) rfl (rfl) ?_
    refine go_iconst (v := -1) dX11_blocks_19 (by decide) ?_
    refine go_icmp_eq 27 dX11_blocks_20 (by decide) (fun c20 => ?_) (fun c20 => ?_)
    · refine go_iconst (v := nI 0) dX11_blocks_27 (by decide) ?_
      refine go_iadd dX11_blocks_28 ?_
      refine go_istore_n (lv' := [_, _, _]) dX11_blocks_29 rfl rfl rfl ?_
      refine go_iincN (lv' := [_, _, _]) 1 dX11_blocks_30 (by decide) rfl rfl rfl rfl ?_
      refine go_goto 4 dX11_blocks_33 (by decide) ?_
      exact go_lv (by simp [sm, c9, c20]) (ih c9)
    · refine go_iconst (v := nI 1) dX11_blocks_23 (by decide) ?_
      refine go_goto 28 dX11_blocks_24 (by decide) ?_
      refine go_iadd dX11_blocks_28 ?_
      refine go_istore_n (lv' := [_, _, _]) dX11_blocks_29 rfl rfl rfl ?_
      refine go_iincN (lv' := [_, _, _]) 1 dX11_blocks_30 (by decide) rfl rfl rfl rfl ?_
      refine go_goto 4 dX11_blocks_33 (by decide) ?_
      exact go_lv (by simp [sm, c9, c20]) (ih c9)
def M_stage (σ : wg_S) (n : Nat) (p w : Int32) : Int32 × wg_S := if wi p (nI 1) (nI 8) = false then (-2, σ) else if wi w (nI 1) (nI 60) = false then (-2, σ) else if sm (fun i => if σ 55 i = -1 then nI 0 else nI 1) n ≤ 0 then (nI 0, us (us σ 47 34 p) 47 35 w) else (-3, σ)
theorem cX11_stage_ok (κ : gm_K) (b : Bool) (σ : wg_S) (n m j r : Nat) (C : MI σ n m j r) (p w : Int32) : Fn κ mX11_stage [.ref 47, .int p, .int w] (gg b) σ (some (.int ((M_stage σ n p w).1))) (gg b) (M_stage σ n p w).2 := by
  refine go_start (by decide) (Nat.le_of_ble_eq_true rfl) ?_
  obtain ⟨⟨hN, hn⟩, ⟨hM, hm⟩, ⟨hJ, hj⟩, ⟨hR, hr⟩, hT, hX⟩ := id C
  refine go_iload_n dX11_stage_0 rfl ?_
  refine go_i2l dX11_stage_1 ?_
  refine go_lconst (v := 1) dX11_stage_2 (by decide) ?_
  refine go_ldc2 dX11_stage_3 klX11_203 ?_
  refine gs_callSi dX11_stage_6 csX11_stage_145 (cX11_isIn_ok κ b σ _ (nI 1) (nI 8) _ _ (by decide) (by decide)) rfl rfl rfl ⟨rfl, rfl⟩ rfl ?_
  refine go_if_eqB 24 dX11_stage_9 (by decide) (fun c9 => ?_) (fun c9 => ?_)
  · refine go_bipush (v := -2) dX11_stage_24 (by decide) ?_
    refine go_iret dX11_stage_26 rfl rfl ?_
    refine ⟨?_, ?_⟩ <;> simp +decide [c9, M_stage]
  · refine go_iload_n dX11_stage_12 rfl ?_
    refine go_i2l dX11_stage_13 ?_
    refine go_lconst (v := 1) dX11_stage_14 (by decide) ?_
    refine go_ldc2 dX11_stage_15 klX11_263 ?_
    refine gs_callSi dX11_stage_18 csX11_stage_145 (cX11_isIn_ok κ b σ _ (nI 1) (nI 60) _ _ (by decide) (by decide)) rfl rfl rfl ⟨rfl, rfl⟩ rfl ?_
    refine go_if_neB 27 dX11_stage_21 (by decide) (fun c21 => ?_) (fun c21 => ?_)
    · refine go_aload_n dX11_stage_27 rfl ?_
      refine gs_callVi dX11_stage_28 cvX11_stage_265 (cX11_blocks_ok κ b σ n hn hN) rfl (gg_47 b) rfl rfl rfl ⟨rfl, rfl⟩ rfl ?_
      refine go_if_le 37 dX11_stage_31 (by decide) (fun c31 => ?_) (fun c31 => ?_)
      · refine go_aload_n dX11_stage_37 rfl ?_
        refine go_iload_n dX11_stage_38 rfl ?_
        refine gs_pi dX11_stage_39 flX11_91 (gg_47 b) rfl (fun q hq => by cases hq; exact ⟨rfl, rfl⟩) ?_
        refine go_aload_n dX11_stage_42 rfl ?_
        refine go_iload_n dX11_stage_43 rfl ?_
        refine gs_pi dX11_stage_44 flX11_95 (gg_47 b) rfl (fun q hq => by cases hq; exact ⟨rfl, rfl⟩) ?_
        refine go_iconst (v := nI 0) dX11_stage_47 (by decide) ?_
        refine go_iret dX11_stage_48 rfl rfl ?_
        refine ⟨?_, ?_⟩ <;> simp +decide [c9, c21, c31, M_stage]
      · refine go_bipush (v := -3) dX11_stage_34 (by decide) ?_
        refine go_iret dX11_stage_36 rfl rfl ?_
        refine ⟨?_, ?_⟩ <;> simp +decide [c9, c21, c31, M_stage]
    · refine go_bipush (v := -2) dX11_stage_24 (by decide) ?_
      refine go_iret dX11_stage_26 rfl rfl ?_
      refine ⟨?_, ?_⟩ <;> simp +decide [c9, c21, M_stage]
def mfr (σ : wg_S) (r p e : Int32) (i : Nat) : Bool := !decide (σ 55 i = r) || decide (e ≤ σ 56 i) || !decide (p < σ 56 i + msz σ i)
theorem cX11_isFree_ok (κ : gm_K) (b : Bool) (σ : wg_S) (n : Nat) (hn : n ≤ 16) (hN : σ 47 0 = nI n) (q p e : Int32) : Fn κ mX11_isFree [.ref 47, .int q, .int p, .int e] (gg b) σ (some (.int (bi (alb (mfr σ q p e) n)))) (gg b) σ := by
  refine go_start (by decide) (Nat.le_of_ble_eq_true rfl) ?_
  have loop : ∀ (i : Nat), i ≤ n → Go κ mX11_isFree 6 [some (.ref 47), some (.int q), some (.int p), some (.int e), some (.int (bi (alb (mfr σ q p e) i))), some (.int (nI i))] [] (wd (gg b) σ) (0, 0) (fun z h' => z = some (.int (bi (alb (mfr σ q p e) n))) ∧ h' = wd (gg b) σ) := by
    refine lo_up n (fun i hi ih => ?_)
    have hs1 : alb (mfr σ q p e) (i + 1) = (alb (mfr σ q p e) i && (mfr σ q p e) i) := rfl
    cases hb : alb (mfr σ q p e) i with
    | false =>
      rw [hb, Bool.false_and] at hs1
      refine go_iload dX11_isFree_6 rfl ?_
      refine go_aload_n dX11_isFree_8 rfl ?_
      refine gs_gi dX11_isFree_9 flX11_134 (gg_47 b) rfl (hN) ?_
      refine go_icmp_geN 73 dX11_isFree_12 (by decide) (by omega) (by omega) (fun c12 => ?_) (fun c12 => ?_)
      · refine go_iload dX11_isFree_73 rfl ?_
        refine go_zret dX11_isFree_75 rfl rfl (by decide) ?_
        have e : i = n := by omega
        subst e
        rw [hb]
        exact ⟨rfl, rfl⟩
      · refine go_iload dX11_isFree_15 rfl ?_
        refine go_if_eq 64 dX11_isFree_17 (by decide) (fun _ => ?_) (fun z => absurd z (by decide))
        refine go_iconst (v := nI 0) dX11_isFree_64 (by decide) ?_
        refine go_istore (lv' := [_, _, _, _, _, _]) dX11_isFree_65 rfl rfl rfl ?_
        refine go_iincN (lv' := [_, _, _, _, _, _]) 1 dX11_isFree_67 (by decide) rfl rfl rfl rfl ?_
        refine go_goto 6 dX11_isFree_70 (by decide) ?_
        exact go_wk (by rw [hs1]; simp [lvle, bi, nI_0]) (ih c12)
    | true =>
      rw [hb, Bool.true_and] at hs1
      refine go_iload dX11_isFree_6 rfl ?_
      refine go_aload_n dX11_isFree_8 rfl ?_
      refine gs_gi dX11_isFree_9 flX11_134 (gg_47 b) rfl (hN) ?_
      refine go_icmp_geN 73 dX11_isFree_12 (by decide) (by omega) (by omega) (fun c12 => ?_) (fun c12 => ?_)
      · refine go_iload dX11_isFree_73 rfl ?_
        refine go_zret dX11_isFree_75 rfl rfl (by decide) ?_
        have e : i = n := by omega
        subst e
        rw [hb]
        exact ⟨rfl, rfl⟩
      · refine go_iload dX11_isFree_15 rfl ?_
        refine go_if_eq 64 dX11_isFree_17 (by decide) (fun z => absurd z (by decide)) (fun _ => ?_)
        refine go_aload_n dX11_isFree_20 rfl ?_
        refine gs_gr dX11_isFree_21 flX11_31 (gg_47 b) rfl ?_
        refine go_iload dX11_isFree_24 rfl ?_
        refine gs_iald (_) dX11_isFree_26 (gg_55 b) (rfl) (by omega) rfl (rfl) ?_
        refine go_iload_n dX11_isFree_27 rfl ?_
        refine go_icmp_ne 60 dX11_isFree_28 (by decide) (fun c28 => ?_) (fun c28 => ?_)
        · refine go_iconst (v := nI 1) dX11_isFree_60 (by decide) ?_
          refine go_goto 65 dX11_isFree_61 (by decide) ?_
          refine go_istore (lv' := [_, _, _, _, _, _]) dX11_isFree_65 rfl rfl rfl ?_
          refine go_iincN (lv' := [_, _, _, _, _, _]) 1 dX11_isFree_67 (by decide) rfl rfl rfl rfl ?_
          refine go_goto 6 dX11_isFree_70 (by decide) ?_
          exact go_wk (by rw [hs1]; simp [lvle, bi, nI_0, mfr, c12, c28]) (ih c12)
        · refine go_aload_n dX11_isFree_31 rfl ?_
          refine gs_gr dX11_isFree_32 flX11_34 (gg_47 b) rfl ?_
          refine go_iload dX11_isFree_35 rfl ?_
          refine gs_iald (_) dX11_isFree_37 (gg_56 b) (rfl) (by omega) rfl (rfl) ?_
          refine go_iload_n dX11_isFree_38 rfl ?_
          refine go_icmp_ge 60 dX11_isFree_39 (by decide) (fun c39 => ?_) (fun c39 => ?_)
          · refine go_iconst (v := nI 1) dX11_isFree_60 (by decide) ?_
            refine go_goto 65 dX11_isFree_61 (by decide) ?_
            refine go_istore (lv' := [_, _, _, _, _, _]) dX11_isFree_65 rfl rfl rfl ?_
            refine go_iincN (lv' := [_, _, _, _, _, _]) 1 dX11_isFree_67 (by decide) rfl rfl rfl rfl ?_
            refine go_goto 6 dX11_isFree_70 (by decide) ?_
            exact go_wk (by rw [hs1]; simp [lvle, bi, nI_0, mfr, c12, c28, c39]) (ih c12)
          · refine go_aload_n dX11_isFree_42 rfl ?_
            refine gs_gr dX11_isFree_43 flX11_34 (gg_47 b) rfl ?_
            refine go_iload dX11_isFree_46 rfl ?_
            refine gs_iald (_) dX11_isFree_48 (gg_56 b) (rfl) (by omega) rfl (rfl) ?_
            refine go_aload_n dX11_isFree_49 rfl ?_
            refine go_iload dX11_isFree_50 rfl ?_
            refine gs_callVi dX11_isFree_52 cvX11_isFree_197 (cX11_sizeOf_ok κ b σ i (by omega)) rfl (gg_47 b) rfl rfl rfl ⟨rfl, rfl⟩ rfl ?_
            refine go_iadd dX11_isFree_55 ?_
            refine go_iload_n dX11_isFree_56 rfl ?_
            refine go_icmp_gt 64 dX11_isFree_57 (by decide) (fun c57 => ?_) (fun c57 => ?_)
            · refine go_iconst (v := nI 0) dX11_isFree_64 (by decide) ?_
              refine go_istore (lv' := [_, _, _, _, _, _]) dX11_isFree_65 rfl rfl rfl ?_
              refine go_iincN (lv' := [_, _, _, _, _, _]) 1 dX11_isFree_67 (by decide) rfl rfl rfl rfl ?_
              refine go_goto 6 dX11_isFree_70 (by decide) ?_
              exact go_wk (by rw [hs1]; simp [lvle, bi, nI_0, mfr, c12, c28, c39, c57]) (ih c12)
            · refine go_iconst (v := nI 1) dX11_isFree_60 (by decide) ?_
              refine go_goto 65 dX11_isFree_61 (by decide) ?_
              refine go_istore (lv' := [_, _, _, _, _, _]) dX11_isFree_65 rfl rfl rfl ?_
              refine go_iincN (lv' := [_, _, _, _, _, _]) 1 dX11_isFree_67 (by decide) rfl rfl rfl rfl ?_
              refine go_goto 6 dX11_isFree_70 (by decide) ?_
              exact go_wk (by rw [hs1]; simp [lvle, bi, nI_0, mfr, c12, c28, c39, c57]) (ih c12)
  refine go_iconst (v := nI 1) dX11_isFree_0 (by decide) ?_
  refine go_istore (lv' := [_, _, _, _, _, _]) dX11_isFree_1 rfl rfl rfl ?_
  refine go_iconst (v := nI 0) dX11_isFree_3 (by decide) ?_
  refine go_istore (lv' := [_, _, _, _, _, _]) dX11_isFree_4 rfl rfl rfl ?_
  exact loop 0 (Nat.zero_le _)
def M_stand (σ : wg_S) (n : Nat) (c p q : Int32) : Int32 × wg_S := if hs (σ 47 0) c = false then (-1, σ) else if p < 0 then (-1, σ) else if σ 47 34 ≤ p then (-1, σ) else if q < 0 then (-1, σ) else if ¬ q < σ 47 35 then (-1, σ)
  else if ¬ σ 55 c.toNatClampNeg = -1 then (-3, σ) else if mth σ c.toNatClampNeg = false then (-3, σ) else if ¬ q + msz σ c.toNatClampNeg ≤ σ 47 35 then (-3, σ) else if alb (mfr σ p q (q + msz σ c.toNatClampNeg)) n = false then (-3, σ) else (nI 0, us (us σ 55 c.toNatClampNeg p) 56 c.toNatClampNeg q)
theorem cX11_stand_ok (κ : gm_K) (b : Bool) (σ : wg_S) (n m j r : Nat) (C : MI σ n m j r) (c p q : Int32) : Fn κ mX11_stand [.ref 47, .int c, .int p, .int q] (gg b) σ (some (.int ((M_stand σ n c p q).1))) (gg b) (M_stand σ n c p q).2 := by
  refine go_start (by decide) (Nat.le_of_ble_eq_true rfl) ?_
  obtain ⟨⟨hN, hn⟩, ⟨hM, hm⟩, ⟨hJ, hj⟩, ⟨hR, hr⟩, hT, hX⟩ := id C
  refine go_aload_n dX11_stand_0 rfl ?_
  refine go_iload_n dX11_stand_1 rfl ?_
  refine gs_callVi dX11_stand_2 cvX11_stand_162 (cX11_isChoir_ok κ b σ _) rfl (gg_47 b) rfl rfl rfl ⟨rfl, rfl⟩ rfl ?_
  refine go_if_eqB 32 dX11_stand_5 (by decide) (fun c5 => ?_) (fun c5 => ?_)
  · refine go_iconst (v := -1) dX11_stand_32 (by decide) ?_
    refine go_iret dX11_stand_33 rfl rfl ?_
    refine ⟨?_, ?_⟩ <;> simp +decide [c5, M_stand]
  · obtain ⟨x, hx, rfl⟩ := hs_ix (by omega) (hN ▸ c5)
    have ex := nI_clamp (show x < 2 ^ 31 by omega)
    refine go_iload_n dX11_stand_8 rfl ?_
    refine go_if_lt 32 dX11_stand_9 (by decide) (fun c9 => ?_) (fun c9 => ?_)
    · refine go_iconst (v := -1) dX11_stand_32 (by decide) ?_
      refine go_iret dX11_stand_33 rfl rfl ?_
      refine ⟨?_, ?_⟩ <;> simp +decide [c5, ex, c9, M_stand]
    · refine go_iload_n dX11_stand_12 rfl ?_
      refine go_aload_n dX11_stand_13 rfl ?_
      refine gs_gi dX11_stand_14 flX11_91 (gg_47 b) rfl (rfl) ?_
      refine go_icmp_ge 32 dX11_stand_17 (by decide) (fun c17 => ?_) (fun c17 => ?_)
      · refine go_iconst (v := -1) dX11_stand_32 (by decide) ?_
        refine go_iret dX11_stand_33 rfl rfl ?_
        refine ⟨?_, ?_⟩ <;> simp +decide [c5, ex, c9, c17, M_stand]
      · refine go_iload_n dX11_stand_20 rfl ?_
        refine go_if_lt 32 dX11_stand_21 (by decide) (fun c21 => ?_) (fun c21 => ?_)
        · refine go_iconst (v := -1) dX11_stand_32 (by decide) ?_
          refine go_iret dX11_stand_33 rfl rfl ?_
          refine ⟨?_, ?_⟩ <;> simp +decide [c5, ex, c9, c17, c21, M_stand]
        · refine go_iload_n dX11_stand_24 rfl ?_
          refine go_aload_n dX11_stand_25 rfl ?_
          refine gs_gi dX11_stand_26 flX11_95 (gg_47 b) rfl (rfl) ?_
          refine go_icmp_lt 34 dX11_stand_29 (by decide) (fun c29 => ?_) (fun c29 => ?_)
          · refine go_aload_n dX11_stand_34 rfl ?_
            refine gs_gr dX11_stand_35 flX11_31 (gg_47 b) rfl ?_
            refine go_iload_n dX11_stand_38 rfl ?_
            refine gs_iald (_) dX11_stand_39 (gg_55 b) (rfl) (by omega) rfl (rfl) ?_
            refine go_iconst (v := -1) dX11_stand_40 (by decide) ?_
            refine go_icmp_ne 82 dX11_stand_41 (by decide) (fun c41 => ?_) (fun c41 => ?_)
            · refine go_bipush (v := -3) dX11_stand_82 (by decide) ?_
              refine go_iret dX11_stand_84 rfl rfl ?_
              refine ⟨?_, ?_⟩ <;> simp +decide [c5, ex, c9, c17, c21, c29, c41, M_stand]
            · refine go_aload_n dX11_stand_44 rfl ?_
              refine go_iload_n dX11_stand_45 rfl ?_
              refine gs_callVi dX11_stand_46 cvX11_stand_200 (cX11_isThere_ok κ b σ x (by omega) (hX x hx)) rfl (gg_47 b) rfl rfl rfl ⟨rfl, rfl⟩ rfl ?_
              refine go_if_eqB 82 dX11_stand_49 (by decide) (fun c49 => ?_) (fun c49 => ?_)
              · refine go_bipush (v := -3) dX11_stand_82 (by decide) ?_
                refine go_iret dX11_stand_84 rfl rfl ?_
                refine ⟨?_, ?_⟩ <;> simp +decide [c5, ex, c9, c17, c21, c29, c41, c49, M_stand]
              · refine go_iload_n dX11_stand_52 rfl ?_
                refine go_aload_n dX11_stand_53 rfl ?_
                refine go_iload_n dX11_stand_54 rfl ?_
                refine gs_callVi dX11_stand_55 cvX11_stand_197 (cX11_sizeOf_ok κ b σ x (by omega)) rfl (gg_47 b) rfl rfl rfl ⟨rfl, rfl⟩ rfl ?_
                refine go_iadd dX11_stand_58 ?_
                refine go_aload_n dX11_stand_59 rfl ?_
                refine gs_gi dX11_stand_60 flX11_95 (gg_47 b) rfl (rfl) ?_
                refine go_icmp_gt 82 dX11_stand_63 (by decide) (fun c63 => ?_) (fun c63 => ?_)
                · refine go_bipush (v := -3) dX11_stand_82 (by decide) ?_
                  refine go_iret dX11_stand_84 rfl rfl ?_
                  refine ⟨?_, ?_⟩ <;> simp +decide [c5, ex, c9, c17, c21, c29, c41, c49, c63, M_stand]
                · refine go_aload_n dX11_stand_66 rfl ?_
                  refine go_iload_n dX11_stand_67 rfl ?_
                  refine go_iload_n dX11_stand_68 rfl ?_
                  refine go_iload_n dX11_stand_69 rfl ?_
                  refine go_aload_n dX11_stand_70 rfl ?_
                  refine go_iload_n dX11_stand_71 rfl ?_
                  refine gs_callVi dX11_stand_72 cvX11_stand_197 (cX11_sizeOf_ok κ b σ x (by omega)) rfl (gg_47 b) rfl rfl rfl ⟨rfl, rfl⟩ rfl ?_
                  refine go_iadd dX11_stand_75 ?_
                  refine gs_callVi dX11_stand_76 cvX11_stand_268 (cX11_isFree_ok κ b σ n hn hN _ _ _) rfl (gg_47 b) rfl rfl rfl ⟨rfl, rfl⟩ rfl ?_
                  refine go_if_neB 85 dX11_stand_79 (by decide) (fun c79 => ?_) (fun c79 => ?_)
                  · refine go_aload_n dX11_stand_85 rfl ?_
                    refine gs_gr dX11_stand_86 flX11_31 (gg_47 b) rfl ?_
                    refine go_iload_n dX11_stand_89 rfl ?_
                    refine go_iload_n dX11_stand_90 rfl ?_
                    refine gs_iast (_) dX11_stand_91 (gg_55 b) (rfl) (by omega) rfl ?_
                    refine go_aload_n dX11_stand_92 rfl ?_
                    refine gs_gr dX11_stand_93 flX11_34 (gg_47 b) rfl ?_
                    refine go_iload_n dX11_stand_96 rfl ?_
                    refine go_iload_n dX11_stand_97 rfl ?_
                    refine gs_iast (_) dX11_stand_98 (gg_56 b) (rfl) (by omega) rfl ?_
                    refine go_iconst (v := nI 0) dX11_stand_99 (by decide) ?_
                    refine go_iret dX11_stand_100 rfl rfl ?_
                    refine ⟨?_, ?_⟩ <;> simp +decide [c5, ex, c9, c17, c21, c29, c41, c49, c63, c79, M_stand]
                  · refine go_bipush (v := -3) dX11_stand_82 (by decide) ?_
                    refine go_iret dX11_stand_84 rfl rfl ?_
                    refine ⟨?_, ?_⟩ <;> simp +decide [c5, ex, c9, c17, c21, c29, c41, c49, c63, c79, M_stand]
          · refine go_iconst (v := -1) dX11_stand_32 (by decide) ?_
            refine go_iret dX11_stand_33 rfl rfl ?_
            refine ⟨?_, ?_⟩ <;> simp +decide [c5, ex, c9, c17, c21, c29, M_stand]
def mgl (w p s : Int32) : Bool := decide (p ≤ w - p - s)
def msc (w p s : Int32) : Int32 := (if mgl w p s then p else w - p - s) + s
theorem cX11_goesLeft_ok (κ : gm_K) (b : Bool) (σ : wg_S) (p s : Int32) : Fn κ mX11_goesLeft [.ref 47, .int p, .int s] (gg b) σ (some (.int (bi (mgl (σ 47 35) p s)))) (gg b) σ := by
  refine go_start (by decide) (Nat.le_of_ble_eq_true rfl) ?_
  refine go_iload_n dX11_goesLeft_0 rfl ?_
  refine go_aload_n dX11_goesLeft_1 rfl ?_
  refine gs_gi dX11_goesLeft_2 flX11_95 (gg_47 b) rfl (rfl) ?_
  refine go_iload_n dX11_goesLeft_5 rfl ?_
  refine go_isub dX11_goesLeft_6 ?_
  refine go_iload_n dX11_goesLeft_7 rfl ?_
  refine go_isub dX11_goesLeft_8 ?_
  refine go_icmp_gt 16 dX11_goesLeft_9 (by decide) (fun c9 => ?_) (fun c9 => ?_)
  · refine go_iconst (v := nI 0) dX11_goesLeft_16 (by decide) ?_
    refine go_zret dX11_goesLeft_17 rfl rfl (by decide) ?_
    exact ⟨by simp +decide [c9, bi, mgl], rfl⟩
  · refine go_iconst (v := nI 1) dX11_goesLeft_12 (by decide) ?_
    refine go_goto 17 dX11_goesLeft_13 (by decide) ?_
    refine go_zret dX11_goesLeft_17 rfl rfl (by decide) ?_
    exact ⟨by simp +decide [c9, bi, mgl], rfl⟩
theorem cX11_secondsOf_ok (κ : gm_K) (b : Bool) (σ : wg_S) (p s : Int32) : Fn κ mX11_secondsOf [.ref 47, .int p, .int s] (gg b) σ (some (.int (msc (σ 47 35) p s))) (gg b) σ := by
  refine go_start (by decide) (Nat.le_of_ble_eq_true rfl) ?_
  refine go_aload_n dX11_secondsOf_0 rfl ?_
  refine go_iload_n dX11_secondsOf_1 rfl ?_
  refine go_iload_n dX11_secondsOf_2 rfl ?_
  refine gs_callVi dX11_secondsOf_3 cvX11_secondsOf_271 (cX11_goesLeft_ok κ b σ _ _) rfl (gg_47 b) rfl rfl rfl ⟨rfl, rfl⟩ rfl ?_
  refine go_if_eqB 13 dX11_secondsOf_6 (by decide) (fun c6 => ?_) (fun c6 => ?_)
  · refine go_aload_n dX11_secondsOf_13 rfl ?_
    refine gs_gi dX11_secondsOf_14 flX11_95 (gg_47 b) rfl (rfl) ?_
    refine go_iload_n dX11_secondsOf_17 rfl ?_
    refine go_isub dX11_secondsOf_18 ?_
    refine go_iload_n dX11_secondsOf_19 rfl ?_
    refine go_isub dX11_secondsOf_20 ?_
    refine go_iload_n dX11_secondsOf_21 rfl ?_
    refine go_iadd dX11_secondsOf_22 ?_
    refine go_iret dX11_secondsOf_23 rfl rfl ?_
    exact ⟨by simp [msc, c6], rfl⟩
  · refine go_iload_n dX11_secondsOf_9 rfl ?_
    refine go_goto 21 dX11_secondsOf_10 (by decide) ?_
    refine go_iload_n dX11_secondsOf_21 rfl ?_
    refine go_iadd dX11_secondsOf_22 ?_
    refine go_iret dX11_secondsOf_23 rfl rfl ?_
    exact ⟨by simp [msc, c6], rfl⟩
def M_off (σ : wg_S) (c : Int32) : Int32 × wg_S := if hs (σ 47 0) c = false then (-1, σ) else if σ 55 c.toNatClampNeg = -1 then (-3, σ) else (msc (σ 47 35) (σ 56 c.toNatClampNeg) (msz σ c.toNatClampNeg), us (us σ 55 c.toNatClampNeg (-1)) 56 c.toNatClampNeg (-1))
theorem cX11_off_ok (κ : gm_K) (b : Bool) (σ : wg_S) (n m j r : Nat) (C : MI σ n m j r) (c : Int32) : Fn κ mX11_off [.ref 47, .int c] (gg b) σ (some (.int ((M_off σ c).1))) (gg b) (M_off σ c).2 := by
  refine go_start (by decide) (Nat.le_of_ble_eq_true rfl) ?_
  obtain ⟨⟨hN, hn⟩, ⟨hM, hm⟩, ⟨hJ, hj⟩, ⟨hR, hr⟩, hT, hX⟩ := id C
  refine go_aload_n dX11_off_0 rfl ?_
  refine go_iload_n dX11_off_1 rfl ?_
  refine gs_callVi dX11_off_2 cvX11_off_162 (cX11_isChoir_ok κ b σ _) rfl (gg_47 b) rfl rfl rfl ⟨rfl, rfl⟩ rfl ?_
  refine go_if_neB 10 dX11_off_5 (by decide) (fun c5 => ?_) (fun c5 => ?_)
  · obtain ⟨x, hx, rfl⟩ := hs_ix (by omega) (hN ▸ c5)
    have ex := nI_clamp (show x < 2 ^ 31 by omega)
    refine go_aload_n dX11_off_10 rfl ?_
    refine gs_gr dX11_off_11 flX11_31 (gg_47 b) rfl ?_
    refine go_iload_n dX11_off_14 rfl ?_
    refine gs_iald (_) dX11_off_15 (gg_55 b) (rfl) (by omega) rfl (rfl) ?_
    refine go_iconst (v := -1) dX11_off_16 (by decide) ?_
    refine go_icmp_ne 23 dX11_off_17 (by decide) (fun c17 => ?_) (fun c17 => ?_)
    · refine go_aload_n dX11_off_23 rfl ?_
      refine go_aload_n dX11_off_24 rfl ?_
      refine gs_gr dX11_off_25 flX11_34 (gg_47 b) rfl ?_
      refine go_iload_n dX11_off_28 rfl ?_
      refine gs_iald (_) dX11_off_29 (gg_56 b) (rfl) (by omega) rfl (rfl) ?_
      refine go_aload_n dX11_off_30 rfl ?_
      refine go_iload_n dX11_off_31 rfl ?_
      refine gs_callVi dX11_off_32 cvX11_off_197 (cX11_sizeOf_ok κ b σ x (by omega)) rfl (gg_47 b) rfl rfl rfl ⟨rfl, rfl⟩ rfl ?_
      refine gs_callVi dX11_off_35 cvX11_off_275 (cX11_secondsOf_ok κ b σ _ _) rfl (gg_47 b) rfl rfl rfl ⟨rfl, rfl⟩ rfl ?_
      refine go_istore_n (lv' := [_, _, _]) dX11_off_38 rfl rfl rfl ?_
      refine go_aload_n dX11_off_39 rfl ?_
      refine gs_gr dX11_off_40 flX11_31 (gg_47 b) rfl ?_
      refine go_iload_n dX11_off_43 rfl ?_
      refine go_iconst (v := -1) dX11_off_44 (by decide) ?_
      refine gs_iast (_) dX11_off_45 (gg_55 b) (rfl) (by omega) rfl ?_
      refine go_aload_n dX11_off_46 rfl ?_
      refine gs_gr dX11_off_47 flX11_34 (gg_47 b) rfl ?_
      refine go_iload_n dX11_off_50 rfl ?_
      refine go_iconst (v := -1) dX11_off_51 (by decide) ?_
      refine gs_iast (_) dX11_off_52 (gg_56 b) (rfl) (by omega) rfl ?_
      refine go_iload_n dX11_off_53 rfl ?_
      refine go_iret dX11_off_54 rfl rfl ?_
      refine ⟨?_, ?_⟩ <;> simp +decide [c5, ex, c17, M_off]
    · refine go_bipush (v := -3) dX11_off_20 (by decide) ?_
      refine go_iret dX11_off_22 rfl rfl ?_
      refine ⟨?_, ?_⟩ <;> simp +decide [c5, ex, c17, M_off]
  · refine go_iconst (v := -1) dX11_off_8 (by decide) ?_
    refine go_iret dX11_off_9 rfl rfl ?_
    refine ⟨?_, ?_⟩ <;> simp +decide [c5, M_off]
def mwl (σ : wg_S) (c i : Nat) : Bool := decide (σ 55 i = -1) || decide (σ 55 c ≤ σ 55 i) || !decide (σ 52 c < σ 52 i)
def M_well (σ : wg_S) (n : Nat) (c : Int32) : Int32 := if hs (σ 47 0) c = false then -1 else if σ 55 c.toNatClampNeg = -1 then -3 else bi (alb (mwl σ c.toNatClampNeg) n)
theorem cX11_well_ok (κ : gm_K) (b : Bool) (σ : wg_S) (n m j r : Nat) (C : MI σ n m j r) (c : Int32) : Fn κ mX11_well [.ref 47, .int c] (gg b) σ (some (.int (M_well σ n c))) (gg b) σ := by
  refine go_start (by decide) (Nat.le_of_ble_eq_true rfl) ?_
  obtain ⟨⟨hN, hn⟩, ⟨hM, hm⟩, ⟨hJ, hj⟩, ⟨hR, hr⟩, hT, hX⟩ := id C
  have tail : ∀ x, x < n → Go κ mX11_well 23 [some (.ref 47), some (.int (nI x)), none, none] [] (wd (gg b) σ) (0, 0) (fun z h' => z = some (.int (bi (alb (mwl σ x) n))) ∧ h' = wd (gg b) σ) := by
    intro x hx
    have loop : ∀ (i : Nat), i ≤ n → Go κ mX11_well 27 [some (.ref 47), some (.int (nI x)), some (.int (bi (alb (mwl σ x) i))), some (.int (nI i))] [] (wd (gg b) σ) (0, 0) (fun z h' => z = some (.int (bi (alb (mwl σ x) n))) ∧ h' = wd (gg b) σ) := by
      refine lo_up n (fun i hi ih => ?_)
      have hs1 : alb (mwl σ x) (i + 1) = (alb (mwl σ x) i && (mwl σ x) i) := rfl
      cases hb : alb (mwl σ x) i with
      | false =>
        rw [hb, Bool.false_and] at hs1
        refine go_iload_n dX11_well_27 rfl ?_
        refine go_aload_n dX11_well_28 rfl ?_
        refine gs_gi dX11_well_29 flX11_134 (gg_47 b) rfl (hN) ?_
        refine go_icmp_geN 91 dX11_well_32 (by decide) (by omega) (by omega) (fun c32 => ?_) (fun c32 => ?_)
        · refine go_iload_n dX11_well_91 rfl ?_
          refine go_if_eq 99 dX11_well_92 (by decide) (fun _ => ?_) (fun z => absurd z (by decide))
          refine go_iconst (v := nI 0) dX11_well_99 (by decide) ?_
          refine go_iret dX11_well_100 rfl rfl ?_
          have e : i = n := by omega
          subst e
          rw [hb]
          exact ⟨rfl, rfl⟩
        · refine go_iload_n dX11_well_35 rfl ?_
          refine go_if_eq 83 dX11_well_36 (by decide) (fun _ => ?_) (fun z => absurd z (by decide))
          refine go_iconst (v := nI 0) dX11_well_83 (by decide) ?_
          refine go_istore_n (lv' := [_, _, _, _]) dX11_well_84 rfl rfl rfl ?_
          refine go_iincN (lv' := [_, _, _, _]) 1 dX11_well_85 (by decide) rfl rfl rfl rfl ?_
          refine go_goto 27 dX11_well_88 (by decide) ?_
          exact go_wk (by rw [hs1]; simp [lvle, bi, nI_0]) (ih c32)
      | true =>
        rw [hb, Bool.true_and] at hs1
        refine go_iload_n dX11_well_27 rfl ?_
        refine go_aload_n dX11_well_28 rfl ?_
        refine gs_gi dX11_well_29 flX11_134 (gg_47 b) rfl (hN) ?_
        refine go_icmp_geN 91 dX11_well_32 (by decide) (by omega) (by omega) (fun c32 => ?_) (fun c32 => ?_)
        · refine go_iload_n dX11_well_91 rfl ?_
          refine go_if_eq 99 dX11_well_92 (by decide) (fun z => absurd z (by decide)) (fun _ => ?_)
          refine go_iconst (v := nI 1) dX11_well_95 (by decide) ?_
          refine go_goto 100 dX11_well_96 (by decide) ?_
          refine go_iret dX11_well_100 rfl rfl ?_
          have e : i = n := by omega
          subst e
          rw [hb]
          exact ⟨rfl, rfl⟩
        · refine go_iload_n dX11_well_35 rfl ?_
          refine go_if_eq 83 dX11_well_36 (by decide) (fun z => absurd z (by decide)) (fun _ => ?_)
          refine go_aload_n dX11_well_39 rfl ?_
          refine gs_gr dX11_well_40 flX11_31 (gg_47 b) rfl ?_
          refine go_iload_n dX11_well_43 rfl ?_
          refine gs_iald (_) dX11_well_44 (gg_55 b) (rfl) (by omega) rfl (rfl) ?_
          refine go_iconst (v := -1) dX11_well_45 (by decide) ?_
          refine go_icmp_eq 79 dX11_well_46 (by decide) (fun c46 => ?_) (fun c46 => ?_)
          · refine go_iconst (v := nI 1) dX11_well_79 (by decide) ?_
            refine go_goto 84 dX11_well_80 (by decide) ?_
            refine go_istore_n (lv' := [_, _, _, _]) dX11_well_84 rfl rfl rfl ?_
            refine go_iincN (lv' := [_, _, _, _]) 1 dX11_well_85 (by decide) rfl rfl rfl rfl ?_
            refine go_goto 27 dX11_well_88 (by decide) ?_
            exact go_wk (by rw [hs1]; simp [lvle, bi, nI_0, mwl, c32, c46]) (ih c32)
          · refine go_aload_n dX11_well_49 rfl ?_
            refine gs_gr dX11_well_50 flX11_31 (gg_47 b) rfl ?_
            refine go_iload_n dX11_well_53 rfl ?_
            refine gs_iald (_) dX11_well_54 (gg_55 b) (rfl) (by omega) rfl (rfl) ?_
            refine go_aload_n dX11_well_55 rfl ?_
            refine gs_gr dX11_well_56 flX11_31 (gg_47 b) rfl ?_
            refine go_iload_n dX11_well_59 rfl ?_
            refine gs_iald (_) dX11_well_60 (gg_55 b) (rfl) (by omega) rfl (rfl) ?_
            refine go_icmp_ge 79 dX11_well_61 (by decide) (fun c61 => ?_) (fun c61 => ?_)
            · refine go_iconst (v := nI 1) dX11_well_79 (by decide) ?_
              refine go_goto 84 dX11_well_80 (by decide) ?_
              refine go_istore_n (lv' := [_, _, _, _]) dX11_well_84 rfl rfl rfl ?_
              refine go_iincN (lv' := [_, _, _, _]) 1 dX11_well_85 (by decide) rfl rfl rfl rfl ?_
              refine go_goto 27 dX11_well_88 (by decide) ?_
              exact go_wk (by rw [hs1]; simp [lvle, bi, nI_0, mwl, c32, c46, c61]) (ih c32)
            · refine go_aload_n dX11_well_64 rfl ?_
              refine gs_gr dX11_well_65 flX11_22 (gg_47 b) rfl ?_
              refine go_iload_n dX11_well_68 rfl ?_
              refine gs_iald (_) dX11_well_69 (gg_52 b) (rfl) (by omega) rfl (rfl) ?_
              refine go_aload_n dX11_well_70 rfl ?_
              refine gs_gr dX11_well_71 flX11_22 (gg_47 b) rfl ?_
              refine go_iload_n dX11_well_74 rfl ?_
              refine gs_iald (_) dX11_well_75 (gg_52 b) (rfl) (by omega) rfl (rfl) ?_
              refine go_icmp_gt 83 dX11_well_76 (by decide) (fun c76 => ?_) (fun c76 => ?_)
              · refine go_iconst (v := nI 0) dX11_well_83 (by decide) ?_
                refine go_istore_n (lv' := [_, _, _, _]) dX11_well_84 rfl rfl rfl ?_
                refine go_iincN (lv' := [_, _, _, _]) 1 dX11_well_85 (by decide) rfl rfl rfl rfl ?_
                refine go_goto 27 dX11_well_88 (by decide) ?_
                exact go_wk (by rw [hs1]; simp [lvle, bi, nI_0, mwl, c32, c46, c61, c76]) (ih c32)
              · refine go_iconst (v := nI 1) dX11_well_79 (by decide) ?_
                refine go_goto 84 dX11_well_80 (by decide) ?_
                refine go_istore_n (lv' := [_, _, _, _]) dX11_well_84 rfl rfl rfl ?_
                refine go_iincN (lv' := [_, _, _, _]) 1 dX11_well_85 (by decide) rfl rfl rfl rfl ?_
                refine go_goto 27 dX11_well_88 (by decide) ?_
                exact go_wk (by rw [hs1]; simp [lvle, bi, nI_0, mwl, c32, c46, c61, c76]) (ih c32)
    refine go_iconst (v := nI 1) dX11_well_23 (by decide) ?_
    refine go_istore_n (lv' := [_, _, _, _]) dX11_well_24 rfl rfl rfl ?_
    refine go_iconst (v := nI 0) dX11_well_25 (by decide) ?_
    refine go_istore_n (lv' := [_, _, _, _]) dX11_well_26 rfl rfl rfl ?_
    exact loop 0 (Nat.zero_le _)
  refine go_aload_n dX11_well_0 rfl ?_
  refine go_iload_n dX11_well_1 rfl ?_
  refine gs_callVi dX11_well_2 cvX11_well_162 (cX11_isChoir_ok κ b σ _) rfl (gg_47 b) rfl rfl rfl ⟨rfl, rfl⟩ rfl ?_
  refine go_if_neB 10 dX11_well_5 (by decide) (fun c5 => ?_) (fun c5 => ?_)
  · obtain ⟨x, hx, rfl⟩ := hs_ix (by omega) (hN ▸ c5)
    have ex := nI_clamp (show x < 2 ^ 31 by omega)
    refine go_aload_n dX11_well_10 rfl ?_
    refine gs_gr dX11_well_11 flX11_31 (gg_47 b) rfl ?_
    refine go_iload_n dX11_well_14 rfl ?_
    refine gs_iald (_) dX11_well_15 (gg_55 b) (rfl) (by omega) rfl (rfl) ?_
    refine go_iconst (v := -1) dX11_well_16 (by decide) ?_
    refine go_icmp_ne 23 dX11_well_17 (by decide) (fun c17 => ?_) (fun c17 => ?_)
    · refine go_mono ?_ (tail x hx)
      rintro z h' ⟨h1, h2⟩
      exact ⟨by rw [h1]; simp [M_well, ex, c5, ex, c17], h2⟩
    · refine go_bipush (v := -3) dX11_well_20 (by decide) ?_
      refine go_iret dX11_well_22 rfl rfl ?_
      exact ⟨by simp +decide [M_well, c5, ex, c17], rfl⟩
  · refine go_iconst (v := -1) dX11_well_8 (by decide) ?_
    refine go_iret dX11_well_9 rfl rfl ?_
    exact ⟨by simp +decide [M_well, c5], rfl⟩
def M_clL (σ : wg_S) (n : Nat) : Int32 := sm (fun i => if σ 55 i = -1 then nI 0 else if mgl (σ 47 35) (σ 56 i) (msz σ i) then msc (σ 47 35) (σ 56 i) (msz σ i) else nI 0) n
def M_clR (σ : wg_S) (n : Nat) : Int32 := sm (fun i => if σ 55 i = -1 then nI 0 else if mgl (σ 47 35) (σ 56 i) (msz σ i) then nI 0 else msc (σ 47 35) (σ 56 i) (msz σ i)) n
def M_clear (σ : wg_S) (n : Nat) : Int32 := if M_clL σ n ≤ M_clR σ n then M_clR σ n else M_clL σ n
theorem cX11_clear_ok (κ : gm_K) (b : Bool) (σ : wg_S) (n : Nat) (hn : n ≤ 16) (hN : σ 47 0 = nI n) : Fn κ mX11_clear [.ref 47] (gg b) σ (some (.int (M_clear σ n))) (gg b) σ := by
  refine go_start (by decide) (Nat.le_of_ble_eq_true rfl) ?_
  have loop : ∀ (i : Nat), i ≤ n → Go κ mX11_clear 6 [some (.ref 47), some (.int (M_clL σ i)), some (.int (M_clR σ i)), some (.int (nI i)), none] [] (wd (gg b) σ) (0, 0) (fun r h' => r = some (.int (M_clear σ n)) ∧ h' = wd (gg b) σ) := by
    refine lo_up n (fun i hi ih => ?_)
    refine go_iload_n dX11_clear_6 rfl ?_
    refine go_aload_n dX11_clear_7 rfl ?_
    refine gs_gi dX11_clear_8 flX11_134 (gg_47 b) rfl (hN) ?_
    refine go_icmp_geN 101 dX11_clear_11 (by decide) (by omega) (by omega) (fun c11 => ?_) (fun c11 => ?_)
    · refine go_iload_n dX11_clear_101 rfl ?_
      refine go_iload_n dX11_clear_102 rfl ?_
      refine go_icmp_le 110 dX11_clear_103 (by decide) (fun c103 => ?_) (fun c103 => ?_)
      · refine go_iload_n dX11_clear_110 rfl ?_
        refine go_iret dX11_clear_111 rfl rfl ?_
        have e : i = n := by omega
        subst e
        exact ⟨by rw [M_clear]; simp [c11, c103], rfl⟩
      · refine go_iload_n dX11_clear_106 rfl ?_
        refine go_goto 111 dX11_clear_107 (by decide) ?_
        refine go_iret dX11_clear_111 rfl rfl ?_
        have e : i = n := by omega
        subst e
        exact ⟨by rw [M_clear]; simp [c11, c103], rfl⟩
    · refine go_aload_n dX11_clear_14 rfl ?_
      refine gs_gr dX11_clear_15 flX11_31 (gg_47 b) rfl ?_
      refine go_iload_n dX11_clear_18 rfl ?_
      refine gs_iald (_) dX11_clear_19 (gg_55 b) (rfl) (by omega) rfl (rfl) ?_
      refine go_iconst (v := -1) dX11_clear_20 (by decide) ?_
      refine go_icmp_eq 95 dX11_clear_21 (by decide) (fun c21 => ?_) (fun c21 => ?_)
      · refine go_iincN (lv' := [_, _, _, _, _]) 1 dX11_clear_95 (by decide) rfl rfl rfl rfl ?_
        refine go_goto 6 dX11_clear_98 (by decide) ?_
        first
          | exact absurd (c57.symm.trans c84) (by decide)
          | exact go_wk (by simp [lvle, M_clL, M_clR, sm, nI_0, c11, c21]) (ih c11)
      · refine go_aload_n dX11_clear_24 rfl ?_
        refine go_aload_n dX11_clear_25 rfl ?_
        refine gs_gr dX11_clear_26 flX11_34 (gg_47 b) rfl ?_
        refine go_iload_n dX11_clear_29 rfl ?_
        refine gs_iald (_) dX11_clear_30 (gg_56 b) (rfl) (by omega) rfl (rfl) ?_
        refine go_aload_n dX11_clear_31 rfl ?_
        refine go_iload_n dX11_clear_32 rfl ?_
        refine gs_callVi dX11_clear_33 cvX11_clear_197 (cX11_sizeOf_ok κ b σ i (by omega)) rfl (gg_47 b) rfl rfl rfl ⟨rfl, rfl⟩ rfl ?_
        refine gs_callVi dX11_clear_36 cvX11_clear_275 (cX11_secondsOf_ok κ b σ _ _) rfl (gg_47 b) rfl rfl rfl ⟨rfl, rfl⟩ rfl ?_
        refine go_istore (lv' := [_, _, _, _, _]) dX11_clear_39 rfl rfl rfl ?_
        refine go_iload_n dX11_clear_41 rfl ?_
        refine go_aload_n dX11_clear_42 rfl ?_
        refine go_aload_n dX11_clear_43 rfl ?_
        refine gs_gr dX11_clear_44 flX11_34 (gg_47 b) rfl ?_
        refine go_iload_n dX11_clear_47 rfl ?_
        refine gs_iald (_) dX11_clear_48 (gg_56 b) (rfl) (by omega) rfl (rfl) ?_
        refine go_aload_n dX11_clear_49 rfl ?_
        refine go_iload_n dX11_clear_50 rfl ?_
        refine gs_callVi dX11_clear_51 cvX11_clear_197 (cX11_sizeOf_ok κ b σ i (by omega)) rfl (gg_47 b) rfl rfl rfl ⟨rfl, rfl⟩ rfl ?_
        refine gs_callVi dX11_clear_54 cvX11_clear_271 (cX11_goesLeft_ok κ b σ _ _) rfl (gg_47 b) rfl rfl rfl ⟨rfl, rfl⟩ rfl ?_
        refine go_if_eqB 65 dX11_clear_57 (by decide) (fun c57 => ?_) (fun c57 => ?_)
        · refine go_iconst (v := nI 0) dX11_clear_65 (by decide) ?_
          refine go_iadd dX11_clear_66 ?_
          refine go_istore_n (lv' := [_, _, _, _, _]) dX11_clear_67 rfl rfl rfl ?_
          refine go_iload_n dX11_clear_68 rfl ?_
          refine go_aload_n dX11_clear_69 rfl ?_
          refine go_aload_n dX11_clear_70 rfl ?_
          refine gs_gr dX11_clear_71 flX11_34 (gg_47 b) rfl ?_
          refine go_iload_n dX11_clear_74 rfl ?_
          refine gs_iald (_) dX11_clear_75 (gg_56 b) (rfl) (by omega) rfl (rfl) ?_
          refine go_aload_n dX11_clear_76 rfl ?_
          refine go_iload_n dX11_clear_77 rfl ?_
          refine gs_callVi dX11_clear_78 cvX11_clear_197 (cX11_sizeOf_ok κ b σ i (by omega)) rfl (gg_47 b) rfl rfl rfl ⟨rfl, rfl⟩ rfl ?_
          refine gs_callVi dX11_clear_81 cvX11_clear_271 (cX11_goesLeft_ok κ b σ _ _) rfl (gg_47 b) rfl rfl rfl ⟨rfl, rfl⟩ rfl ?_
          refine go_if_eqB 91 dX11_clear_84 (by decide) (fun c84 => ?_) (fun c84 => ?_)
          · first | skip | skip
            refine go_iload dX11_clear_91 rfl ?_
            refine go_iadd dX11_clear_93 ?_
            refine go_istore_n (lv' := [_, _, _, _, _]) dX11_clear_94 rfl rfl rfl ?_
            refine go_iincN (lv' := [_, _, _, _, _]) 1 dX11_clear_95 (by decide) rfl rfl rfl rfl ?_
            refine go_goto 6 dX11_clear_98 (by decide) ?_
            first
              | exact absurd (c57.symm.trans c84) (by decide)
              | exact go_wk (by simp [lvle, M_clL, M_clR, sm, nI_0, c11, c21, c57, c84]) (ih c11)
          · refine go_iconst (v := nI 0) dX11_clear_87 (by decide) ?_
            refine go_goto 93 dX11_clear_88 (by decide) ?_
            refine go_iadd dX11_clear_93 ?_
            refine go_istore_n (lv' := [_, _, _, _, _]) dX11_clear_94 rfl rfl rfl ?_
            refine go_iincN (lv' := [_, _, _, _, _]) 1 dX11_clear_95 (by decide) rfl rfl rfl rfl ?_
            refine go_goto 6 dX11_clear_98 (by decide) ?_
            first
              | exact absurd (c57.symm.trans c84) (by decide)
              | exact go_wk (by simp [lvle, M_clL, M_clR, sm, nI_0, c11, c21, c57, c84]) (ih c11)
        · refine go_iload dX11_clear_60 rfl ?_
          refine go_goto 66 dX11_clear_62 (by decide) ?_
          refine go_iadd dX11_clear_66 ?_
          refine go_istore_n (lv' := [_, _, _, _, _]) dX11_clear_67 rfl rfl rfl ?_
          refine go_iload_n dX11_clear_68 rfl ?_
          refine go_aload_n dX11_clear_69 rfl ?_
          refine go_aload_n dX11_clear_70 rfl ?_
          refine gs_gr dX11_clear_71 flX11_34 (gg_47 b) rfl ?_
          refine go_iload_n dX11_clear_74 rfl ?_
          refine gs_iald (_) dX11_clear_75 (gg_56 b) (rfl) (by omega) rfl (rfl) ?_
          refine go_aload_n dX11_clear_76 rfl ?_
          refine go_iload_n dX11_clear_77 rfl ?_
          refine gs_callVi dX11_clear_78 cvX11_clear_197 (cX11_sizeOf_ok κ b σ i (by omega)) rfl (gg_47 b) rfl rfl rfl ⟨rfl, rfl⟩ rfl ?_
          refine gs_callVi dX11_clear_81 cvX11_clear_271 (cX11_goesLeft_ok κ b σ _ _) rfl (gg_47 b) rfl rfl rfl ⟨rfl, rfl⟩ rfl ?_
          refine go_if_eqB 91 dX11_clear_84 (by decide) (fun c84 => ?_) (fun c84 => ?_)
          · first | skip | skip
            refine go_iload dX11_clear_91 rfl ?_
            refine go_iadd dX11_clear_93 ?_
            refine go_istore_n (lv' := [_, _, _, _, _]) dX11_clear_94 rfl rfl rfl ?_
            refine go_iincN (lv' := [_, _, _, _, _]) 1 dX11_clear_95 (by decide) rfl rfl rfl rfl ?_
            refine go_goto 6 dX11_clear_98 (by decide) ?_
            first
              | exact absurd (c57.symm.trans c84) (by decide)
              | exact go_wk (by simp [lvle, M_clL, M_clR, sm, nI_0, c11, c21, c57, c84]) (ih c11)
          · refine go_iconst (v := nI 0) dX11_clear_87 (by decide) ?_
            refine go_goto 93 dX11_clear_88 (by decide) ?_
            refine go_iadd dX11_clear_93 ?_
            refine go_istore_n (lv' := [_, _, _, _, _]) dX11_clear_94 rfl rfl rfl ?_
            refine go_iincN (lv' := [_, _, _, _, _]) 1 dX11_clear_95 (by decide) rfl rfl rfl rfl ?_
            refine go_goto 6 dX11_clear_98 (by decide) ?_
            first
              | exact absurd (c57.symm.trans c84) (by decide)
              | exact go_wk (by simp [lvle, M_clL, M_clR, sm, nI_0, c11, c21, c57, c84]) (ih c11)
  refine go_iconst (v := nI 0) dX11_clear_0 (by decide) ?_
  refine go_istore_n (lv' := [_, _, _, _, _]) dX11_clear_1 rfl rfl rfl ?_
  refine go_iconst (v := nI 0) dX11_clear_2 (by decide) ?_
  refine go_istore_n (lv' := [_, _, _, _, _]) dX11_clear_3 rfl rfl rfl ?_
  refine go_iconst (v := nI 0) dX11_clear_4 (by decide) ?_
  refine go_istore_n (lv' := [_, _, _, _, _]) dX11_clear_5 rfl rfl rfl ?_
  exact loop 0 (Nat.zero_le _)
theorem cX11_countBits_ok (κ : gm_K) (b : Bool) (σ : wg_S) (x : Int32) : Fn κ mX11_countBits [.int x] (gg b) σ (some (.int (sm (bv x) 31))) (gg b) σ := by
  refine go_start (by decide) (Nat.le_of_ble_eq_true rfl) ?_
  refine go_iconst (v := nI 0) dX11_countBits_0 (by decide) ?_
  refine go_istore_n (lv' := [_, _, _]) dX11_countBits_1 rfl rfl rfl ?_
  refine go_iconst (v := nI 0) dX11_countBits_2 (by decide) ?_
  refine go_istore_n (lv' := [_, _, _]) dX11_countBits_3 rfl rfl rfl ?_
  skip
  refine lo_up 31 (P := fun i => Go κ mX11_countBits 4 [some (.int x), some (.int (sm (bv x) i)), some (.int (nI i))] [] (wd (gg b) σ) (0, 0) _) (fun i hi ih => ?_) 0 (Nat.zero_le _)
  refine go_iload_n dX11_countBits_4 rfl ?_
  refine go_bipush (v := nI 31) dX11_countBits_5 (by decide) ?_
  refine go_icmp_geN 24 dX11_countBits_7 (by decide) (by omega) (by omega) (fun c7 => ?_) (fun c7 => ?_)
  · refine go_iload_n dX11_countBits_24 rfl ?_
    refine go_iret dX11_countBits_25 rfl rfl ?_
    have e : i = 31 := by omega
    subst e
    exact ⟨rfl, rfl⟩
  · refine go_iload_n dX11_countBits_10 rfl ?_
    refine go_iload_n dX11_countBits_11 rfl ?_
    refine go_iload_n dX11_countBits_12 rfl ?_
    refine go_ishr dX11_countBits_13 ?_
    refine go_iconst (v := nI 1) dX11_countBits_14 (by decide) ?_
    refine go_iand dX11_countBits_15 ?_
    refine go_iadd dX11_countBits_16 ?_
    refine go_istore_n (lv' := [_, _, _]) dX11_countBits_17 rfl rfl rfl ?_
    refine go_iincN (lv' := [_, _, _]) 1 dX11_countBits_18 (by decide) rfl rfl rfl rfl ?_
    refine go_goto 4 dX11_countBits_21 (by decide) ?_
    exact ih c7
