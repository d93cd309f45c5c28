def mfb (σ : wg_S) (n t : Nat) : Int32 := σ 83 t - mtk σ n (nI t)
def mft (σ : wg_S) (n c t : Nat) : Bool := !decide (nI t = σ 49 c) && !decide (mfb σ n t < msz σ c)
def mbt (σ : wg_S) (n c : Nat) : Nat → Option Nat
  | 0 => none
  | t + 1 => if mft σ n c t && (match mbt σ n c t with | none => true | some u => !decide (mfb σ n u ≤ mfb σ n t)) then some t else mbt σ n c t
theorem mbt_lt (σ : wg_S) (n c : Nat) : ∀ (t u : Nat), mbt σ n c t = some u → u < t
  | 0, u, h => by simp [mbt] at h
  | t + 1, u, h => by
    rw [show mbt σ n c (t + 1) = if mft σ n c t && (match mbt σ n c t with | none => true | some u => !decide (mfb σ n u ≤ mfb σ n t)) then some t else mbt σ n c t from rfl] at h
    by_cases hc : (mft σ n c t && (match mbt σ n c t with | none => true | some u => !decide (mfb σ n u ≤ mfb σ n t))) = true
    · rw [if_pos hc] at h; cases h; omega
    · rw [if_neg hc] at h; have := mbt_lt σ n c t u h; omega
def mbl (σ : wg_S) (n : Nat) (set : Int32) : Nat → Int32 × wg_S
  | 0 => (nI 0, σ)
  | i + 1 => if bv set i = nI 1 ∧ (mbl σ n set i).2 53 i = -1 then ((mbl σ n set i).1 + (match mbt (mbl σ n set i).2 n i 8 with | none => nI 1 | some _ => nI 0), us (mbl σ n set i).2 53 i (oI (mbt (mbl σ n set i).2 n i 8))) else mbl σ n set i
theorem mbl_s (σ : wg_S) (n : Nat) (set : Int32) (i : Nat) : mbl σ n set (i + 1) = if bv set i = nI 1 ∧ (mbl σ n set i).2 53 i = -1 then ((mbl σ n set i).1 + (match mbt (mbl σ n set i).2 n i 8 with | none => nI 1 | some _ => nI 0), us (mbl σ n set i).2 53 i (oI (mbt (mbl σ n set i).2 n i 8))) else mbl σ n set i := rfl
theorem mbl_p {σ : wg_S} {n : Nat} {set : Int32} {p : Nat} (h : p ≠ 53) : ∀ i, (mbl σ n set i).2 p = σ p
  | 0 => rfl
  | i + 1 => by
    rw [mbl_s]
    split
    · show us _ 53 _ _ p = _
      rw [us_p h]; exact mbl_p h i
    · exact mbl_p h i
def M_bed (σ : wg_S) (n : Nat) (set : Int32) : Int32 × wg_S := if set < 0 then (-2, σ) else if ¬ set < nI 1 <<< (σ 47 0 &&& 31) then (-2, σ) else mbl σ n set n
theorem bed_in (κ : gm_K) (b : Bool) (τ : wg_S) (n : Nat) (hn : n ≤ 16) (hN' : τ 47 0 = nI n) (set w : Int32) (c : Nat) (hc : c < n) (Φ : Option Value → gm_H → Prop)
    (fin : Go κ mX11_bed 150 [some (.ref 47), some (.int set), some (.int w), some (.int (nI c)), some (.int (oI (mbt τ n c 8))), none, none, none] [] (wd (gg b) τ) (0, 0) Φ) :
    ∀ i, i ≤ 8 → Go κ mX11_bed 54 [some (.ref 47), some (.int set), some (.int w), some (.int (nI c)), some (.int (oI (mbt τ n c i))), some (.int (nI i)), none, none] [] (wd (gg b) τ) (0, 0) Φ := by
    refine lo_up 8 (fun i hi ih => ?_)
    have hs' : mbt τ n c (i + 1) = if mft τ n c i && (match mbt τ n c i with | none => true | some u => !decide (mfb τ n u ≤ mfb τ n i)) then some i else mbt τ n c i := rfl
    have hlt := mbt_lt τ n c i
    have htk : ∀ t, Fn κ mX11_takenIn [.ref 47, .int (nI t)] (gg b) τ (some (.int (mtk τ n (nI t)))) (gg b) τ := fun t => cX11_takenIn_ok κ b τ n hn hN' (nI t)
    have hfb : ∀ t, τ 83 t - mtk τ n (nI t) = mfb τ n t := fun t => rfl
    cases hp : mbt τ n c i with
    | none =>
      rw [hp] at hs'
      refine go_iload dX11_bed_54 rfl ?_
      refine go_bipush (v := nI 8) dX11_bed_56 (by decide) ?_
      refine go_icmp_geN 150 dX11_bed_58 (by decide) (by omega) (by omega) (fun c58 => ?_) (fun c58 => ?_)
      · have e : i = 8 := by omega
        subst e
        rw [hp] at fin
        exact go_wk (by exact ⟨rfl, rfl, rfl, rfl, rfl, trivial⟩) fin
      · refine go_aload_n dX11_bed_61 rfl ?_
        refine gs_gr dX11_bed_62 flX11_125 (gg_47 b) rfl ?_
        refine go_iload dX11_bed_65 rfl ?_
        refine gs_iald (_) dX11_bed_67 (gg_83 b) (rfl) (by omega) rfl (rfl) ?_
        refine go_aload_n dX11_bed_68 rfl ?_
        refine go_iload dX11_bed_69 rfl ?_
        refine gs_callVi dX11_bed_71 cvX11_bed_303 (htk i) rfl (gg_47 b) rfl rfl rfl ⟨rfl, rfl⟩ rfl ?_
        refine go_isub dX11_bed_74 ?_
        refine go_topI (hfb i) ?_
        refine go_istore (lv' := [_, _, _, _, _, _, _, _]) dX11_bed_75 rfl rfl rfl ?_
        refine go_iload dX11_bed_77 rfl ?_
        refine go_aload_n dX11_bed_79 rfl ?_
        refine gs_gr dX11_bed_80 flX11_13 (gg_47 b) rfl ?_
        refine go_iload_n dX11_bed_83 rfl ?_
        refine gs_iald (_) dX11_bed_84 (gg_49 b) (rfl) (by omega) rfl (rfl) ?_
        refine go_icmp_eq 102 dX11_bed_85 (by decide) (fun c85 => ?_) (fun c85 => ?_)
        · refine go_iconst (v := nI 0) dX11_bed_102 (by decide) ?_
          refine go_istore (lv' := [_, _, _, _, _, _, _, _]) dX11_bed_103 rfl rfl rfl ?_
          refine go_iload dX11_bed_105 rfl ?_
          refine go_if_eq 140 dX11_bed_107 (by decide) (fun _ => ?_) (fun z => absurd z (by decide))
          refine go_iload dX11_bed_140 rfl ?_
          refine go_istore (lv' := [_, _, _, _, _, _, _, _]) dX11_bed_142 rfl rfl rfl ?_
          refine go_iincN (lv' := [_, _, _, _, _, _, _, _]) 1 dX11_bed_144 (by decide) rfl rfl rfl rfl ?_
          refine go_goto 54 dX11_bed_147 (by decide) ?_
          exact go_wk (by rw [hs']; simp +decide [lvle, oI, mft, c58, c85]) (ih c58)
        · refine go_iload dX11_bed_88 rfl ?_
          refine go_aload_n dX11_bed_90 rfl ?_
          refine go_iload_n dX11_bed_91 rfl ?_
          refine gs_callVi dX11_bed_92 cvX11_bed_197 (cX11_sizeOf_ok κ b τ c (by omega)) rfl (gg_47 b) rfl rfl rfl ⟨rfl, rfl⟩ rfl ?_
          refine go_icmp_lt 102 dX11_bed_95 (by decide) (fun c95 => ?_) (fun c95 => ?_)
          · refine go_iconst (v := nI 0) dX11_bed_102 (by decide) ?_
            refine go_istore (lv' := [_, _, _, _, _, _, _, _]) dX11_bed_103 rfl rfl rfl ?_
            refine go_iload dX11_bed_105 rfl ?_
            refine go_if_eq 140 dX11_bed_107 (by decide) (fun _ => ?_) (fun z => absurd z (by decide))
            refine go_iload dX11_bed_140 rfl ?_
            refine go_istore (lv' := [_, _, _, _, _, _, _, _]) dX11_bed_142 rfl rfl rfl ?_
            refine go_iincN (lv' := [_, _, _, _, _, _, _, _]) 1 dX11_bed_144 (by decide) rfl rfl rfl rfl ?_
            refine go_goto 54 dX11_bed_147 (by decide) ?_
            exact go_wk (by rw [hs']; simp +decide [lvle, oI, mft, c58, c85, c95]) (ih c58)
          · refine go_iconst (v := nI 1) dX11_bed_98 (by decide) ?_
            refine go_goto 103 dX11_bed_99 (by decide) ?_
            refine go_istore (lv' := [_, _, _, _, _, _, _, _]) dX11_bed_103 rfl rfl rfl ?_
            refine go_iload dX11_bed_105 rfl ?_
            refine go_if_eq 140 dX11_bed_107 (by decide) (fun z => absurd z (by decide)) (fun _ => ?_)
            refine go_iload dX11_bed_110 rfl ?_
            refine go_iconst (v := -1) dX11_bed_112 (by decide) ?_
            refine go_icmp_eq 135 dX11_bed_113 (by decide) (fun _ => ?_) (fun z => absurd z (by decide))
            refine go_iload dX11_bed_135 rfl ?_
            refine go_goto 142 dX11_bed_137 (by decide) ?_
            refine go_istore (lv' := [_, _, _, _, _, _, _, _]) dX11_bed_142 rfl rfl rfl ?_
            refine go_iincN (lv' := [_, _, _, _, _, _, _, _]) 1 dX11_bed_144 (by decide) rfl rfl rfl rfl ?_
            refine go_goto 54 dX11_bed_147 (by decide) ?_
            exact go_wk (by rw [hs']; simp +decide [lvle, oI, mft, c58, c85, c95]) (ih c58)
    | some u =>
      have hu := hlt u hp
      rw [hp] at hs'
      rw [show oI (some u) = nI u from rfl]
      refine go_iload dX11_bed_54 rfl ?_
      refine go_bipush (v := nI 8) dX11_bed_56 (by decide) ?_
      refine go_icmp_geN 150 dX11_bed_58 (by decide) (by omega) (by omega) (fun c58 => ?_) (fun c58 => ?_)
      · have e : i = 8 := by omega
        subst e
        rw [hp] at fin
        exact go_wk (by exact ⟨rfl, rfl, rfl, rfl, rfl, trivial⟩) fin
      · refine go_aload_n dX11_bed_61 rfl ?_
        refine gs_gr dX11_bed_62 flX11_125 (gg_47 b) rfl ?_
        refine go_iload dX11_bed_65 rfl ?_
        refine gs_iald (_) dX11_bed_67 (gg_83 b) (rfl) (by omega) rfl (rfl) ?_
        refine go_aload_n dX11_bed_68 rfl ?_
        refine go_iload dX11_bed_69 rfl ?_
        refine gs_callVi dX11_bed_71 cvX11_bed_303 (htk i) rfl (gg_47 b) rfl rfl rfl ⟨rfl, rfl⟩ rfl ?_
        refine go_isub dX11_bed_74 ?_
        refine go_topI (hfb i) ?_
        refine go_istore (lv' := [_, _, _, _, _, _, _, _]) dX11_bed_75 rfl rfl rfl ?_
        refine go_iload dX11_bed_77 rfl ?_
        refine go_aload_n dX11_bed_79 rfl ?_
        refine gs_gr dX11_bed_80 flX11_13 (gg_47 b) rfl ?_
        refine go_iload_n dX11_bed_83 rfl ?_
        refine gs_iald (_) dX11_bed_84 (gg_49 b) (rfl) (by omega) rfl (rfl) ?_
        refine go_icmp_eq 102 dX11_bed_85 (by decide) (fun c85 => ?_) (fun c85 => ?_)
        · refine go_iconst (v := nI 0) dX11_bed_102 (by decide) ?_
          refine go_istore (lv' := [_, _, _, _, _, _, _, _]) dX11_bed_103 rfl rfl rfl ?_
          refine go_iload dX11_bed_105 rfl ?_
          refine go_if_eq 140 dX11_bed_107 (by decide) (fun _ => ?_) (fun z => absurd z (by decide))
          refine go_iload dX11_bed_140 rfl ?_
          refine go_istore (lv' := [_, _, _, _, _, _, _, _]) dX11_bed_142 rfl rfl rfl ?_
          refine go_iincN (lv' := [_, _, _, _, _, _, _, _]) 1 dX11_bed_144 (by decide) rfl rfl rfl rfl ?_
          refine go_goto 54 dX11_bed_147 (by decide) ?_
          exact go_wk (by rw [hs']; simp +decide [lvle, oI, mft, c58, c85]) (ih c58)
        · refine go_iload dX11_bed_88 rfl ?_
          refine go_aload_n dX11_bed_90 rfl ?_
          refine go_iload_n dX11_bed_91 rfl ?_
          refine gs_callVi dX11_bed_92 cvX11_bed_197 (cX11_sizeOf_ok κ b τ c (by omega)) rfl (gg_47 b) rfl rfl rfl ⟨rfl, rfl⟩ rfl ?_
          refine go_icmp_lt 102 dX11_bed_95 (by decide) (fun c95 => ?_) (fun c95 => ?_)
          · refine go_iconst (v := nI 0) dX11_bed_102 (by decide) ?_
            refine go_istore (lv' := [_, _, _, _, _, _, _, _]) dX11_bed_103 rfl rfl rfl ?_
            refine go_iload dX11_bed_105 rfl ?_
            refine go_if_eq 140 dX11_bed_107 (by decide) (fun _ => ?_) (fun z => absurd z (by decide))
            refine go_iload dX11_bed_140 rfl ?_
            refine go_istore (lv' := [_, _, _, _, _, _, _, _]) dX11_bed_142 rfl rfl rfl ?_
            refine go_iincN (lv' := [_, _, _, _, _, _, _, _]) 1 dX11_bed_144 (by decide) rfl rfl rfl rfl ?_
            refine go_goto 54 dX11_bed_147 (by decide) ?_
            exact go_wk (by rw [hs']; simp +decide [lvle, oI, mft, c58, c85, c95]) (ih c58)
          · refine go_iconst (v := nI 1) dX11_bed_98 (by decide) ?_
            refine go_goto 103 dX11_bed_99 (by decide) ?_
            refine go_istore (lv' := [_, _, _, _, _, _, _, _]) dX11_bed_103 rfl rfl rfl ?_
            refine go_iload dX11_bed_105 rfl ?_
            refine go_if_eq 140 dX11_bed_107 (by decide) (fun z => absurd z (by decide)) (fun _ => ?_)
            refine go_iload dX11_bed_110 rfl ?_
            refine go_iconst (v := -1) dX11_bed_112 (by decide) ?_
            refine go_icmp_eq 135 dX11_bed_113 (by decide) (fun c113 => ?_) (fun c113 => ?_)
            · exact absurd c113 (nI_m1 (by omega))
            · refine go_iload dX11_bed_116 rfl ?_
              refine go_aload_n dX11_bed_118 rfl ?_
              refine gs_gr dX11_bed_119 flX11_125 (gg_47 b) rfl ?_
              refine go_iload dX11_bed_122 rfl ?_
              refine gs_iald (_) dX11_bed_124 (gg_83 b) (rfl) (by omega) rfl (rfl) ?_
              refine go_aload_n dX11_bed_125 rfl ?_
              refine go_iload dX11_bed_126 rfl ?_
              refine gs_callVi dX11_bed_128 cvX11_bed_303 (htk u) rfl (gg_47 b) rfl rfl rfl ⟨rfl, rfl⟩ rfl ?_
              refine go_isub dX11_bed_131 ?_
              refine go_topI (hfb u) ?_
              refine go_icmp_ge 140 dX11_bed_132 (by decide) (fun c132 => ?_) (fun c132 => ?_)
              · refine go_iload dX11_bed_140 rfl ?_
                refine go_istore (lv' := [_, _, _, _, _, _, _, _]) dX11_bed_142 rfl rfl rfl ?_
                refine go_iincN (lv' := [_, _, _, _, _, _, _, _]) 1 dX11_bed_144 (by decide) rfl rfl rfl rfl ?_
                refine go_goto 54 dX11_bed_147 (by decide) ?_
                exact go_wk (by rw [hs']; simp +decide [lvle, oI, mft, c58, c85, c95, c113, c132]) (ih c58)
              · refine go_iload dX11_bed_135 rfl ?_
                refine go_goto 142 dX11_bed_137 (by decide) ?_
                refine go_istore (lv' := [_, _, _, _, _, _, _, _]) dX11_bed_142 rfl rfl rfl ?_
                refine go_iincN (lv' := [_, _, _, _, _, _, _, _]) 1 dX11_bed_144 (by decide) rfl rfl rfl rfl ?_
                refine go_goto 54 dX11_bed_147 (by decide) ?_
                exact go_wk (by rw [hs']; simp +decide [lvle, oI, mft, c58, c85, c95, c113, c132]) (ih c58)
theorem cX11_bed_ok (κ : gm_K) (b : Bool) (σ : wg_S) (n m j r : Nat) (C : MI σ n m j r) (set : Int32) : Fn κ mX11_bed [.ref 47, .int set] (gg b) σ (some (.int ((M_bed σ n set).1))) (gg b) (M_bed σ n set).2 := by
  refine go_start (by decide) (Nat.le_of_ble_eq_true rfl) ?_
  obtain ⟨⟨hN, hn⟩, ⟨hM, hm⟩, ⟨hJ, hj⟩, ⟨hR, hr⟩, hT, hX⟩ := id C
  refine go_iload_n dX11_bed_0 rfl ?_
  refine go_if_lt 14 dX11_bed_1 (by decide) (fun c1 => ?_) (fun c1 => ?_)
  · refine go_bipush (v := -2) dX11_bed_14 (by decide) ?_
    refine go_iret dX11_bed_16 rfl rfl ?_
    rw [M_bed, if_pos c1]; exact ⟨rfl, rfl⟩
  · refine go_iload_n dX11_bed_4 rfl ?_
    refine go_iconst (v := nI 1) dX11_bed_5 (by decide) ?_
    refine go_aload_n dX11_bed_6 rfl ?_
    refine gs_gi dX11_bed_7 flX11_134 (gg_47 b) rfl (rfl) ?_
    refine go_ishl dX11_bed_10 ?_
    refine go_icmp_lt 17 dX11_bed_11 (by decide) (fun c11 => ?_) (fun c11 => ?_)
    · refine go_iconst (v := nI 0) dX11_bed_17 (by decide) ?_
      refine go_istore_n (lv' := [_, _, _, _, _, _, _, _]) dX11_bed_18 rfl rfl rfl ?_
      refine go_iconst (v := nI 0) dX11_bed_19 (by decide) ?_
      refine go_istore_n (lv' := [_, _, _, _, _, _, _, _]) dX11_bed_20 rfl rfl rfl ?_
      have hK : M_bed σ n set = mbl σ n set n := by rw [M_bed, if_neg c1, if_neg (fun h => h c11)]
      refine go_wk (by exact ⟨rfl, rfl, rfl, rfl, trivial⟩) (?_ : Go κ mX11_bed 21 [some (.ref 47), some (.int set), some (.int (mbl σ n set 0).1), some (.int (nI 0)), none, none, none, none] [] (wd (gg b) (mbl σ n set 0).2) (0, 0) _)
      refine lo_up n (P := fun i => Go κ mX11_bed 21 [some (.ref 47), some (.int set), some (.int (mbl σ n set i).1), some (.int (nI i)), none, none, none, none] [] (wd (gg b) (mbl σ n set i).2) (0, 0) _) (fun i hi ih => ?_) 0 (Nat.zero_le _)
      have hs' := mbl_s σ n set i
      have hN' : (mbl σ n set i).2 47 0 = nI n := (congrFun (mbl_p (by decide) i) 0).trans hN
      refine go_iload_n dX11_bed_21 rfl ?_
      refine go_aload_n dX11_bed_22 rfl ?_
      refine gs_gi dX11_bed_23 flX11_134 (gg_47 b) rfl (hN') ?_
      refine go_icmp_geN 178 dX11_bed_26 (by decide) (by omega) (by omega) (fun c26 => ?_) (fun c26 => ?_)
      · refine go_iload_n dX11_bed_178 rfl ?_
        refine go_iret dX11_bed_179 rfl rfl ?_
        have e : i = n := by omega
        subst e
        rw [hK]
        exact ⟨rfl, rfl⟩
      · refine go_iload_n dX11_bed_29 rfl ?_
        refine go_iload_n dX11_bed_30 rfl ?_
        refine go_ishr dX11_bed_31 ?_
        refine go_iconst (v := nI 1) dX11_bed_32 (by decide) ?_
        refine go_iand dX11_bed_33 ?_
        refine go_iconst (v := nI 1) dX11_bed_34 (by decide) ?_
        refine go_icmp_ne 172 dX11_bed_35 (by decide) (fun c35 => ?_) (fun c35 => ?_)
        · rw [if_neg (fun z => c35 z.1)] at hs'
          refine go_iincN (lv' := [_, _, _, _, _, _, _, _]) 1 dX11_bed_172 (by decide) rfl rfl rfl rfl ?_
          refine go_goto 21 dX11_bed_175 (by decide) ?_
          exact go_wkh (by rw [hs']; exact ⟨rfl, rfl, rfl, rfl, trivial⟩) (by rw [hs']) (ih c26)
        · refine go_aload_n dX11_bed_38 rfl ?_
          refine gs_gr dX11_bed_39 flX11_25 (gg_47 b) rfl ?_
          refine go_iload_n dX11_bed_42 rfl ?_
          refine gs_iald (_) dX11_bed_43 (gg_53 b) (rfl) (by omega) rfl (rfl) ?_
          refine go_iconst (v := -1) dX11_bed_44 (by decide) ?_
          refine go_icmp_ne 172 dX11_bed_45 (by decide) (fun c45 => ?_) (fun c45 => ?_)
          · rw [if_neg (fun z => c45 z.2)] at hs'
            refine go_iincN (lv' := [_, _, _, _, _, _, _, _]) 1 dX11_bed_172 (by decide) rfl rfl rfl rfl ?_
            refine go_goto 21 dX11_bed_175 (by decide) ?_
            exact go_wkh (by rw [hs']; exact ⟨rfl, rfl, rfl, rfl, trivial⟩) (by rw [hs']) (ih c26)
          · rw [if_pos ⟨c35, c45⟩] at hs'
            refine go_iconst (v := -1) dX11_bed_48 (by decide) ?_
            refine go_istore (lv' := [_, _, _, _, _, _, _, _]) dX11_bed_49 rfl rfl rfl ?_
            refine go_iconst (v := nI 0) dX11_bed_51 (by decide) ?_
            refine go_istore (lv' := [_, _, _, _, _, _, _, _]) dX11_bed_52 rfl rfl rfl ?_
            refine go_wk (by exact ⟨rfl, rfl, rfl, rfl, rfl, rfl, trivial⟩) (bed_in κ b _ n hn hN' set _ i c26 _ ?_ 0 (Nat.zero_le _))
            cases hm8 : mbt (mbl σ n set i).2 n i 8 with
            | none =>
              rw [hm8] at hs'
              rw [show oI none = -1 from rfl] at hs' ⊢
              refine go_aload_n dX11_bed_150 rfl ?_
              refine gs_gr dX11_bed_151 flX11_25 (gg_47 b) rfl ?_
              refine go_iload_n dX11_bed_154 rfl ?_
              refine go_iload dX11_bed_155 rfl ?_
              refine gs_iast (_) dX11_bed_157 (gg_53 b) (rfl) (by omega) rfl ?_
              refine go_iload_n dX11_bed_158 rfl ?_
              refine go_iload dX11_bed_159 rfl ?_
              refine go_iconst (v := -1) dX11_bed_161 (by decide) ?_
              refine go_icmp_ne 169 dX11_bed_162 (by decide) (fun z => absurd z (by decide)) (fun _ => ?_)
              refine go_iconst (v := nI 1) dX11_bed_165 (by decide) ?_
              refine go_goto 170 dX11_bed_166 (by decide) ?_
              refine go_iadd dX11_bed_170 ?_
              refine go_istore_n (lv' := [_, _, _, _, _, _, _, _]) dX11_bed_171 rfl rfl rfl ?_
              refine go_iincN (lv' := [_, _, _, _, _, _, _, _]) 1 dX11_bed_172 (by decide) rfl rfl rfl rfl ?_
              refine go_goto 21 dX11_bed_175 (by decide) ?_
              exact go_wkh (by rw [hs']; exact ⟨rfl, rfl, rfl, rfl, trivial⟩) (by rw [hs']) (ih c26)
            | some u =>
              have hu := mbt_lt _ _ _ _ _ hm8
              rw [hm8] at hs'
              rw [show oI (some u) = nI u from rfl] at hs' ⊢
              refine go_aload_n dX11_bed_150 rfl ?_
              refine gs_gr dX11_bed_151 flX11_25 (gg_47 b) rfl ?_
              refine go_iload_n dX11_bed_154 rfl ?_
              refine go_iload dX11_bed_155 rfl ?_
              refine gs_iast (_) dX11_bed_157 (gg_53 b) (rfl) (by omega) rfl ?_
              refine go_iload_n dX11_bed_158 rfl ?_
              refine go_iload dX11_bed_159 rfl ?_
              refine go_iconst (v := -1) dX11_bed_161 (by decide) ?_
              refine go_icmp_ne 169 dX11_bed_162 (by decide) (fun c162 => ?_) (fun c162 => ?_)
              · refine go_iconst (v := nI 0) dX11_bed_169 (by decide) ?_
                refine go_iadd dX11_bed_170 ?_
                refine go_istore_n (lv' := [_, _, _, _, _, _, _, _]) dX11_bed_171 rfl rfl rfl ?_
                refine go_iincN (lv' := [_, _, _, _, _, _, _, _]) 1 dX11_bed_172 (by decide) rfl rfl rfl rfl ?_
                refine go_goto 21 dX11_bed_175 (by decide) ?_
                exact go_wkh (by rw [hs']; exact ⟨rfl, rfl, rfl, rfl, trivial⟩) (by rw [hs']) (ih c26)
              · exact absurd c162 (nI_m1 (by omega))
    · refine go_bipush (v := -2) dX11_bed_14 (by decide) ?_
      refine go_iret dX11_bed_16 rfl rfl ?_
      rw [M_bed, if_neg c1, if_pos c11]; exact ⟨rfl, rfl⟩
def smf (s : Int32) (f : Nat → Int32) : Nat → Int32
  | 0 => s
  | k + 1 => smf s f k + f k
def mcl (σ : wg_S) (k : Nat) : Nat := (σ 84 k).toNatClampNeg
/-- the march's row: q of them, choirs all -/
def ML (σ : wg_S) (q : Nat) : Prop := σ 47 48 = nI q ∧ q ≤ 16 ∧ ∀ k, k < q → σ 84 k = nI (mcl σ k) ∧ mcl σ k < 16
def mln (σ : wg_S) (q : Nat) : Int32 := smf (if σ 47 48 ≤ 0 then nI 0 else σ 47 49 * (nI q - nI 1)) (fun k => mup (msz σ (mcl σ k)) (nI 4)) q
theorem cX11_length_ok (κ : gm_K) (b : Bool) (σ : wg_S) (q : Nat) (H : ML σ q) : Fn κ mX11_length [.ref 47] (gg b) σ (some (.int (mln σ q))) (gg b) σ := by
  refine go_start (by decide) (Nat.le_of_ble_eq_true rfl) ?_
  obtain ⟨hQ, hq, hC⟩ := H
  have loop : ∀ s, s = (if σ 47 48 ≤ 0 then nI 0 else σ 47 49 * (nI q - nI 1)) → ∀ i, i ≤ q → Go κ mX11_length 25 [some (.ref 47), some (.int (smf s (fun k => mup (msz σ (mcl σ k)) (nI 4)) i)), some (.int (nI i))] [] (wd (gg b) σ) (0, 0) (fun w h' => w = some (.int (mln σ q)) ∧ h' = wd (gg b) σ) := by
    intro s hs
    refine lo_up q (fun i hi ih => ?_)
    refine go_iload_n dX11_length_25 rfl ?_
    refine go_aload_n dX11_length_26 rfl ?_
    refine gs_gi dX11_length_27 flX11_306 (gg_47 b) rfl (hQ) ?_
    refine go_icmp_geN 56 dX11_length_30 (by decide) (by omega) (by omega) (fun c30 => ?_) (fun c30 => ?_)
    · refine go_iload_n dX11_length_56 rfl ?_
      refine go_iret dX11_length_57 rfl rfl ?_
      have e : i = q := by omega
      subst e
      exact ⟨by rw [mln, hs], rfl⟩
    · refine go_iload_n dX11_length_33 rfl ?_
      refine go_aload_n dX11_length_34 rfl ?_
      refine go_aload_n dX11_length_35 rfl ?_
      refine gs_gr dX11_length_36 flX11_128 (gg_47 b) rfl ?_
      refine go_iload_n dX11_length_39 rfl ?_
      refine gs_iald (_) dX11_length_40 (gg_84 b) (rfl) (by omega) rfl ((hC i c30).1) ?_
      refine gs_callVi dX11_length_41 cvX11_length_197 (cX11_sizeOf_ok κ b σ _ (hC i c30).2) rfl (gg_47 b) rfl rfl rfl ⟨rfl, rfl⟩ rfl ?_
      refine go_iconst (v := nI 4) dX11_length_44 (by decide) ?_
      refine gs_callSi dX11_length_45 csX11_length_191 (cX11_up_ok κ b σ _ _ (by decide)) rfl rfl rfl ⟨rfl, rfl⟩ rfl ?_
      refine go_iadd dX11_length_48 ?_
      refine go_istore_n (lv' := [_, _, _]) dX11_length_49 rfl rfl rfl ?_
      refine go_iincN (lv' := [_, _, _]) 1 dX11_length_50 (by decide) rfl rfl rfl rfl ?_
      refine go_goto 25 dX11_length_53 (by decide) ?_
      exact ih c30
  refine go_aload_n dX11_length_0 rfl ?_
  refine gs_gi dX11_length_1 flX11_306 (gg_47 b) rfl (rfl) ?_
  refine go_if_le 21 dX11_length_4 (by decide) (fun c4 => ?_) (fun c4 => ?_)
  · refine go_iconst (v := nI 0) dX11_length_21 (by decide) ?_
    refine go_istore_n (lv' := [_, _, _]) dX11_length_22 rfl rfl rfl ?_
    refine go_iconst (v := nI 0) dX11_length_23 (by decide) ?_
    refine go_istore_n (lv' := [_, _, _]) dX11_length_24 rfl rfl rfl ?_
    exact loop _ (by simp [nI_0, c4]) 0 (Nat.zero_le _)
  · refine go_aload_n dX11_length_7 rfl ?_
    refine gs_gi dX11_length_8 flX11_131 (gg_47 b) rfl (rfl) ?_
    refine go_aload_n dX11_length_11 rfl ?_
    refine gs_gi dX11_length_12 flX11_306 (gg_47 b) rfl (hQ) ?_
    refine go_iconst (v := nI 1) dX11_length_15 (by decide) ?_
    refine go_isub dX11_length_16 ?_
    refine go_imul dX11_length_17 ?_
    refine go_goto 22 dX11_length_18 (by decide) ?_
    refine go_istore_n (lv' := [_, _, _]) dX11_length_22 rfl rfl rfl ?_
    refine go_iconst (v := nI 0) dX11_length_23 (by decide) ?_
    refine go_istore_n (lv' := [_, _, _]) dX11_length_24 rfl rfl rfl ?_
    exact loop _ (by simp [nI_0, c4]) 0 (Nat.zero_le _)
def mpl (σ : wg_S) (q : Nat) (c : Int32) : Option Nat := fnd (fun k => decide (σ 84 k = c)) q
theorem cX11_placeIn_ok (κ : gm_K) (b : Bool) (σ : wg_S) (q : Nat) (hQ : σ 47 48 = nI q) (hq : q ≤ 16) (c : Int32) : Fn κ mX11_placeIn [.ref 47, .int c] (gg b) σ (some (.int (oI (mpl σ q c)))) (gg b) σ := by
  refine go_start (by decide) (Nat.le_of_ble_eq_true rfl) ?_
  have loop : ∀ i, i ≤ q → mpl σ i c = none → Go κ mX11_placeIn 2 [some (.ref 47), some (.int c), some (.int (nI i))] [] (wd (gg b) σ) (0, 0) (fun w h' => w = some (.int (oI (mpl σ q c))) ∧ h' = wd (gg b) σ) := by
    refine lo_up q (fun i hi ih hn => ?_)
    refine go_iload_n dX11_placeIn_2 rfl ?_
    refine go_aload_n dX11_placeIn_3 rfl ?_
    refine gs_gi dX11_placeIn_4 flX11_306 (gg_47 b) rfl (hQ) ?_
    refine go_icmp_geN 28 dX11_placeIn_7 (by decide) (by omega) (by omega) (fun c7 => ?_) (fun c7 => ?_)
    · refine go_iconst (v := -1) dX11_placeIn_28 (by decide) ?_
      refine go_iret dX11_placeIn_29 rfl rfl ?_
      have e : i = q := by omega
      subst e
      exact ⟨by rw [hn]; rfl, rfl⟩
    · refine go_aload_n dX11_placeIn_10 rfl ?_
      refine gs_gr dX11_placeIn_11 flX11_128 (gg_47 b) rfl ?_
      refine go_iload_n dX11_placeIn_14 rfl ?_
      refine gs_iald (_) dX11_placeIn_15 (gg_84 b) (rfl) (by omega) rfl (rfl) ?_
      refine go_iload_n dX11_placeIn_16 rfl ?_
      refine go_icmp_ne 22 dX11_placeIn_17 (by decide) (fun c17 => ?_) (fun c17 => ?_)
      · refine go_iincN (lv' := [_, _, _]) 1 dX11_placeIn_22 (by decide) rfl rfl rfl rfl ?_
        refine go_goto 2 dX11_placeIn_25 (by decide) ?_
        refine ih c7 ?_
        rw [mpl, fnd, show fnd (fun k => decide (σ 84 k = c)) i = none from hn]
        simp [c17]
      · refine go_iload_n dX11_placeIn_20 rfl ?_
        refine go_iret dX11_placeIn_21 rfl rfl ?_
        exact ⟨by rw [mpl, fnd_hit (show fnd (fun k => decide (σ 84 k = c)) i = none from hn) (by simp [c17]) q c7]; rfl, rfl⟩
  refine go_iconst (v := nI 0) dX11_placeIn_0 (by decide) ?_
  refine go_istore_n (lv' := [_, _, _]) dX11_placeIn_1 rfl rfl rfl ?_
  exact loop 0 (Nat.zero_le _) rfl
def s_mma (σ : wg_S) (q : Nat) (c : Int32) : wg_S := us (us σ 84 q c) 47 48 (nI (q + 1))
theorem ML_add {σ : wg_S} {q c : Nat} (H : ML σ q) (hq : q < 16) (hc : c < 16) : ML (s_mma σ q (nI c)) (q + 1) := by
  obtain ⟨h1, h2, h3⟩ := H
  refine ⟨by rw [s_mma, us_s], by omega, fun k hk => ?_⟩
  unfold mcl
  rw [s_mma, us_p (by decide)]
  by_cases e : k = q
  · subst e; rw [us_s, nI_clamp (by omega)]; exact ⟨rfl, hc⟩
  · rw [us_k e]; exact h3 k (by omega)
def M_march (σ : wg_S) (q : Nat) (c : Int32) : Int32 × wg_S := if hs (σ 47 0) c = false then (-1, σ) else match mpl σ q c with
  | none => (mln (s_mma σ q c) (q + 1), s_mma σ q c)
  | some _ => (-3, σ)
theorem cX11_march_ok (κ : gm_K) (b : Bool) (σ : wg_S) (n m j r : Nat) (C : MI σ n m j r) (q : Nat) (H : ML σ q) (hroom : ∀ x, x < n → mpl σ q (nI x) = none → q < 16) (c : Int32) : Fn κ mX11_march [.ref 47, .int c] (gg b) σ (some (.int ((M_march σ q c).1))) (gg b) (M_march σ q c).2 := by
  refine go_start (by decide) (Nat.le_of_ble_eq_true rfl) ?_
  obtain ⟨⟨hN, hn⟩, ⟨hM, hm⟩, ⟨hJ, hj⟩, ⟨hR, hr⟩, hT, hX⟩ := id C
  refine go_aload_n dX11_march_0 rfl ?_
  refine go_iload_n dX11_march_1 rfl ?_
  refine gs_callVi dX11_march_2 cvX11_march_162 (cX11_isChoir_ok κ b σ _) rfl (gg_47 b) rfl rfl rfl ⟨rfl, rfl⟩ rfl ?_
  refine go_if_neB 10 dX11_march_5 (by decide) (fun c5 => ?_) (fun c5 => ?_)
  · obtain ⟨x, hx, rfl⟩ := hs_ix (by omega) (hN ▸ c5)
    have ex := nI_clamp (show x < 2 ^ 31 by omega)
    have hP := cX11_placeIn_ok κ b σ q H.1 H.2.1 (nI x)
    cases hp : mpl σ q (nI x) with
    | none =>
      have hq := hroom x hx hp
      have hL := cX11_length_ok κ b _ (q + 1) (ML_add H hq (show x < 16 by omega))
      rw [hp, show oI none = -1 from rfl] at hP
      have hK : M_march σ q (nI x) = (mln (s_mma σ q (nI x)) (q + 1), s_mma σ q (nI x)) := by rw [M_march, if_neg (by simp [c5]), hp]
      rw [hK]
      refine go_aload_n dX11_march_10 rfl ?_
      refine go_iload_n dX11_march_11 rfl ?_
      refine gs_callVi dX11_march_12 cvX11_march_309 (hP) rfl (gg_47 b) rfl rfl rfl ⟨rfl, rfl⟩ rfl ?_
      refine go_iconst (v := -1) dX11_march_15 (by decide) ?_
      refine go_icmp_eq 22 dX11_march_16 (by decide) (fun _ => ?_) (fun z => absurd z (by decide))
      refine go_aload_n dX11_march_22 rfl ?_
      refine gs_gr dX11_march_23 flX11_128 (gg_47 b) rfl ?_
      refine go_aload_n dX11_march_26 rfl ?_
      refine gs_gi dX11_march_27 flX11_306 (gg_47 b) rfl (H.1) ?_
      refine go_iload_n dX11_march_30 rfl ?_
      refine gs_iast (_) dX11_march_31 (gg_84 b) (rfl) (by omega) rfl ?_
      refine go_aload_n dX11_march_32 rfl ?_
      refine go_dup dX11_march_33 rfl ?_
      refine gs_gi dX11_march_34 flX11_306 (gg_47 b) rfl (show _ = nI q by rw [us_p (by decide)]; exact H.1) ?_
      refine go_iconst (v := nI 1) dX11_march_37 (by decide) ?_
      refine go_iaddN dX11_march_38 ?_
      refine gs_pi dX11_march_39 flX11_306 (gg_47 b) rfl (fun q hq => by cases hq; exact ⟨rfl, rfl⟩) ?_
      refine go_aload_n dX11_march_42 rfl ?_
      refine gs_callVi dX11_march_43 cvX11_march_312 (hL) rfl (gg_47 b) rfl rfl rfl ⟨rfl, rfl⟩ rfl ?_
      refine go_iret dX11_march_46 rfl rfl ?_
      exact ⟨rfl, rfl⟩
    | some u =>
      have hu := (fnd_lt hp).1
      rw [hp, show oI (some u) = nI u from rfl] at hP
      have hK : M_march σ q (nI x) = (-3, σ) := by rw [M_march, if_neg (by simp [c5]), hp]
      rw [hK]
      have := H.2.1
      refine go_aload_n dX11_march_10 rfl ?_
      refine go_iload_n dX11_march_11 rfl ?_
      refine gs_callVi dX11_march_12 cvX11_march_309 (hP) rfl (gg_47 b) rfl rfl rfl ⟨rfl, rfl⟩ rfl ?_
      refine go_iconst (v := -1) dX11_march_15 (by decide) ?_
      refine go_icmp_eq 22 dX11_march_16 (by decide) (fun c16 => ?_) (fun c16 => ?_)
      · exact absurd c16 (nI_m1 (by omega))
      · refine go_bipush (v := -3) dX11_march_19 (by decide) ?_
        refine go_iret dX11_march_21 rfl rfl ?_
        exact ⟨rfl, rfl⟩
  · refine go_iconst (v := -1) dX11_march_8 (by decide) ?_
    refine go_iret dX11_march_9 rfl rfl ?_
    rw [M_march, if_pos c5]
    exact ⟨rfl, rfl⟩
/-- the row moved up behind a, as far as k -/
def shf (f : Nat → Int32) (a k : Nat) : Nat → Int32 := fun i => if a ≤ i ∧ i < k then f (i + 1) else f i
theorem shf_0 (f : Nat → Int32) (a : Nat) : shf f a a = f := by
  funext i
  unfold shf
  rw [if_neg (by omega)]
theorem shf_u (f : Nat → Int32) (a k : Nat) (h : a ≤ k) : upd (shf f a k) k (f (k + 1)) = shf f a (k + 1) := by
  funext i
  by_cases e : i = k
  · subst e; rw [pk_us]; unfold shf; rw [if_pos (by omega)]
  · rw [pk_un e]
    unfold shf
    by_cases h1 : a ≤ i ∧ i < k
    · rw [if_pos h1, if_pos (by omega)]
    · rw [if_neg h1, if_neg (by omega)]
def s_mle (σ : wg_S) (q a : Nat) : wg_S := ua (us σ 47 48 (nI (q - 1))) 84 (shf (σ 84) a (q - 1))
theorem ML_rem {σ : wg_S} {q a : Nat} (H : ML σ q) (ha : a < q) : ML (s_mle σ q a) (q - 1) := by
  obtain ⟨h1, h2, h3⟩ := H
  refine ⟨by rw [s_mle, ua_p (by decide), us_s], by omega, fun k hk => ?_⟩
  unfold mcl
  rw [s_mle, ua_s, shf]
  by_cases e : a ≤ k ∧ k < q - 1
  · rw [if_pos e]; exact h3 (k + 1) (by omega)
  · rw [if_neg e]; exact h3 k (by omega)
def M_leave (σ : wg_S) (q : Nat) (c : Int32) : Int32 × wg_S := if hs (σ 47 0) c = false then (-1, σ) else match mpl σ q c with
  | none => (-3, σ)
  | some u => (mln (s_mle σ q u) (q - 1), s_mle σ q u)
theorem cX11_leave_ok (κ : gm_K) (b : Bool) (σ : wg_S) (n m j r : Nat) (C : MI σ n m j r) (q : Nat) (H : ML σ q) (c : Int32) : Fn κ mX11_leave [.ref 47, .int c] (gg b) σ (some (.int ((M_leave σ q c).1))) (gg b) (M_leave σ q c).2 := by
  refine go_start (by decide) (Nat.le_of_ble_eq_true rfl) ?_
  obtain ⟨⟨hN, hn⟩, ⟨hM, hm⟩, ⟨hJ, hj⟩, ⟨hR, hr⟩, hT, hX⟩ := id C
  refine go_aload_n dX11_leave_0 rfl ?_
  refine go_iload_n dX11_leave_1 rfl ?_
  refine gs_callVi dX11_leave_2 cvX11_leave_162 (cX11_isChoir_ok κ b σ _) rfl (gg_47 b) rfl rfl rfl ⟨rfl, rfl⟩ rfl ?_
  refine go_if_neB 10 dX11_leave_5 (by decide) (fun c5 => ?_) (fun c5 => ?_)
  · obtain ⟨x, hx, rfl⟩ := hs_ix (by omega) (hN ▸ c5)
    have ex := nI_clamp (show x < 2 ^ 31 by omega)
    have hP := cX11_placeIn_ok κ b σ q H.1 H.2.1 (nI x)
    cases hp : mpl σ q (nI x) with
    | none =>
      rw [hp, show oI none = -1 from rfl] at hP
      have hK : M_leave σ q (nI x) = (-3, σ) := by rw [M_leave, if_neg (by simp [c5]), hp]
      rw [hK]
      refine go_aload_n dX11_leave_10 rfl ?_
      refine go_iload_n dX11_leave_11 rfl ?_
      refine gs_callVi dX11_leave_12 cvX11_leave_309 (hP) rfl (gg_47 b) rfl rfl rfl ⟨rfl, rfl⟩ rfl ?_
      refine go_istore_n (lv' := [_, _, _, _]) dX11_leave_15 rfl rfl rfl ?_
      refine go_iload_n dX11_leave_16 rfl ?_
      refine go_iconst (v := -1) dX11_leave_17 (by decide) ?_
      refine go_icmp_ne 24 dX11_leave_18 (by decide) (fun z => absurd z (by decide)) (fun _ => ?_)
      refine go_bipush (v := -3) dX11_leave_21 (by decide) ?_
      refine go_iret dX11_leave_23 rfl rfl ?_
      exact ⟨rfl, rfl⟩
    | some u =>
      have hu := (fnd_lt hp).1
      have hq := H.2.1
      rw [hp, show oI (some u) = nI u from rfl] at hP
      have hL := cX11_length_ok κ b _ (q - 1) (ML_rem H hu)
      have hK : M_leave σ q (nI x) = (mln (s_mle σ q u) (q - 1), s_mle σ q u) := by rw [M_leave, if_neg (by simp [c5]), hp]
      rw [hK]
      have loop : ∀ k, k ≤ q - 1 → u ≤ k → Go κ mX11_leave 36 [some (.ref 47), some (.int (nI x)), some (.int (nI u)), some (.int (nI k))] [] (wd (gg b) (ua (us σ 47 48 (nI (q - 1))) 84 (shf (σ 84) u k))) (0, 0) (fun w h' => w = some (.int (mln (s_mle σ q u) (q - 1))) ∧ h' = wd (gg b) (s_mle σ q u)) := by
        refine lo_up (q - 1) (fun k hi ih huk => ?_)
        have hsh : shf (σ 84) u k (k + 1) = σ 84 (k + 1) := by rw [shf, if_neg (by omega)]
        refine go_iload_n dX11_leave_36 rfl ?_
        refine go_aload_n dX11_leave_37 rfl ?_
        refine gs_gi dX11_leave_38 flX11_306 (gg_47 b) rfl (show _ = nI (q - 1) by rw [ua_p (by decide), us_s]) ?_
        refine go_icmp_geN 64 dX11_leave_41 (by decide) (by omega) (by omega) (fun c41 => ?_) (fun c41 => ?_)
        · have e : k = q - 1 := by omega
          subst e
          refine go_aload_n dX11_leave_64 rfl ?_
          refine gs_callVi dX11_leave_65 cvX11_leave_312 (hL) rfl (gg_47 b) rfl rfl rfl ⟨rfl, rfl⟩ rfl ?_
          refine go_iret dX11_leave_68 rfl rfl ?_
          exact ⟨rfl, rfl⟩
        · refine go_aload_n dX11_leave_44 rfl ?_
          refine gs_gr dX11_leave_45 flX11_128 (gg_47 b) rfl ?_
          refine go_iload_n dX11_leave_48 rfl ?_
          refine go_aload_n dX11_leave_49 rfl ?_
          refine gs_gr dX11_leave_50 flX11_128 (gg_47 b) rfl ?_
          refine go_iload_n dX11_leave_53 rfl ?_
          refine go_iconst (v := nI 1) dX11_leave_54 (by decide) ?_
          refine go_iaddN dX11_leave_55 ?_
          refine gs_iald (_) dX11_leave_56 (gg_84 b) (rfl) (by omega) rfl ((congrFun ua_s _).trans hsh) ?_
          refine gs_iast (_) dX11_leave_57 (gg_84 b) (rfl) (by omega) rfl ?_
          refine go_iincN (lv' := [_, _, _, _]) 1 dX11_leave_58 (by decide) rfl rfl rfl rfl ?_
          refine go_goto 36 dX11_leave_61 (by decide) ?_
          exact go_wkh (by exact ⟨rfl, rfl, rfl, rfl, trivial⟩) (congrArg (wd (gg b)) (by rw [ua_u, shf_u _ _ _ huk])) (ih c41 (by omega))
      refine go_aload_n dX11_leave_10 rfl ?_
      refine go_iload_n dX11_leave_11 rfl ?_
      refine gs_callVi dX11_leave_12 cvX11_leave_309 (hP) rfl (gg_47 b) rfl rfl rfl ⟨rfl, rfl⟩ rfl ?_
      refine go_istore_n (lv' := [_, _, _, _]) dX11_leave_15 rfl rfl rfl ?_
      refine go_iload_n dX11_leave_16 rfl ?_
      refine go_iconst (v := -1) dX11_leave_17 (by decide) ?_
      refine go_icmp_ne 24 dX11_leave_18 (by decide) (fun c18 => ?_) (fun c18 => ?_)
      · refine go_aload_n dX11_leave_24 rfl ?_
        refine go_dup dX11_leave_25 rfl ?_
        refine gs_gi dX11_leave_26 flX11_306 (gg_47 b) rfl (H.1) ?_
        refine go_iconst (v := nI 1) dX11_leave_29 (by decide) ?_
        refine go_isubN dX11_leave_30 (by omega) ?_
        refine gs_pi dX11_leave_31 flX11_306 (gg_47 b) rfl (fun q hq => by cases hq; exact ⟨rfl, rfl⟩) ?_
        refine go_iload_n dX11_leave_34 rfl ?_
        refine go_istore_n (lv' := [_, _, _, _]) dX11_leave_35 rfl rfl rfl ?_
        exact go_wkh (by exact ⟨rfl, rfl, rfl, rfl, trivial⟩) (congrArg (wd (gg b)) (by rw [shf_0]; conv => lhs; rw [← ua_id (σ := us σ 47 48 (nI (q - 1))) (p := 84), us_p (show (84 : Nat) ≠ 47 by decide)])) (loop u (by omega) (Nat.le_refl _))
      · exact absurd c18 (nI_m1 (by omega))
  · refine go_iconst (v := -1) dX11_leave_8 (by decide) ?_
    refine go_iret dX11_leave_9 rfl rfl ?_
    rw [M_leave, if_pos c5]
    exact ⟨rfl, rfl⟩
def M_gap (σ : wg_S) (v : Int32) : Int32 × wg_S := if wi v (nI 0) (nI 9) = false then (-2, σ) else (σ 47 49, us σ 47 49 v)
theorem cX11_gap_ok (κ : gm_K) (b : Bool) (σ : wg_S) (v : Int32) : Fn κ mX11_gap [.ref 47, .int v] (gg b) σ (some (.int ((M_gap σ v).1))) (gg b) (M_gap σ v).2 := by
  refine go_start (by decide) (Nat.le_of_ble_eq_true rfl) ?_
  refine go_iload_n dX11_gap_0 rfl ?_
  refine go_i2l dX11_gap_1 ?_
  refine go_lconst (v := 0) dX11_gap_2 (by decide) ?_
  refine go_ldc2 dX11_gap_3 klX11_178 ?_
  refine gs_callSi dX11_gap_6 csX11_gap_145 (cX11_isIn_ok κ b σ _ (nI 0) (nI 9) _ _ (by decide) (by decide)) rfl rfl rfl ⟨rfl, rfl⟩ rfl ?_
  refine go_if_neB 15 dX11_gap_9 (by decide) (fun c9 => ?_) (fun c9 => ?_)
  · refine go_aload_n dX11_gap_15 rfl ?_
    refine gs_gi dX11_gap_16 flX11_131 (gg_47 b) rfl (rfl) ?_
    refine go_istore_n (lv' := [_, _, _]) dX11_gap_19 rfl rfl rfl ?_
    refine go_aload_n dX11_gap_20 rfl ?_
    refine go_iload_n dX11_gap_21 rfl ?_
    refine gs_pi dX11_gap_22 flX11_131 (gg_47 b) rfl (fun q hq => by cases hq; exact ⟨rfl, rfl⟩) ?_
    refine go_iload_n dX11_gap_25 rfl ?_
    refine go_iret dX11_gap_26 rfl rfl ?_
    refine ⟨?_, ?_⟩ <;> simp +decide [c9, M_gap]
  · refine go_bipush (v := -2) dX11_gap_12 (by decide) ?_
    refine go_iret dX11_gap_14 rfl rfl ?_
    refine ⟨?_, ?_⟩ <;> simp +decide [c9, M_gap]
def M_count (σ : wg_S) (n q : Nat) (w : Int32) : Int32 :=
  if w = nI 0 then σ 47 0 else if w = nI 1 then σ 47 11 else if w = nI 2 then σ 47 16 else if w = nI 3 then σ 47 21 else if w = nI 4 then σ 47 10
  else if w = nI 5 then sm (fun i => if σ 55 i = -1 then nI 0 else nI 1) n else if w = nI 6 then σ 47 48 else if w = nI 7 then mln σ q else if w = nI 8 then σ 47 20
  else if w = nI 9 then sm (fun i => if σ 53 i = -1 then nI 0 else nI 1) n else if w = nI 10 then sm (fun i => if mth σ i = true then msz σ i else nI 0) n else -1
theorem cX11_count_ok (κ : gm_K) (b : Bool) (σ : wg_S) (n m j r : Nat) (C : MI σ n m j r) (q : Nat) (H : ML σ q) (w : Int32) : Fn κ mX11_count [.ref 47, .int w] (gg b) σ (some (.int (M_count σ n q w))) (gg b) σ := by
  refine go_start (by decide) (Nat.le_of_ble_eq_true rfl) ?_
  obtain ⟨⟨hN, hn⟩, ⟨hM, hm⟩, ⟨hJ, hj⟩, ⟨hR, hr⟩, hT, hX⟩ := id C
  refine go_iconst (v := nI 0) dX11_count_0 (by decide) ?_
  refine go_istore_n (lv' := [_, _, _, _]) dX11_count_1 rfl rfl rfl ?_
  refine go_iload_n dX11_count_2 rfl ?_
  refine go_tsw 10 [60, 65, 70, 75, 80, 85, 90, 95, 100, 105, 141] 179 dX11_count_3 (by decide) (by decide) (fun c3 => ?_) (fun k hk c3 => ?_)
  · refine go_iconst (v := -1) dX11_count_179 (by decide) ?_
    refine go_iret dX11_count_180 rfl rfl ?_
    exact ⟨by simp [M_count, c3 0 (by decide), c3 1 (by decide), c3 2 (by decide), c3 3 (by decide), c3 4 (by decide), c3 5 (by decide), c3 6 (by decide), c3 7 (by decide), c3 8 (by decide), c3 9 (by decide), c3 10 (by decide)], rfl⟩
  · match k, hk, c3 with
    | 0, _, c3 =>
      show Go κ mX11_count 60 _ _ _ _ _
      refine go_aload_n dX11_count_60 rfl ?_
      refine gs_gi dX11_count_61 flX11_134 (gg_47 b) rfl (rfl) ?_
      refine go_iret dX11_count_64 rfl rfl ?_
      exact ⟨by rw [c3]; rfl, rfl⟩
    | 1, _, c3 =>
      show Go κ mX11_count 65 _ _ _ _ _
      refine go_aload_n dX11_count_65 rfl ?_
      refine gs_gi dX11_count_66 flX11_137 (gg_47 b) rfl (rfl) ?_
      refine go_iret dX11_count_69 rfl rfl ?_
      exact ⟨by rw [c3]; rfl, rfl⟩
    | 2, _, c3 =>
      show Go κ mX11_count 70 _ _ _ _ _
      refine go_aload_n dX11_count_70 rfl ?_
      refine gs_gi dX11_count_71 flX11_140 (gg_47 b) rfl (rfl) ?_
      refine go_iret dX11_count_74 rfl rfl ?_
      exact ⟨by rw [c3]; rfl, rfl⟩
    | 3, _, c3 =>
      show Go κ mX11_count 75 _ _ _ _ _
      refine go_aload_n dX11_count_75 rfl ?_
      refine gs_gi dX11_count_76 flX11_243 (gg_47 b) rfl (rfl) ?_
      refine go_iret dX11_count_79 rfl rfl ?_
      exact ⟨by rw [c3]; rfl, rfl⟩
    | 4, _, c3 =>
      show Go κ mX11_count 80 _ _ _ _ _
      refine go_aload_n dX11_count_80 rfl ?_
      refine gs_gi dX11_count_81 flX11_171 (gg_47 b) rfl (rfl) ?_
      refine go_iret dX11_count_84 rfl rfl ?_
      exact ⟨by rw [c3]; rfl, rfl⟩
    | 5, _, c3 =>
      show Go κ mX11_count 85 _ _ _ _ _
      refine go_aload_n dX11_count_85 rfl ?_
      refine gs_callVi dX11_count_86 cvX11_count_265 (cX11_blocks_ok κ b σ n hn hN) rfl (gg_47 b) rfl rfl rfl ⟨rfl, rfl⟩ rfl ?_
      refine go_iret dX11_count_89 rfl rfl ?_
      exact ⟨by rw [c3]; rfl, rfl⟩
    | 6, _, c3 =>
      show Go κ mX11_count 90 _ _ _ _ _
      refine go_aload_n dX11_count_90 rfl ?_
      refine gs_gi dX11_count_91 flX11_306 (gg_47 b) rfl (rfl) ?_
      refine go_iret dX11_count_94 rfl rfl ?_
      exact ⟨by rw [c3]; rfl, rfl⟩
    | 7, _, c3 =>
      show Go κ mX11_count 95 _ _ _ _ _
      refine go_aload_n dX11_count_95 rfl ?_
      refine gs_callVi dX11_count_96 cvX11_count_312 (cX11_length_ok κ b σ q H) rfl (gg_47 b) rfl rfl rfl ⟨rfl, rfl⟩ rfl ?_
      refine go_iret dX11_count_99 rfl rfl ?_
      exact ⟨by rw [c3]; rfl, rfl⟩
    | 8, _, c3 =>
      show Go κ mX11_count 100 _ _ _ _ _
      refine go_aload_n dX11_count_100 rfl ?_
      refine gs_gi dX11_count_101 flX11_205 (gg_47 b) rfl (rfl) ?_
      refine go_iret dX11_count_104 rfl rfl ?_
      exact ⟨by rw [c3]; rfl, rfl⟩
    | 9, _, c3 =>
      show Go κ mX11_count 105 _ _ _ _ _
      refine go_iconst (v := nI 0) dX11_count_105 (by decide) ?_
      refine go_istore_n (lv' := [_, _, _, _]) dX11_count_106 rfl rfl rfl ?_
      have loop : ∀ i, i ≤ n → Go κ mX11_count 107 [some (.ref 47), some (.int w), some (.int (sm (fun i => if σ 53 i = -1 then nI 0 else nI 1) i)), some (.int (nI i))] [] (wd (gg b) σ) (0, 0) (fun z h' => z = some (.int (sm (fun i => if σ 53 i = -1 then nI 0 else nI 1) n)) ∧ h' = wd (gg b) σ) := by
        refine lo_up n (fun i hi ih => ?_)
        refine go_iload_n dX11_count_107 rfl ?_
        refine go_aload_n dX11_count_108 rfl ?_
        refine gs_gi dX11_count_109 flX11_134 (gg_47 b) rfl (hN) ?_
        refine go_icmp_geN 139 dX11_count_112 (by decide) (by omega) (by omega) (fun c112 => ?_) (fun c112 => ?_)
        · refine go_iload_n dX11_count_139 rfl ?_
          refine go_iret dX11_count_140 rfl rfl ?_
          have e : i = n := by omega
          subst e
          exact ⟨rfl, rfl⟩
        · refine go_iload_n dX11_count_115 rfl ?_
          refine go_aload_n dX11_count_116 rfl ?_
          refine gs_gr dX11_count_117 flX11_25 (gg_47 b) rfl ?_
          refine go_iload_n dX11_count_120 rfl ?_
          refine gs_iald (_) dX11_count_121 (gg_53 b) (rfl) (by omega) rfl (rfl) ?_
          refine go_iconst (v := -1) dX11_count_122 (by decide) ?_
          refine go_icmp_eq 130 dX11_count_123 (by decide) (fun c123 => ?_) (fun c123 => ?_)
          · refine go_iconst (v := nI 0) dX11_count_130 (by decide) ?_
            refine go_iadd dX11_count_131 ?_
            refine go_istore_n (lv' := [_, _, _, _]) dX11_count_132 rfl rfl rfl ?_
            refine go_iincN (lv' := [_, _, _, _]) 1 dX11_count_133 (by decide) rfl rfl rfl rfl ?_
            refine go_goto 107 dX11_count_136 (by decide) ?_
            exact go_lv (by simp [sm, c112, c123]) (ih c112)
          · refine go_iconst (v := nI 1) dX11_count_126 (by decide) ?_
            refine go_goto 131 dX11_count_127 (by decide) ?_
            refine go_iadd dX11_count_131 ?_
            refine go_istore_n (lv' := [_, _, _, _]) dX11_count_132 rfl rfl rfl ?_
            refine go_iincN (lv' := [_, _, _, _]) 1 dX11_count_133 (by decide) rfl rfl rfl rfl ?_
            refine go_goto 107 dX11_count_136 (by decide) ?_
            exact go_lv (by simp [sm, c112, c123]) (ih c112)
      refine go_mono ?_ (loop 0 (Nat.zero_le _))
      rintro z h' ⟨h1, h2⟩
      exact ⟨h1.trans (by rw [c3]; rfl), h2⟩
    | 10, _, c3 =>
      show Go κ mX11_count 141 _ _ _ _ _
      refine go_iconst (v := nI 0) dX11_count_141 (by decide) ?_
      refine go_istore_n (lv' := [_, _, _, _]) dX11_count_142 rfl rfl rfl ?_
      have loop : ∀ i, i ≤ n → Go κ mX11_count 143 [some (.ref 47), some (.int w), some (.int (sm (fun i => if mth σ i = true then msz σ i else nI 0) i)), some (.int (nI i))] [] (wd (gg b) σ) (0, 0) (fun z h' => z = some (.int (sm (fun i => if mth σ i = true then msz σ i else nI 0) n)) ∧ h' = wd (gg b) σ) := by
        refine lo_up n (fun i hi ih => ?_)
        refine go_iload_n dX11_count_143 rfl ?_
        refine go_aload_n dX11_count_144 rfl ?_
        refine gs_gi dX11_count_145 flX11_134 (gg_47 b) rfl (hN) ?_
        refine go_icmp_geN 177 dX11_count_148 (by decide) (by omega) (by omega) (fun c148 => ?_) (fun c148 => ?_)
        · refine go_iload_n dX11_count_177 rfl ?_
          refine go_iret dX11_count_178 rfl rfl ?_
          have e : i = n := by omega
          subst e
          exact ⟨rfl, rfl⟩
        · refine go_iload_n dX11_count_151 rfl ?_
          refine go_aload_n dX11_count_152 rfl ?_
          refine go_iload_n dX11_count_153 rfl ?_
          refine gs_callVi dX11_count_154 cvX11_count_200 (cX11_isThere_ok κ b σ i (by omega) (hX i c148)) rfl (gg_47 b) rfl rfl rfl ⟨rfl, rfl⟩ rfl ?_
          refine go_if_eqB 168 dX11_count_157 (by decide) (fun c157 => ?_) (fun c157 => ?_)
          · refine go_iconst (v := nI 0) dX11_count_168 (by decide) ?_
            refine go_iadd dX11_count_169 ?_
            refine go_istore_n (lv' := [_, _, _, _]) dX11_count_170 rfl rfl rfl ?_
            refine go_iincN (lv' := [_, _, _, _]) 1 dX11_count_171 (by decide) rfl rfl rfl rfl ?_
            refine go_goto 143 dX11_count_174 (by decide) ?_
            exact go_lv (by simp [sm, c148, c157]) (ih c148)
          · refine go_aload_n dX11_count_160 rfl ?_
            refine go_iload_n dX11_count_161 rfl ?_
            refine gs_callVi dX11_count_162 cvX11_count_197 (cX11_sizeOf_ok κ b σ i (by omega)) rfl (gg_47 b) rfl rfl rfl ⟨rfl, rfl⟩ rfl ?_
            refine go_goto 169 dX11_count_165 (by decide) ?_
            refine go_iadd dX11_count_169 ?_
            refine go_istore_n (lv' := [_, _, _, _]) dX11_count_170 rfl rfl rfl ?_
            refine go_iincN (lv' := [_, _, _, _]) 1 dX11_count_171 (by decide) rfl rfl rfl rfl ?_
            refine go_goto 143 dX11_count_174 (by decide) ?_
            exact go_lv (by simp [sm, c148, c157]) (ih c148)
      refine go_mono ?_ (loop 0 (Nat.zero_le _))
      rintro z h' ⟨h1, h2⟩
      exact ⟨h1.trans (by rw [c3]; rfl), h2⟩
    | k + 11, hk, _ => exact absurd hk (by omega)
