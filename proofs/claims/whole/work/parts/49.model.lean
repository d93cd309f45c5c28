def mcz (σ : wg_S) (a : Nat → Int32) (k : Nat) : Int32 := msz σ (a k).toNatClampNeg
def mcp (σ : wg_S) (a : Nat → Int32) (k : Nat) : Int32 := sm (mcz σ a) k
def mcL (σ : wg_S) (a : Nat → Int32) (n : Nat) : Int32 := sm (fun k => if mgl (σ 47 35) (mcp σ a k) (mcz σ a k) then msc (σ 47 35) (mcp σ a k) (mcz σ a k) else nI 0) n
def mcR (σ : wg_S) (a : Nat → Int32) (n : Nat) : Int32 := sm (fun k => if mgl (σ 47 35) (mcp σ a k) (mcz σ a k) then nI 0 else msc (σ 47 35) (mcp σ a k) (mcz σ a k)) n
def mcv (σ : wg_S) (a : Nat → Int32) (n : Nat) : Int32 := if mcL σ a n ≤ mcR σ a n then mcR σ a n else mcL σ a n
theorem mcz_nI {σ : wg_S} {a : Nat → Int32} {k c : Nat} (hc : c < 16) (e : a k = nI c) : mcz σ a k = msz σ c := by rw [mcz, e, nI_clamp (by omega)]
theorem mcv_lo {τ σ : wg_S} (h : lo70 τ σ) (a : Nat → Int32) (n : Nat) : mcv τ a n = mcv σ a n := by
  have e : mcz τ a = mcz σ a := by funext k; exact msz_lo h _
  unfold mcv mcL mcR mcp
  rw [e, h 47 (by decide)]
theorem dsc_le {a : Nat → Int32} : ∀ {k i : Nat}, dsc a k = some i → a i ≤ a (i + 1)
  | 0, i, h => by simp [dsc] at h
  | k + 1, i, h => by
    rw [show dsc a (k + 1) = if a k ≤ a (k + 1) then some k else dsc a k from rfl] at h
    by_cases hc : a k ≤ a (k + 1)
    · rw [if_pos hc] at h; cases h; exact hc
    · rw [if_neg hc] at h; exact dsc_le h
theorem cX11_clearOf_ok (κ : gm_K) (b : Bool) (σ : wg_S) (n : Nat) (h4 : n ≤ 4) (hin : inL (σ 74) n) : Fn κ mX11_clearOf [.ref 47, .int (nI n)] (gg b) σ (some (.int (mcv σ (σ 74) n))) (gg b) σ := by
  refine go_start (by decide) (Nat.le_of_ble_eq_true rfl) ?_
  have loop : ∀ i, i ≤ n → Go κ mX11_clearOf 10 [some (.ref 47), some (.int (nI n)), some (.int (mcL σ (σ 74) i)), some (.int (mcR σ (σ 74) i)), some (.int (mcp σ (σ 74) i)), some (.int (nI i)), none, none] [] (wd (gg b) σ) (0, 0) (fun q h' => q = some (.int (mcv σ (σ 74) n)) ∧ h' = wd (gg b) σ) := by
    refine lo_up n (fun i hi ih => ?_)
    refine go_iload dX11_clearOf_10 rfl ?_
    refine go_iload_n dX11_clearOf_12 rfl ?_
    refine go_icmp_geN 92 dX11_clearOf_13 (by decide) (by omega) (by omega) (fun c13 => ?_) (fun c13 => ?_)
    · refine go_iload_n dX11_clearOf_92 rfl ?_
      refine go_iload_n dX11_clearOf_93 rfl ?_
      refine go_icmp_le 101 dX11_clearOf_94 (by decide) (fun c94 => ?_) (fun c94 => ?_)
      · refine go_iload_n dX11_clearOf_101 rfl ?_
        refine go_iret dX11_clearOf_102 rfl rfl ?_
        have e : i = n := by omega
        subst e
        exact ⟨by rw [mcv]; simp [c13, c94], rfl⟩
      · refine go_iload_n dX11_clearOf_97 rfl ?_
        refine go_goto 102 dX11_clearOf_98 (by decide) ?_
        refine go_iret dX11_clearOf_102 rfl rfl ?_
        have e : i = n := by omega
        subst e
        exact ⟨by rw [mcv]; simp [c13, c94], rfl⟩
    · obtain ⟨c, hc, e⟩ := hin i c13
      have ez := mcz_nI (σ := σ) hc e
      refine go_aload_n dX11_clearOf_16 rfl ?_
      refine go_aload_n dX11_clearOf_17 rfl ?_
      refine gs_gr dX11_clearOf_18 flX11_98 (gg_47 b) rfl ?_
      refine go_iload dX11_clearOf_21 rfl ?_
      refine gs_iald (_) dX11_clearOf_23 (gg_74 b) (rfl) (by omega) rfl (e) ?_
      refine gs_callVi dX11_clearOf_24 cvX11_clearOf_197 (cX11_sizeOf_ok κ b σ c hc) rfl (gg_47 b) rfl rfl rfl ⟨rfl, rfl⟩ rfl ?_
      refine go_istore (lv' := [_, _, _, _, _, _, _, _]) dX11_clearOf_27 rfl rfl rfl ?_
      refine go_aload_n dX11_clearOf_29 rfl ?_
      refine go_iload dX11_clearOf_30 rfl ?_
      refine go_iload dX11_clearOf_32 rfl ?_
      refine gs_callVi dX11_clearOf_34 cvX11_clearOf_275 (cX11_secondsOf_ok κ b σ _ _) rfl (gg_47 b) rfl rfl rfl ⟨rfl, rfl⟩ rfl ?_
      refine go_istore (lv' := [_, _, _, _, _, _, _, _]) dX11_clearOf_37 rfl rfl rfl ?_
      refine go_iload_n dX11_clearOf_39 rfl ?_
      refine go_aload_n dX11_clearOf_40 rfl ?_
      refine go_iload dX11_clearOf_41 rfl ?_
      refine go_iload dX11_clearOf_43 rfl ?_
      refine gs_callVi dX11_clearOf_45 cvX11_clearOf_271 (cX11_goesLeft_ok κ b σ _ _) rfl (gg_47 b) rfl rfl rfl ⟨rfl, rfl⟩ rfl ?_
      refine go_if_eqB 56 dX11_clearOf_48 (by decide) (fun c48 => ?_) (fun c48 => ?_)
      · refine go_iconst (v := nI 0) dX11_clearOf_56 (by decide) ?_
        refine go_iadd dX11_clearOf_57 ?_
        refine go_istore_n (lv' := [_, _, _, _, _, _, _, _]) dX11_clearOf_58 rfl rfl rfl ?_
        refine go_iload_n dX11_clearOf_59 rfl ?_
        refine go_aload_n dX11_clearOf_60 rfl ?_
        refine go_iload dX11_clearOf_61 rfl ?_
        refine go_iload dX11_clearOf_63 rfl ?_
        refine gs_callVi dX11_clearOf_65 cvX11_clearOf_271 (cX11_goesLeft_ok κ b σ _ _) rfl (gg_47 b) rfl rfl rfl ⟨rfl, rfl⟩ rfl ?_
        refine go_if_eqB 75 dX11_clearOf_68 (by decide) (fun c68 => ?_) (fun c68 => ?_)
        · refine go_iload dX11_clearOf_75 rfl ?_
          refine go_iadd dX11_clearOf_77 ?_
          refine go_istore_n (lv' := [_, _, _, _, _, _, _, _]) dX11_clearOf_78 rfl rfl rfl ?_
          refine go_iload dX11_clearOf_79 rfl ?_
          refine go_iload dX11_clearOf_81 rfl ?_
          refine go_iadd dX11_clearOf_83 ?_
          refine go_istore (lv' := [_, _, _, _, _, _, _, _]) dX11_clearOf_84 rfl rfl rfl ?_
          refine go_iincN (lv' := [_, _, _, _, _, _, _, _]) 1 dX11_clearOf_86 (by decide) rfl rfl rfl rfl ?_
          refine go_goto 10 dX11_clearOf_89 (by decide) ?_
          first
            | exact absurd (c48.symm.trans c68) (by decide)
            | exact go_wk (by simp only [mcL, mcR, mcp, sm, ez]; simp only [mcp] at c48 c68; simp [lvle, c13, c48, c68]) (ih c13)
        · refine go_iconst (v := nI 0) dX11_clearOf_71 (by decide) ?_
          refine go_goto 77 dX11_clearOf_72 (by decide) ?_
          refine go_iadd dX11_clearOf_77 ?_
          refine go_istore_n (lv' := [_, _, _, _, _, _, _, _]) dX11_clearOf_78 rfl rfl rfl ?_
          refine go_iload dX11_clearOf_79 rfl ?_
          refine go_iload dX11_clearOf_81 rfl ?_
          refine go_iadd dX11_clearOf_83 ?_
          refine go_istore (lv' := [_, _, _, _, _, _, _, _]) dX11_clearOf_84 rfl rfl rfl ?_
          refine go_iincN (lv' := [_, _, _, _, _, _, _, _]) 1 dX11_clearOf_86 (by decide) rfl rfl rfl rfl ?_
          refine go_goto 10 dX11_clearOf_89 (by decide) ?_
          first
            | exact absurd (c48.symm.trans c68) (by decide)
            | exact go_wk (by simp only [mcL, mcR, mcp, sm, ez]; simp only [mcp] at c48 c68; simp [lvle, c13, c48, c68]) (ih c13)
      · refine go_iload dX11_clearOf_51 rfl ?_
        refine go_goto 57 dX11_clearOf_53 (by decide) ?_
        refine go_iadd dX11_clearOf_57 ?_
        refine go_istore_n (lv' := [_, _, _, _, _, _, _, _]) dX11_clearOf_58 rfl rfl rfl ?_
        refine go_iload_n dX11_clearOf_59 rfl ?_
        refine go_aload_n dX11_clearOf_60 rfl ?_
        refine go_iload dX11_clearOf_61 rfl ?_
        refine go_iload dX11_clearOf_63 rfl ?_
        refine gs_callVi dX11_clearOf_65 cvX11_clearOf_271 (cX11_goesLeft_ok κ b σ _ _) rfl (gg_47 b) rfl rfl rfl ⟨rfl, rfl⟩ rfl ?_
        refine go_if_eqB 75 dX11_clearOf_68 (by decide) (fun c68 => ?_) (fun c68 => ?_)
        · refine go_iload dX11_clearOf_75 rfl ?_
          refine go_iadd dX11_clearOf_77 ?_
          refine go_istore_n (lv' := [_, _, _, _, _, _, _, _]) dX11_clearOf_78 rfl rfl rfl ?_
          refine go_iload dX11_clearOf_79 rfl ?_
          refine go_iload dX11_clearOf_81 rfl ?_
          refine go_iadd dX11_clearOf_83 ?_
          refine go_istore (lv' := [_, _, _, _, _, _, _, _]) dX11_clearOf_84 rfl rfl rfl ?_
          refine go_iincN (lv' := [_, _, _, _, _, _, _, _]) 1 dX11_clearOf_86 (by decide) rfl rfl rfl rfl ?_
          refine go_goto 10 dX11_clearOf_89 (by decide) ?_
          first
            | exact absurd (c48.symm.trans c68) (by decide)
            | exact go_wk (by simp only [mcL, mcR, mcp, sm, ez]; simp only [mcp] at c48 c68; simp [lvle, c13, c48, c68]) (ih c13)
        · refine go_iconst (v := nI 0) dX11_clearOf_71 (by decide) ?_
          refine go_goto 77 dX11_clearOf_72 (by decide) ?_
          refine go_iadd dX11_clearOf_77 ?_
          refine go_istore_n (lv' := [_, _, _, _, _, _, _, _]) dX11_clearOf_78 rfl rfl rfl ?_
          refine go_iload dX11_clearOf_79 rfl ?_
          refine go_iload dX11_clearOf_81 rfl ?_
          refine go_iadd dX11_clearOf_83 ?_
          refine go_istore (lv' := [_, _, _, _, _, _, _, _]) dX11_clearOf_84 rfl rfl rfl ?_
          refine go_iincN (lv' := [_, _, _, _, _, _, _, _]) 1 dX11_clearOf_86 (by decide) rfl rfl rfl rfl ?_
          refine go_goto 10 dX11_clearOf_89 (by decide) ?_
          first
            | exact absurd (c48.symm.trans c68) (by decide)
            | exact go_wk (by simp only [mcL, mcR, mcp, sm, ez]; simp only [mcp] at c48 c68; simp [lvle, c13, c48, c68]) (ih c13)
  refine go_iconst (v := nI 0) dX11_clearOf_0 (by decide) ?_
  refine go_istore_n (lv' := [_, _, _, _, _, _, _, _]) dX11_clearOf_1 rfl rfl rfl ?_
  refine go_iconst (v := nI 0) dX11_clearOf_2 (by decide) ?_
  refine go_istore_n (lv' := [_, _, _, _, _, _, _, _]) dX11_clearOf_3 rfl rfl rfl ?_
  refine go_iconst (v := nI 0) dX11_clearOf_4 (by decide) ?_
  refine go_istore (lv' := [_, _, _, _, _, _, _, _]) dX11_clearOf_5 rfl rfl rfl ?_
  refine go_iconst (v := nI 0) dX11_clearOf_7 (by decide) ?_
  refine go_istore (lv' := [_, _, _, _, _, _, _, _]) dX11_clearOf_8 rfl rfl rfl ?_
  exact go_wk (by exact ⟨rfl, rfl, rfl, rfl, rfl, rfl, trivial⟩) (loop 0 (Nat.zero_le _))
theorem cX11_isNext_ok (κ : gm_K) (b : Bool) (σ : wg_S) (n : Nat) (h1 : 1 ≤ n) (h4 : n ≤ 4) : Fn κ mX11_isNext [.ref 47, .int (nI n)] (gg b) σ (some (.int (bi (nxt (σ 74) n).isSome))) (gg b) (match nxt (σ 74) n with | none => σ | some a => ua σ 74 a) := by
  refine go_start (by decide) (Nat.le_of_ble_eq_true rfl) ?_
  have loop3 : ∀ (f : Nat) (t : Nat → Int32) (x y : Nat), x ≤ 4 → y < x + f → y < n → nxt (σ 74) n = some (rvl f t x y) → Go κ mX11_isNext 100 [some (.ref 47), some (.int (nI n)), none, none, none, some (.int (nI x)), some (.int (nI y))] [] (wd (gg b) (ua σ 74 t)) (0, 0) (fun q h' => q = some (.int (bi (nxt (σ 74) n).isSome)) ∧ h' = wd (gg b) (match nxt (σ 74) n with | none => σ | some a => ua σ 74 a)) := by
    intro f
    induction f with
    | zero =>
      intro t x y hx hf hy hT
      rw [show rvl 0 t x y = t from rfl] at hT
      refine go_iload dX11_isNext_100 rfl ?_
      refine go_iload dX11_isNext_102 rfl ?_
      refine go_icmp_geN 148 dX11_isNext_104 (by decide) (by omega) (by omega) (fun c104 => ?_) (fun c104 => ?_)
      · refine go_iconst (v := nI 1) dX11_isNext_148 (by decide) ?_
        refine go_zret dX11_isNext_149 rfl rfl (by decide) ?_
        exact ⟨by rw [hT]; rfl, by rw [hT]⟩
      · omega
    | succ f ih =>
      intro t x y hx hf hy hT
      refine go_iload dX11_isNext_100 rfl ?_
      refine go_iload dX11_isNext_102 rfl ?_
      refine go_icmp_geN 148 dX11_isNext_104 (by decide) (by omega) (by omega) (fun c104 => ?_) (fun c104 => ?_)
      · rw [show rvl (f + 1) t x y = t from if_pos c104] at hT
        refine go_iconst (v := nI 1) dX11_isNext_148 (by decide) ?_
        refine go_zret dX11_isNext_149 rfl rfl (by decide) ?_
        exact ⟨by rw [hT]; rfl, by rw [hT]⟩
      · rw [show rvl (f + 1) t x y = rvl f (swp t x y) (x + 1) (y - 1) from if_neg (by omega)] at hT
        refine go_aload_n dX11_isNext_107 rfl ?_
        refine gs_gr dX11_isNext_108 flX11_98 (gg_47 b) rfl ?_
        refine go_iload dX11_isNext_111 rfl ?_
        refine gs_iald (_) dX11_isNext_113 (gg_74 b) (rfl) (by omega) rfl (congrFun ua_s _) ?_
        refine go_istore (lv' := [_, _, _, _, _, _, _]) dX11_isNext_114 rfl rfl rfl ?_
        refine go_aload_n dX11_isNext_116 rfl ?_
        refine gs_gr dX11_isNext_117 flX11_98 (gg_47 b) rfl ?_
        refine go_iload dX11_isNext_120 rfl ?_
        refine go_aload_n dX11_isNext_122 rfl ?_
        refine gs_gr dX11_isNext_123 flX11_98 (gg_47 b) rfl ?_
        refine go_iload dX11_isNext_126 rfl ?_
        refine gs_iald (_) dX11_isNext_128 (gg_74 b) (rfl) (by omega) rfl (congrFun ua_s _) ?_
        refine gs_iast (_) dX11_isNext_129 (gg_74 b) (rfl) (by omega) rfl ?_
        refine go_aload_n dX11_isNext_130 rfl ?_
        refine gs_gr dX11_isNext_131 flX11_98 (gg_47 b) rfl ?_
        refine go_iload dX11_isNext_134 rfl ?_
        refine go_iload dX11_isNext_136 rfl ?_
        refine gs_iast (_) dX11_isNext_138 (gg_74 b) (rfl) (by omega) rfl ?_
        refine go_iincN (lv' := [_, _, _, _, _, _, _]) 1 dX11_isNext_139 (by decide) rfl rfl rfl rfl ?_
        refine go_iinc (lv' := [_, _, _, _, _, _, _]) dX11_isNext_142 rfl (show _ = nI (y - 1) by rw [show nI y = nI (y - 1 + 1) by rw [Nat.sub_add_cancel (by omega)]]; exact nI_dec _) rfl rfl rfl ?_
        refine go_goto 100 dX11_isNext_145 (by decide) ?_
        refine go_wkh (by exact ⟨rfl, rfl, rfl, rfl, trivial⟩) (congrArg (wd (gg b)) (by rw [ua_u, ua_u]; rfl)) (ih (swp t x y) (x + 1) (y - 1) (by omega) (by omega) (by omega) hT)
  have loop2 : ∀ (i j : Nat), i + 1 ≤ j → j < n → dsc (σ 74) (n - 1) = some i → djs (σ 74) (σ 74 i) (i + 1) (n - 1) = djs (σ 74) (σ 74 i) (i + 1) j → Go κ mX11_isNext 41 [some (.ref 47), some (.int (nI n)), some (.int (nI i)), some (.int (nI j)), none, none, none] [] (wd (gg b) σ) (0, 0) (fun q h' => q = some (.int (bi (nxt (σ 74) n).isSome)) ∧ h' = wd (gg b) (match nxt (σ 74) n with | none => σ | some a => ua σ 74 a)) := by
    intro i j
    induction j with
    | zero => intro h; omega
    | succ j ih =>
      intro hij hjn hd hj
      have hdl := dsc_le hd
      have hs : djs (σ 74) (σ 74 i) (i + 1) (j + 1) = if j + 1 ≤ i + 1 then j + 1 else if σ 74 i ≤ σ 74 (j + 1) then j + 1 else djs (σ 74) (σ 74 i) (i + 1) j := rfl
      have hN : nxt (σ 74) n = some (rvl n (swp (σ 74) i (djs (σ 74) (σ 74 i) (i + 1) (n - 1))) (i + 1) (n - 1)) := by unfold nxt; rw [hd]
      refine go_aload_n dX11_isNext_41 rfl ?_
      refine gs_gr dX11_isNext_42 flX11_98 (gg_47 b) rfl ?_
      refine go_iload_n dX11_isNext_45 rfl ?_
      refine gs_iald (_) dX11_isNext_46 (gg_74 b) (rfl) (by omega) rfl (rfl) ?_
      refine go_aload_n dX11_isNext_47 rfl ?_
      refine gs_gr dX11_isNext_48 flX11_98 (gg_47 b) rfl ?_
      refine go_iload_n dX11_isNext_51 rfl ?_
      refine gs_iald (_) dX11_isNext_52 (gg_74 b) (rfl) (by omega) rfl (rfl) ?_
      refine go_icmp_ge 62 dX11_isNext_53 (by decide) (fun c53 => ?_) (fun c53 => ?_)
      · have hjj : djs (σ 74) (σ 74 i) (i + 1) (j + 1) = j + 1 := by rw [hs]; split <;> first | rfl | rw [if_pos c53]
        rw [hj, hjj] at hN
        refine go_aload_n dX11_isNext_62 rfl ?_
        refine gs_gr dX11_isNext_63 flX11_98 (gg_47 b) rfl ?_
        refine go_iload_n dX11_isNext_66 rfl ?_
        refine gs_iald (_) dX11_isNext_67 (gg_74 b) (rfl) (by omega) rfl (rfl) ?_
        refine go_istore (lv' := [_, _, _, _, _, _, _]) dX11_isNext_68 rfl rfl rfl ?_
        refine go_aload_n dX11_isNext_70 rfl ?_
        refine gs_gr dX11_isNext_71 flX11_98 (gg_47 b) rfl ?_
        refine go_iload_n dX11_isNext_74 rfl ?_
        refine go_aload_n dX11_isNext_75 rfl ?_
        refine gs_gr dX11_isNext_76 flX11_98 (gg_47 b) rfl ?_
        refine go_iload_n dX11_isNext_79 rfl ?_
        refine gs_iald (_) dX11_isNext_80 (gg_74 b) (rfl) (by omega) rfl (rfl) ?_
        refine gs_iast (_) dX11_isNext_81 (gg_74 b) (rfl) (by omega) rfl ?_
        refine go_aload_n dX11_isNext_82 rfl ?_
        refine gs_gr dX11_isNext_83 flX11_98 (gg_47 b) rfl ?_
        refine go_iload_n dX11_isNext_86 rfl ?_
        refine go_iload dX11_isNext_87 rfl ?_
        refine gs_iast (_) dX11_isNext_89 (gg_74 b) (rfl) (by omega) rfl ?_
        refine go_iload_n dX11_isNext_90 rfl ?_
        refine go_iconst (v := nI 1) dX11_isNext_91 (by decide) ?_
        refine go_iaddN dX11_isNext_92 ?_
        refine go_istore (lv' := [_, _, _, _, _, _, _]) dX11_isNext_93 rfl rfl rfl ?_
        refine go_iload_n dX11_isNext_95 rfl ?_
        refine go_iconst (v := nI 1) dX11_isNext_96 (by decide) ?_
        refine go_isubN dX11_isNext_97 (by omega) ?_
        refine go_istore (lv' := [_, _, _, _, _, _, _]) dX11_isNext_98 rfl rfl rfl ?_
        refine go_wkh (by exact ⟨rfl, rfl, rfl, rfl, trivial⟩) (congrArg (wd (gg b)) (by rw [ua_us, ua_us, ua_s, ua_ua]; rfl)) (loop3 n _ _ _ (by omega) (by omega) (by omega) hN)
      · have hne : ¬ j + 1 ≤ i + 1 := fun h => c53 (by rw [show j = i by omega]; exact hdl)
        rw [if_neg hne, if_neg c53] at hs
        refine go_iinc (lv' := [_, _, _, _, _, _, _]) dX11_isNext_56 rfl (nI_dec j) rfl rfl rfl ?_
        refine go_goto 41 dX11_isNext_59 (by decide) ?_
        exact ih (by omega) (by omega) hd (hj.trans hs)
  have loop1 : ∀ (k : Nat), k + 1 ≤ n → dsc (σ 74) (n - 1) = dsc (σ 74) k → Go κ mX11_isNext 4 [some (.ref 47), some (.int (nI n)), some (.int (pI k)), none, none, none, none] [] (wd (gg b) σ) (0, 0) (fun q h' => q = some (.int (bi (nxt (σ 74) n).isSome)) ∧ h' = wd (gg b) (match nxt (σ 74) n with | none => σ | some a => ua σ 74 a)) := by
    intro k
    induction k with
    | zero =>
      intro hk hd
      have hN : nxt (σ 74) n = none := by unfold nxt; rw [hd]; rfl
      rw [show pI 0 = -1 from rfl]
      refine go_iload_n dX11_isNext_4 rfl ?_
      refine go_if_lt 31 dX11_isNext_5 (by decide) (fun _ => ?_) (fun z => absurd z (by decide))
      refine go_iload_n dX11_isNext_31 rfl ?_
      refine go_if_ge 37 dX11_isNext_32 (by decide) (fun z => absurd z (by decide)) (fun _ => ?_)
      refine go_iconst (v := nI 0) dX11_isNext_35 (by decide) ?_
      refine go_zret dX11_isNext_36 rfl rfl (by decide) ?_
      exact ⟨by rw [hN]; rfl, by rw [hN]⟩
    | succ k ih =>
      intro hk hd
      have hs : dsc (σ 74) (k + 1) = if σ 74 k ≤ σ 74 (k + 1) then some k else dsc (σ 74) k := rfl
      rw [show pI (k + 1) = nI k from rfl]
      refine go_iload_n dX11_isNext_4 rfl ?_
      refine go_if_ltN 31 dX11_isNext_5 (by decide) (by omega) ?_
      refine go_aload_n dX11_isNext_8 rfl ?_
      refine gs_gr dX11_isNext_9 flX11_98 (gg_47 b) rfl ?_
      refine go_iload_n dX11_isNext_12 rfl ?_
      refine gs_iald (_) dX11_isNext_13 (gg_74 b) (rfl) (by omega) rfl (rfl) ?_
      refine go_aload_n dX11_isNext_14 rfl ?_
      refine gs_gr dX11_isNext_15 flX11_98 (gg_47 b) rfl ?_
      refine go_iload_n dX11_isNext_18 rfl ?_
      refine go_iconst (v := nI 1) dX11_isNext_19 (by decide) ?_
      refine go_iaddN dX11_isNext_20 ?_
      refine gs_iald (_) dX11_isNext_21 (gg_74 b) (rfl) (by omega) rfl (rfl) ?_
      refine go_icmp_le 31 dX11_isNext_22 (by decide) (fun c22 => ?_) (fun c22 => ?_)
      · rw [if_pos c22] at hs
        refine go_iload_n dX11_isNext_31 rfl ?_
        refine go_if_geN 37 dX11_isNext_32 (by decide) (by omega) ?_
        refine go_iload_n dX11_isNext_37 rfl ?_
        refine go_iconst (v := nI 1) dX11_isNext_38 (by decide) ?_
        refine go_isubN dX11_isNext_39 (by omega) ?_
        refine go_istore_n (lv' := [_, _, _, _, _, _, _]) dX11_isNext_40 rfl rfl rfl ?_
        exact go_wk (by exact ⟨rfl, rfl, rfl, rfl, trivial⟩) (loop2 k (n - 1) (by omega) (by omega) (hd.trans hs) rfl)
      · rw [if_neg c22] at hs
        refine go_iinc (lv' := [_, _, _, _, _, _, _]) dX11_isNext_25 rfl (pI_dec k) rfl rfl rfl ?_
        refine go_goto 4 dX11_isNext_28 (by decide) ?_
        exact ih (by omega) (hd.trans hs)
  refine go_iload_n dX11_isNext_0 rfl ?_
  refine go_iconst (v := nI 2) dX11_isNext_1 (by decide) ?_
  refine go_isub dX11_isNext_2 ?_
  refine go_istore_n (lv' := [_, _, _, _, _, _, _]) dX11_isNext_3 rfl rfl rfl ?_
  skip
  refine go_wk ?_ (loop1 (n - 1) (by omega) rfl)
  have e : nI n - nI 2 = pI (n - 1) := by
    rcases (show n = 1 ∨ n = 2 ∨ n = 3 ∨ n = 4 by omega) with rfl | rfl | rfl | rfl <;> decide
  exact ⟨rfl, rfl, congrArg (fun z => some (Value.int z)) e, trivial⟩
/-- the tries end -/
def trm (n : Nat) : Nat → (Nat → Int32) → Prop
  | 0, _ => False
  | f + 1, a => match nxt a n with
    | none => True
    | some a' => trm n f a'
def cpr (a t : Nat → Int32) (k : Nat) : Nat → Int32 := fun i => if i < k then a i else t i
theorem cpr_0 (a t : Nat → Int32) : cpr a t 0 = t := by
  funext i
  unfold cpr
  rw [if_neg (by omega)]
theorem cpr_u (a t : Nat → Int32) (k : Nat) : upd (cpr a t k) k (a k) = cpr a t (k + 1) := by
  funext i
  by_cases e : i = k
  · subst e; rw [pk_us]; unfold cpr; rw [if_pos (by omega)]
  · rw [pk_un e]
    unfold cpr
    by_cases h1 : i < k
    · rw [if_pos h1, if_pos (by omega)]
    · rw [if_neg h1, if_neg (by omega)]
theorem cpr_in {a t : Nat → Int32} {n : Nat} (h : inL a n) : inL (cpr a t n) n := fun k hk => by
  unfold cpr
  rw [if_pos hk]
  exact h k hk
def mpt (cl : (Nat → Int32) → Int32) (n : Nat) (a t : Nat → Int32) (l : Int32) : (Nat → Int32) × Int32 := if l < 0 then (cpr a t n, cl a) else if l ≤ cl a then (t, l) else (cpr a t n, cl a)
/-- the reference's tries: the line, the best one, its seconds -/
def mpb (cl : (Nat → Int32) → Int32) (n : Nat) : Nat → (Nat → Int32) → (Nat → Int32) → Int32 → (Nat → Int32) × (Nat → Int32) × Int32
  | 0, a, t, l => (a, t, l)
  | f + 1, a, t, l => match nxt a n with
    | none => (a, (mpt cl n a t l).1, (mpt cl n a t l).2)
    | some a' => mpb cl n f a' (mpt cl n a t l).1 (mpt cl n a t l).2
/-- the cells while lines are tried -/
def mst (σ : wg_S) (a t : Nat → Int32) : wg_S := ua (ua σ 74 a) 75 t
theorem mst_p {σ : wg_S} {a t : Nat → Int32} {p : Nat} (h1 : p ≠ 74) (h2 : p ≠ 75) : mst σ a t p = σ p := by rw [mst, ua_p h2, ua_p h1]
theorem mst_a {σ : wg_S} {a t : Nat → Int32} : mst σ a t 74 = a := by rw [mst, ua_p (by decide), ua_s]
theorem mst_t {σ : wg_S} {a t : Nat → Int32} : mst σ a t 75 = t := by rw [mst, ua_s]
theorem mst_lo {σ : wg_S} {a t : Nat → Int32} : lo70 (mst σ a t) σ := fun p hp => mst_p (by omega) (by omega)
theorem mst_ua {σ : wg_S} {a t f : Nat → Int32} : ua (mst σ a t) 74 f = mst σ f t := by rw [mst, ua_cm (by decide), ua_ua, mst]
theorem mst_ut {σ : wg_S} {a t f : Nat → Int32} : ua (mst σ a t) 75 f = mst σ a f := by rw [mst, ua_ua, mst]
/-- the best line is put on the row -/
def mps (τ : wg_S) (t : Nat → Int32) (row : Int32) : Nat → wg_S
  | 0 => τ
  | i + 1 => us (us (mps τ t row i) 55 (t i).toNatClampNeg row) 56 (t i).toNatClampNeg (mcp τ t i)
theorem mps_p {τ : wg_S} {t : Nat → Int32} {row : Int32} {p : Nat} (h1 : p ≠ 55) (h2 : p ≠ 56) : ∀ i, mps τ t row i p = τ p
  | 0 => rfl
  | i + 1 => by rw [mps, us_p h2, us_p h1]; exact mps_p h1 h2 i
theorem msz_of {τ σ : wg_S} (h : τ 50 = σ 50) (c : Nat) : msz τ c = msz σ c := by unfold msz; rw [h]
theorem mX11_place_ok (κ : gm_K) (b : Bool) (τ : wg_S) (n : Nat) (h4 : n ≤ 4) (row l : Int32) (hB : inL (τ 75) n) (Φ : Option Value → gm_H → Prop) (hΦ : Φ (some (.int l)) (wd (gg b) (mps τ (τ 75) row n))) : Go κ mX11_lay 228 [some (.ref 47), some (.int row), none, some (.int (nI n)), none, none, some (.int l), none, none, none] [] (wd (gg b) τ) (0, 0) Φ := by
  have loop : ∀ i, i ≤ n → Go κ mX11_lay 234 [some (.ref 47), some (.int row), none, some (.int (nI n)), none, none, some (.int l), none, some (.int (mcp τ (τ 75) i)), some (.int (nI i))] [] (wd (gg b) (mps τ (τ 75) row i)) (0, 0) Φ := by
    refine lo_up n (fun i hi ih => ?_)
    have e75 : mps τ (τ 75) row i 75 = τ 75 := mps_p (by decide) (by decide) i
    refine go_iload dX11_lay_234 rfl ?_
    refine go_iload_n dX11_lay_236 rfl ?_
    refine go_icmp_geN 289 dX11_lay_237 (by decide) (by omega) (by omega) (fun c237 => ?_) (fun c237 => ?_)
    · refine go_iload dX11_lay_289 rfl ?_
      refine go_iret dX11_lay_291 rfl rfl ?_
      have e : i = n := by omega
      subst e
      exact hΦ
    · obtain ⟨c, hc, e⟩ := hB i c237
      have hz : Fn κ mX11_sizeOf [.ref 47, .int (nI c)] (gg b) (us (us (mps τ (τ 75) row i) 55 c row) 56 c (mcp τ (τ 75) i)) (some (.int (msz τ c))) (gg b) (us (us (mps τ (τ 75) row i) 55 c row) 56 c (mcp τ (τ 75) i)) := by
        have := cX11_sizeOf_ok κ b (us (us (mps τ (τ 75) row i) 55 c row) 56 c (mcp τ (τ 75) i)) c hc
        rwa [msz_of (show _ = τ 50 by rw [us_p (by decide), us_p (by decide)]; exact mps_p (by decide) (by decide) i)] at this
      refine go_aload_n dX11_lay_240 rfl ?_
      refine gs_gr dX11_lay_241 flX11_31 (gg_47 b) rfl ?_
      refine go_aload_n dX11_lay_244 rfl ?_
      refine gs_gr dX11_lay_245 flX11_101 (gg_47 b) rfl ?_
      refine go_iload dX11_lay_248 rfl ?_
      refine gs_iald (_) dX11_lay_250 (gg_75 b) (rfl) (by omega) rfl (show _ = nI c by first | exact (congrFun e75 i).trans e | (rw [us_p (by decide)]; exact (congrFun e75 i).trans e) | (rw [us_p (by decide), us_p (by decide)]; exact (congrFun e75 i).trans e)) ?_
      refine go_iload_n dX11_lay_251 rfl ?_
      refine gs_iast (_) dX11_lay_252 (gg_55 b) (rfl) (by omega) rfl ?_
      refine go_aload_n dX11_lay_253 rfl ?_
      refine gs_gr dX11_lay_254 flX11_34 (gg_47 b) rfl ?_
      refine go_aload_n dX11_lay_257 rfl ?_
      refine gs_gr dX11_lay_258 flX11_101 (gg_47 b) rfl ?_
      refine go_iload dX11_lay_261 rfl ?_
      refine gs_iald (_) dX11_lay_263 (gg_75 b) (rfl) (by omega) rfl (show _ = nI c by first | exact (congrFun e75 i).trans e | (rw [us_p (by decide)]; exact (congrFun e75 i).trans e) | (rw [us_p (by decide), us_p (by decide)]; exact (congrFun e75 i).trans e)) ?_
      refine go_iload dX11_lay_264 rfl ?_
      refine gs_iast (_) dX11_lay_266 (gg_56 b) (rfl) (by omega) rfl ?_
      refine go_iload dX11_lay_267 rfl ?_
      refine go_aload_n dX11_lay_269 rfl ?_
      refine go_aload_n dX11_lay_270 rfl ?_
      refine gs_gr dX11_lay_271 flX11_101 (gg_47 b) rfl ?_
      refine go_iload dX11_lay_274 rfl ?_
      refine gs_iald (_) dX11_lay_276 (gg_75 b) (rfl) (by omega) rfl (show _ = nI c by first | exact (congrFun e75 i).trans e | (rw [us_p (by decide)]; exact (congrFun e75 i).trans e) | (rw [us_p (by decide), us_p (by decide)]; exact (congrFun e75 i).trans e)) ?_
      refine gs_callVi dX11_lay_277 cvX11_lay_197 (hz) rfl (gg_47 b) rfl rfl rfl ⟨rfl, rfl⟩ rfl ?_
      refine go_iadd dX11_lay_280 ?_
      refine go_istore (lv' := [_, _, _, _, _, _, _, _, _, _]) dX11_lay_281 rfl rfl rfl ?_
      refine go_iincN (lv' := [_, _, _, _, _, _, _, _, _, _]) 1 dX11_lay_283 (by decide) rfl rfl rfl rfl ?_
      refine go_goto 234 dX11_lay_286 (by decide) ?_
      exact go_wkh (by simp only [mcp, sm, mcz_nI hc e]; exact ⟨rfl, rfl, rfl, rfl, rfl, rfl, trivial⟩) (by rw [mps, e, nI_clamp (by omega)]) (ih c237)
  refine go_iconst (v := nI 0) dX11_lay_228 (by decide) ?_
  refine go_istore (lv' := [_, _, _, _, _, _, _, _, _, _]) dX11_lay_229 rfl rfl rfl ?_
  refine go_iconst (v := nI 0) dX11_lay_231 (by decide) ?_
  refine go_istore (lv' := [_, _, _, _, _, _, _, _, _, _]) dX11_lay_232 rfl rfl rfl ?_
  exact go_wk (by exact ⟨rfl, rfl, rfl, rfl, rfl, rfl, trivial⟩) (loop 0 (Nat.zero_le _))
theorem mX11_try_ok (κ : gm_K) (b : Bool) (σ : wg_S) (n : Nat) (h1 : 1 ≤ n) (h4 : n ≤ 4) (row : Int32) (Φ : Option Value → gm_H → Prop) : ∀ (f : Nat) (a t : Nat → Int32) (l : Int32), inL a n → (l < 0 ∨ inL t n) → trm n f a → Φ (some (.int (mpb (fun a => mcv σ a n) n f a t l).2.2)) (wd (gg b) (mps (mst σ (mpb (fun a => mcv σ a n) n f a t l).1 (mpb (fun a => mcv σ a n) n f a t l).2.1) (mpb (fun a => mcv σ a n) n f a t l).2.1 row n)) → Go κ mX11_lay 161 [some (.ref 47), some (.int row), none, some (.int (nI n)), none, none, some (.int l), some (.int (bi true)), none, none] [] (wd (gg b) (mst σ a t)) (0, 0) Φ := by
  intro f
  induction f with
  | zero => intro a t l _ _ h0; exact absurd h0 (by simp [trm])
  | succ f ih =>
    intro a t l ha ht htr hΦ
    have hs : mpb (fun a => mcv σ a n) n (f + 1) a t l = (match nxt a n with
      | none => (a, (mpt (fun a => mcv σ a n) n a t l).1, (mpt (fun a => mcv σ a n) n a t l).2)
      | some a' => mpb (fun a => mcv σ a n) n f a' (mpt (fun a => mcv σ a n) n a t l).1 (mpt (fun a => mcv σ a n) n a t l).2) := rfl
    have htr' : (match nxt a n with | none => True | some a' => trm n f a') := htr
    have hcl := cX11_clearOf_ok κ b (mst σ a t) n h4 (by rw [mst_a]; exact ha)
    rw [mst_a, mcv_lo mst_lo] at hcl
    have hpt : mpt (fun a => mcv σ a n) n a t l = if l < 0 then (cpr a t n, mcv σ a n) else if l ≤ mcv σ a n then (t, l) else (cpr a t n, mcv σ a n) := rfl
    have next : ∀ (t' : Nat → Int32) (l' : Int32), mpt (fun a => mcv σ a n) n a t l = (t', l') → inL t' n → Go κ mX11_lay 218 [some (.ref 47), some (.int row), none, some (.int (nI n)), none, none, some (.int l'), none, none, none] [] (wd (gg b) (mst σ a t')) (0, 0) Φ := by
      intro t' l' hp ht'
      rw [hp] at hs
      have hnl := cX11_isNext_ok κ b (mst σ a t') n h1 h4
      rw [mst_a] at hnl
      cases hx : nxt a n with
      | none =>
        rw [hx] at hnl hs
        simp only [Option.isSome_none] at hnl
        rw [hs] at hΦ
        refine go_aload_n dX11_lay_218 rfl ?_
        refine go_iload_n dX11_lay_219 rfl ?_
        refine gs_callVi dX11_lay_220 cvX11_lay_284 (hnl) rfl (gg_47 b) rfl rfl rfl ⟨rfl, rfl⟩ rfl ?_
        refine go_istore (lv' := [_, _, _, _, _, _, _, _, _, _]) dX11_lay_223 rfl rfl rfl ?_
        refine go_goto 161 dX11_lay_225 (by decide) ?_
        refine go_iload dX11_lay_161 rfl ?_
        refine go_if_eq 228 dX11_lay_163 (by decide) (fun _ => ?_) (fun z => absurd z (by decide))
        refine go_wk (by exact ⟨rfl, rfl, rfl, rfl, trivial⟩) (mX11_place_ok κ b (mst σ a t') n h4 row l' (by rw [mst_t]; exact ht') Φ ?_)
        rw [mst_t]
        exact hΦ
      | some a' =>
        rw [hx] at hnl hs htr'
        simp only [Option.isSome_some, mst_ua] at hnl
        rw [hs] at hΦ
        have ha' := nxt_in ha hx
        refine go_aload_n dX11_lay_218 rfl ?_
        refine go_iload_n dX11_lay_219 rfl ?_
        refine gs_callVi dX11_lay_220 cvX11_lay_284 (hnl) rfl (gg_47 b) rfl rfl rfl ⟨rfl, rfl⟩ rfl ?_
        refine go_istore (lv' := [_, _, _, _, _, _, _, _, _, _]) dX11_lay_223 rfl rfl rfl ?_
        refine go_goto 161 dX11_lay_225 (by decide) ?_
        exact go_wk (by exact ⟨rfl, rfl, rfl, rfl, rfl, trivial⟩) (ih a' t' l' ha' (Or.inr ht') htr' hΦ)
    have copy : ∀ s, ∀ k, k ≤ n → mpt (fun a => mcv σ a n) n a t l = (cpr a t n, s) → Go κ mX11_lay 192 [some (.ref 47), some (.int row), none, some (.int (nI n)), none, none, some (.int s), none, none, some (.int (nI k))] [] (wd (gg b) (mst σ a (cpr a t k))) (0, 0) Φ := by
      intro s
      refine lo_up n (fun k hk ih2 hp => ?_)
      refine go_iload dX11_lay_192 rfl ?_
      refine go_iload_n dX11_lay_194 rfl ?_
      refine go_icmp_geN 218 dX11_lay_195 (by decide) (by omega) (by omega) (fun c195 => ?_) (fun c195 => ?_)
      · have e : k = n := by omega
        subst e
        exact go_wk (by exact ⟨rfl, rfl, rfl, rfl, trivial⟩) (next _ _ hp (cpr_in ha))
      · refine go_aload_n dX11_lay_198 rfl ?_
        refine gs_gr dX11_lay_199 flX11_101 (gg_47 b) rfl ?_
        refine go_iload dX11_lay_202 rfl ?_
        refine go_aload_n dX11_lay_204 rfl ?_
        refine gs_gr dX11_lay_205 flX11_98 (gg_47 b) rfl ?_
        refine go_iload dX11_lay_208 rfl ?_
        refine gs_iald (_) dX11_lay_210 (gg_74 b) (rfl) (by omega) rfl (congrFun mst_a _) ?_
        refine gs_iast (_) dX11_lay_211 (gg_75 b) (rfl) (by omega) rfl ?_
        refine go_iincN (lv' := [_, _, _, _, _, _, _, _, _, _]) 1 dX11_lay_212 (by decide) rfl rfl rfl rfl ?_
        refine go_goto 192 dX11_lay_215 (by decide) ?_
        exact go_wkh (by exact ⟨rfl, rfl, rfl, rfl, rfl, trivial⟩) (congrArg (wd (gg b)) (by rw [ua_us, mst_t, mst_ut, cpr_u])) (ih2 c195 hp)
    refine go_iload dX11_lay_161 rfl ?_
    refine go_if_eq 228 dX11_lay_163 (by decide) (fun z => absurd z (by decide)) (fun _ => ?_)
    refine go_aload_n dX11_lay_166 rfl ?_
    refine go_iload_n dX11_lay_167 rfl ?_
    refine gs_callVi dX11_lay_168 cvX11_lay_281 (hcl) rfl (gg_47 b) rfl rfl rfl ⟨rfl, rfl⟩ rfl ?_
    refine go_istore (lv' := [_, _, _, _, _, _, _, _, _, _]) dX11_lay_171 rfl rfl rfl ?_
    refine go_iload dX11_lay_173 rfl ?_
    refine go_if_lt 185 dX11_lay_175 (by decide) (fun c175 => ?_) (fun c175 => ?_)
    · refine go_iload dX11_lay_185 rfl ?_
      refine go_istore (lv' := [_, _, _, _, _, _, _, _, _, _]) dX11_lay_187 rfl rfl rfl ?_
      refine go_iconst (v := nI 0) dX11_lay_189 (by decide) ?_
      refine go_istore (lv' := [_, _, _, _, _, _, _, _, _, _]) dX11_lay_190 rfl rfl rfl ?_
      exact go_wkh (by exact ⟨rfl, rfl, rfl, rfl, rfl, trivial⟩) (congrArg (wd (gg b)) (by rw [cpr_0])) (copy _ 0 (Nat.zero_le _) (by rw [hpt, if_pos c175]))
    · refine go_iload dX11_lay_178 rfl ?_
      refine go_iload dX11_lay_180 rfl ?_
      refine go_icmp_ge 218 dX11_lay_182 (by decide) (fun c182 => ?_) (fun c182 => ?_)
      · exact go_wk (by exact ⟨rfl, rfl, rfl, rfl, trivial⟩) (next _ _ (by rw [hpt, if_neg c175, if_pos c182]) (ht.resolve_left c175))
      · refine go_iload dX11_lay_185 rfl ?_
        refine go_istore (lv' := [_, _, _, _, _, _, _, _, _, _]) dX11_lay_187 rfl rfl rfl ?_
        refine go_iconst (v := nI 0) dX11_lay_189 (by decide) ?_
        refine go_istore (lv' := [_, _, _, _, _, _, _, _, _, _]) dX11_lay_190 rfl rfl rfl ?_
        exact go_wkh (by exact ⟨rfl, rfl, rfl, rfl, rfl, trivial⟩) (congrArg (wd (gg b)) (by rw [cpr_0])) (copy _ 0 (Nat.zero_le _) (by rw [hpt, if_neg c175, if_neg c182]))
/-- the first line: the set's choirs -/
def wln (u : Nat) (f : Nat → Int32) : Nat → Nat → Int32
  | 0 => f
  | i + 1 => if u / 2 ^ i % 2 = 1 then upd (wln u f i) (pcr u i) (nI i) else wln u f i
theorem wln_in (u : Nat) (f : Nat → Int32) : ∀ i, i ≤ 16 → inL (wln u f i) (pcr u i)
  | 0, _ => fun k hk => by simp [pcr] at hk
  | i + 1, hi => fun k hk => by
    have ih := wln_in u f i (by omega)
    rw [pcr] at hk
    rw [wln]
    by_cases hb : u / 2 ^ i % 2 = 1
    · rw [if_pos hb]
      by_cases e : k = pcr u i
      · subst e; rw [pk_us]; exact ⟨i, by omega, rfl⟩
      · rw [pk_un e]; exact ih k (by omega)
    · rw [if_neg hb]; exact ih k (by omega)
theorem pcr_mo (u : Nat) {i k : Nat} (h : i ≤ k) : pcr u i ≤ pcr u k := by
  induction k with
  | zero => rw [show i = 0 by omega]; exact Nat.le_refl _
  | succ k ih =>
    by_cases e : i = k + 1
    · rw [e]; exact Nat.le_refl _
    · have := ih (by omega); rw [pcr]; omega
theorem sm_pcr {u : Nat} (hu : u < 2 ^ 31) : ∀ k, k ≤ 31 → sm (bv (nI u)) k = nI (pcr u k)
  | 0, _ => rfl
  | k + 1, hk => by rw [sm, sm_pcr hu k (by omega), bv_nI hu (by omega), nI_add, pcr]
def mll (σ : wg_S) (u i : Nat) : Int32 := sm (fun c => if u / 2 ^ c % 2 = 1 then msz σ c else 0) i
def mlg (σ : wg_S) (n : Nat) (row : Int32) (u i : Nat) : Bool := alb (mfr σ row (nI 0) (σ 47 35)) n && alb (fun c => !decide (u / 2 ^ c % 2 = 1) || (decide (σ 55 c = -1) && mth σ c)) i
def mlt (σ : wg_S) (n u : Nat) : (Nat → Int32) × (Nat → Int32) × Int32 := mpb (fun a => mcv σ a (pcr u n)) (pcr u n) 24 (wln u (σ 74) n) (σ 75) (-1)
def M_lay (σ : wg_S) (n : Nat) (row set : Int32) : Int32 × wg_S :=
  if row < 0 then (-1, σ) else if ¬ row < σ 47 34 then (-1, σ) else if set ≤ 0 then (-2, σ) else if nI 1 <<< (σ 47 0 &&& 31) ≤ set then (-2, σ) else if ¬ sm (bv set) 31 ≤ nI 4 then (-2, σ)
  else if mlg σ n row set.toNatClampNeg n = false then (-3, ua σ 74 (wln set.toNatClampNeg (σ 74) n)) else if ¬ mll σ set.toNatClampNeg n ≤ σ 47 35 then (-3, ua σ 74 (wln set.toNatClampNeg (σ 74) n))
  else ((mlt σ n set.toNatClampNeg).2.2, mps (mst σ (mlt σ n set.toNatClampNeg).1 (mlt σ n set.toNatClampNeg).2.1) (mlt σ n set.toNatClampNeg).2.1 row (pcr set.toNatClampNeg n))
theorem cX11_lay_ok (κ : gm_K) (b : Bool) (σ : wg_S) (n m j r : Nat) (C : MI σ n m j r) (row set : Int32) (hone : ∀ u, 0 < u → u < 2 ^ n → 1 ≤ pcr u n) (htrm : ∀ u, 0 < u → u < 2 ^ n → pcr u n ≤ 4 → trm (pcr u n) 24 (wln u (σ 74) n)) : Fn κ mX11_lay [.ref 47, .int row, .int set] (gg b) σ (some (.int ((M_lay σ n row set).1))) (gg b) (M_lay σ n row set).2 := by
  refine go_start (by decide) (Nat.le_of_ble_eq_true rfl) ?_
  obtain ⟨⟨hN, hn⟩, ⟨hM, hm⟩, ⟨hJ, hj⟩, ⟨hR, hr⟩, hT, hX⟩ := id C
  refine go_iload_n dX11_lay_0 rfl ?_
  refine go_if_lt 12 dX11_lay_1 (by decide) (fun c1 => ?_) (fun c1 => ?_)
  · refine go_iconst (v := -1) dX11_lay_12 (by decide) ?_
    refine go_iret dX11_lay_13 rfl rfl ?_
    rw [M_lay, if_pos c1]; exact ⟨rfl, rfl⟩
  · refine go_iload_n dX11_lay_4 rfl ?_
    refine go_aload_n dX11_lay_5 rfl ?_
    refine gs_gi dX11_lay_6 flX11_91 (gg_47 b) rfl (rfl) ?_
    refine go_icmp_lt 14 dX11_lay_9 (by decide) (fun c9 => ?_) (fun c9 => ?_)
    · refine go_iload_n dX11_lay_14 rfl ?_
      refine go_if_le 36 dX11_lay_15 (by decide) (fun c15 => ?_) (fun c15 => ?_)
      · refine go_bipush (v := -2) dX11_lay_36 (by decide) ?_
        refine go_iret dX11_lay_38 rfl rfl ?_
        rw [M_lay, if_neg c1, if_neg (fun h => h c9), if_pos c15]; exact ⟨rfl, rfl⟩
      · refine go_iload_n dX11_lay_18 rfl ?_
        refine go_iconst (v := nI 1) dX11_lay_19 (by decide) ?_
        refine go_aload_n dX11_lay_20 rfl ?_
        refine gs_gi dX11_lay_21 flX11_134 (gg_47 b) rfl (rfl) ?_
        refine go_ishl dX11_lay_24 ?_
        refine go_icmp_ge 36 dX11_lay_25 (by decide) (fun c25 => ?_) (fun c25 => ?_)
        · refine go_bipush (v := -2) dX11_lay_36 (by decide) ?_
          refine go_iret dX11_lay_38 rfl rfl ?_
          rw [M_lay, if_neg c1, if_neg (fun h => h c9), if_neg c15, if_pos c25]; exact ⟨rfl, rfl⟩
        · refine go_iload_n dX11_lay_28 rfl ?_
          refine gs_callSi dX11_lay_29 csX11_lay_278 (cX11_countBits_ok κ b σ _) rfl rfl rfl ⟨rfl, rfl⟩ rfl ?_
          refine go_iconst (v := nI 4) dX11_lay_32 (by decide) ?_
          refine go_icmp_le 39 dX11_lay_33 (by decide) (fun c33 => ?_) (fun c33 => ?_)
          · have h16 : 2 ^ n ≤ 65536 := Nat.pow_le_pow_right (n := 2) (j := 16) (by decide) hn
            have hu : ∃ u, 0 < u ∧ u < 2 ^ n ∧ set = nI u := by
              rw [hN, shl1 n (by omega)] at c25
              rcases pk_ix set (n := 2 ^ n) (by omega) with h | h | h
              · exact absurd (Int32.le_of_lt h) c15
              · exact absurd h c25
              · obtain ⟨u, h1, rfl⟩ := h
                refine ⟨u, ?_, h1, rfl⟩
                rcases Nat.eq_zero_or_pos u with rfl | h2
                · exact absurd (by decide) c15
                · exact h2
            obtain ⟨u, hu0, hu1, rfl⟩ := hu
            have eu := nI_clamp (show u < 2 ^ 31 by omega)
            have h31 : pcr u 31 ≤ 4 := by
              have c33' := c33
              rw [sm_pcr (by omega) 31 (by omega)] at c33'
              have := pcr_le u 31
              exact (nI_leI (by omega) (by decide)).mp c33'
            have hK : M_lay σ n row (nI u) = if mlg σ n row u n = false then (-3, ua σ 74 (wln u (σ 74) n)) else if ¬ mll σ u n ≤ σ 47 35 then (-3, ua σ 74 (wln u (σ 74) n))
                else ((mlt σ n u).2.2, mps (mst σ (mlt σ n u).1 (mlt σ n u).2.1) (mlt σ n u).2.1 row (pcr u n)) := by
              rw [M_lay, if_neg c1, if_neg (fun h => h c9), if_neg c15, if_neg c25, if_neg (fun h => h c33), eu]
            have loop : ∀ i, i ≤ n → Go κ mX11_lay 59 [some (.ref 47), some (.int row), some (.int (nI u)), some (.int (nI (pcr u i))), some (.int (mll σ u i)), some (.int (bi (mlg σ n row u i))), some (.int (nI i)), none, none, none] [] (wd (gg b) (ua σ 74 (wln u (σ 74) i))) (0, 0) (fun z h' => z = some (.int (M_lay σ n row (nI u)).1) ∧ h' = wd (gg b) (M_lay σ n row (nI u)).2) := by
              refine lo_up n (fun i hi ih => ?_)
              have hN' : ua σ 74 (wln u (σ 74) i) 47 0 = nI n := by rw [ua_p (by decide)]; exact hN
              have hlo : lo70 (ua σ 74 (wln u (σ 74) i)) σ := lo_ua (by decide)
              have hth : i < n → Fn κ mX11_isThere [.ref 47, .int (nI i)] (gg b) (ua σ 74 (wln u (σ 74) i)) (some (.int (bi (mth σ i)))) (gg b) (ua σ 74 (wln u (σ 74) i)) := fun h => by
                have := cX11_isThere_ok κ b (ua σ 74 (wln u (σ 74) i)) i (by omega) ((MI_lo hlo C).2.2.2.2.2 i h)
                rwa [mth_lo hlo] at this
              have hsz : i < n → Fn κ mX11_sizeOf [.ref 47, .int (nI i)] (gg b) (ua σ 74 (wln u (σ 74) i)) (some (.int (msz σ i))) (gg b) (ua σ 74 (wln u (σ 74) i)) := fun h => by
                have := cX11_sizeOf_ok κ b (ua σ 74 (wln u (σ 74) i)) i (by omega)
                rwa [msz_lo hlo] at this
              have hs1 : mlg σ n row u (i + 1) = (mlg σ n row u i && (!decide (u / 2 ^ i % 2 = 1) || (decide (σ 55 i = -1) && mth σ i))) := by simp only [mlg, alb, Bool.and_assoc]
              have hs2 : mll σ u (i + 1) = mll σ u i + (if u / 2 ^ i % 2 = 1 then msz σ i else 0) := rfl
              have hs3 : wln u (σ 74) (i + 1) = if u / 2 ^ i % 2 = 1 then upd (wln u (σ 74) i) (pcr u i) (nI i) else wln u (σ 74) i := rfl
              have hs4 : pcr u (i + 1) = pcr u i + u / 2 ^ i % 2 := rfl
              have hpi : i < n → pcr u (i + 1) ≤ 4 := fun h => Nat.le_trans (pcr_mo u (by omega)) h31
              have hpl := pcr_le u i
              cases hb : mlg σ n row u i with
              | false =>
                rw [hb, Bool.false_and] at hs1
                refine go_iload dX11_lay_59 rfl ?_
                refine go_aload_n dX11_lay_61 rfl ?_
                refine gs_gi dX11_lay_62 flX11_134 (gg_47 b) rfl (hN') ?_
                refine go_icmp_geN 138 dX11_lay_65 (by decide) (by omega) (by omega) (fun c65 => ?_) (fun c65 => ?_)
                · refine go_iload dX11_lay_138 rfl ?_
                  refine go_if_eq 152 dX11_lay_140 (by decide) (fun _ => ?_) (fun z => absurd z (by decide))
                  refine go_bipush (v := -3) dX11_lay_152 (by decide) ?_
                  refine go_iret dX11_lay_154 rfl rfl ?_
                  have e : i = n := by omega
                  subst e
                  rw [hK, if_pos hb]
                  exact ⟨rfl, rfl⟩
                · refine go_iload_n dX11_lay_68 rfl ?_
                  refine go_iload dX11_lay_69 rfl ?_
                  refine go_ishr dX11_lay_71 ?_
                  refine go_iconst (v := nI 1) dX11_lay_72 (by decide) ?_
                  refine go_iand dX11_lay_73 ?_
                  refine go_topI (bv_nI (by omega) (by omega)) ?_
                  refine go_iconst (v := nI 1) dX11_lay_74 (by decide) ?_
                  refine go_icmp_neN 132 dX11_lay_75 (by decide) (by omega) (by omega) (fun c75 => ?_) (fun c75 => ?_)
                  · refine go_iincN (lv' := [_, _, _, _, _, _, _, _, _, _]) 1 dX11_lay_132 (by decide) rfl rfl rfl rfl ?_
                    refine go_goto 59 dX11_lay_135 (by decide) ?_
                    exact go_wkh (by rw [hs1, hs2, hs4]; simp +decide [lvle, bi, nI_0, c75, show u / 2 ^ i % 2 = 0 by omega]) (congrArg (wd (gg b)) (by rw [hs3, if_neg c75])) (ih c65)
                  · have h4' := hpi c65
                    rw [c75] at hs4
                    refine go_iload dX11_lay_78 rfl ?_
                    refine go_if_eq 107 dX11_lay_80 (by decide) (fun _ => ?_) (fun z => absurd z (by decide))
                    refine go_iconst (v := nI 0) dX11_lay_107 (by decide) ?_
                    refine go_istore (lv' := [_, _, _, _, _, _, _, _, _, _]) dX11_lay_108 rfl rfl rfl ?_
                    refine go_iload dX11_lay_110 rfl ?_
                    refine go_aload_n dX11_lay_112 rfl ?_
                    refine go_iload dX11_lay_113 rfl ?_
                    refine gs_callVi dX11_lay_115 cvX11_lay_197 (hsz c65) rfl (gg_47 b) rfl rfl rfl ⟨rfl, rfl⟩ rfl ?_
                    refine go_iadd dX11_lay_118 ?_
                    refine go_istore (lv' := [_, _, _, _, _, _, _, _, _, _]) dX11_lay_119 rfl rfl rfl ?_
                    refine go_aload_n dX11_lay_121 rfl ?_
                    refine gs_gr dX11_lay_122 flX11_98 (gg_47 b) rfl ?_
                    refine go_iload_n dX11_lay_125 rfl ?_
                    refine go_iload dX11_lay_126 rfl ?_
                    refine gs_iast (_) dX11_lay_128 (gg_74 b) (rfl) (by have := hpi c65; omega) rfl ?_
                    refine go_iincN (lv' := [_, _, _, _, _, _, _, _, _, _]) 1 dX11_lay_129 (by decide) rfl rfl rfl rfl ?_
                    refine go_iincN (lv' := [_, _, _, _, _, _, _, _, _, _]) 1 dX11_lay_132 (by decide) rfl rfl rfl rfl ?_
                    refine go_goto 59 dX11_lay_135 (by decide) ?_
                    exact go_wkh (by rw [hs1, hs2, hs4]; simp +decide [lvle, bi, nI_0, c75]) (congrArg (wd (gg b)) (by rw [ua_u, hs3, if_pos c75])) (ih c65)
              | true =>
                rw [hb, Bool.true_and] at hs1
                refine go_iload dX11_lay_59 rfl ?_
                refine go_aload_n dX11_lay_61 rfl ?_
                refine gs_gi dX11_lay_62 flX11_134 (gg_47 b) rfl (hN') ?_
                refine go_icmp_geN 138 dX11_lay_65 (by decide) (by omega) (by omega) (fun c65 => ?_) (fun c65 => ?_)
                · refine go_iload dX11_lay_138 rfl ?_
                  refine go_if_eq 152 dX11_lay_140 (by decide) (fun z => absurd z (by decide)) (fun _ => ?_)
                  refine go_iload dX11_lay_143 rfl ?_
                  refine go_aload_n dX11_lay_145 rfl ?_
                  refine gs_gi dX11_lay_146 flX11_95 (gg_47 b) rfl (congrFun (ua_p (by decide)) 35) ?_
                  refine go_icmp_le 155 dX11_lay_149 (by decide) (fun c149 => ?_) (fun c149 => ?_)
                  · refine go_iconst (v := -1) dX11_lay_155 (by decide) ?_
                    refine go_istore (lv' := [_, _, _, _, _, _, _, _, _, _]) dX11_lay_156 rfl rfl rfl ?_
                    refine go_iconst (v := nI 1) dX11_lay_158 (by decide) ?_
                    refine go_istore (lv' := [_, _, _, _, _, _, _, _, _, _]) dX11_lay_159 rfl rfl rfl ?_
                    have e : i = n := by omega
                    subst e
                    rw [hK, if_neg (by simp [hb]), if_neg (fun h => h c149)]
                    have h1 := hone u hu0 hu1
                    have h4 : pcr u i ≤ 4 := Nat.le_trans (pcr_mo u (by omega)) h31
                    have ht := htrm u hu0 hu1 h4
                    refine go_wkh (by exact ⟨rfl, rfl, rfl, rfl, rfl, trivial⟩) (congrArg (wd (gg b)) (show ua σ 74 (wln u (σ 74) i) = mst σ (wln u (σ 74) i) (σ 75) by rw [mst]; conv => lhs; rw [← ua_id (σ := ua σ 74 (wln u (σ 74) i)) (p := 75), ua_p (show (75 : Nat) ≠ 74 by decide)])) (mX11_try_ok κ b σ (pcr u i) h1 h4 row _ 24 _ _ (-1) (wln_in u (σ 74) i (by omega)) (Or.inl (by decide)) ht ⟨rfl, rfl⟩)
                  · refine go_bipush (v := -3) dX11_lay_152 (by decide) ?_
                    refine go_iret dX11_lay_154 rfl rfl ?_
                    have e : i = n := by omega
                    subst e
                    rw [hK, if_neg (by simp [hb]), if_pos c149]
                    exact ⟨rfl, rfl⟩
                · refine go_iload_n dX11_lay_68 rfl ?_
                  refine go_iload dX11_lay_69 rfl ?_
                  refine go_ishr dX11_lay_71 ?_
                  refine go_iconst (v := nI 1) dX11_lay_72 (by decide) ?_
                  refine go_iand dX11_lay_73 ?_
                  refine go_topI (bv_nI (by omega) (by omega)) ?_
                  refine go_iconst (v := nI 1) dX11_lay_74 (by decide) ?_
                  refine go_icmp_neN 132 dX11_lay_75 (by decide) (by omega) (by omega) (fun c75 => ?_) (fun c75 => ?_)
                  · refine go_iincN (lv' := [_, _, _, _, _, _, _, _, _, _]) 1 dX11_lay_132 (by decide) rfl rfl rfl rfl ?_
                    refine go_goto 59 dX11_lay_135 (by decide) ?_
                    exact go_wkh (by rw [hs1, hs2, hs4]; simp +decide [lvle, bi, nI_0, c75, show u / 2 ^ i % 2 = 0 by omega]) (congrArg (wd (gg b)) (by rw [hs3, if_neg c75])) (ih c65)
                  · have h4' := hpi c65
                    rw [c75] at hs4
                    refine go_iload dX11_lay_78 rfl ?_
                    refine go_if_eq 107 dX11_lay_80 (by decide) (fun z => absurd z (by decide)) (fun _ => ?_)
                    refine go_aload_n dX11_lay_83 rfl ?_
                    refine gs_gr dX11_lay_84 flX11_31 (gg_47 b) rfl ?_
                    refine go_iload dX11_lay_87 rfl ?_
                    refine gs_iald (_) dX11_lay_89 (gg_55 b) (rfl) (by omega) rfl (congrFun (ua_p (by decide)) i) ?_
                    refine go_iconst (v := -1) dX11_lay_90 (by decide) ?_
                    refine go_icmp_ne 107 dX11_lay_91 (by decide) (fun c91 => ?_) (fun c91 => ?_)
                    · refine go_iconst (v := nI 0) dX11_lay_107 (by decide) ?_
                      refine go_istore (lv' := [_, _, _, _, _, _, _, _, _, _]) dX11_lay_108 rfl rfl rfl ?_
                      refine go_iload dX11_lay_110 rfl ?_
                      refine go_aload_n dX11_lay_112 rfl ?_
                      refine go_iload dX11_lay_113 rfl ?_
                      refine gs_callVi dX11_lay_115 cvX11_lay_197 (hsz c65) rfl (gg_47 b) rfl rfl rfl ⟨rfl, rfl⟩ rfl ?_
                      refine go_iadd dX11_lay_118 ?_
                      refine go_istore (lv' := [_, _, _, _, _, _, _, _, _, _]) dX11_lay_119 rfl rfl rfl ?_
                      refine go_aload_n dX11_lay_121 rfl ?_
                      refine gs_gr dX11_lay_122 flX11_98 (gg_47 b) rfl ?_
                      refine go_iload_n dX11_lay_125 rfl ?_
                      refine go_iload dX11_lay_126 rfl ?_
                      refine gs_iast (_) dX11_lay_128 (gg_74 b) (rfl) (by have := hpi c65; omega) rfl ?_
                      refine go_iincN (lv' := [_, _, _, _, _, _, _, _, _, _]) 1 dX11_lay_129 (by decide) rfl rfl rfl rfl ?_
                      refine go_iincN (lv' := [_, _, _, _, _, _, _, _, _, _]) 1 dX11_lay_132 (by decide) rfl rfl rfl rfl ?_
                      refine go_goto 59 dX11_lay_135 (by decide) ?_
                      exact go_wkh (by rw [hs1, hs2, hs4]; simp +decide [lvle, bi, nI_0, c75, c91]) (congrArg (wd (gg b)) (by rw [ua_u, hs3, if_pos c75])) (ih c65)
                    · refine go_aload_n dX11_lay_94 rfl ?_
                      refine go_iload dX11_lay_95 rfl ?_
                      refine gs_callVi dX11_lay_97 cvX11_lay_200 (hth c65) rfl (gg_47 b) rfl rfl rfl ⟨rfl, rfl⟩ rfl ?_
                      refine go_if_eqB 107 dX11_lay_100 (by decide) (fun c100 => ?_) (fun c100 => ?_)
                      · refine go_iconst (v := nI 0) dX11_lay_107 (by decide) ?_
                        refine go_istore (lv' := [_, _, _, _, _, _, _, _, _, _]) dX11_lay_108 rfl rfl rfl ?_
                        refine go_iload dX11_lay_110 rfl ?_
                        refine go_aload_n dX11_lay_112 rfl ?_
                        refine go_iload dX11_lay_113 rfl ?_
                        refine gs_callVi dX11_lay_115 cvX11_lay_197 (hsz c65) rfl (gg_47 b) rfl rfl rfl ⟨rfl, rfl⟩ rfl ?_
                        refine go_iadd dX11_lay_118 ?_
                        refine go_istore (lv' := [_, _, _, _, _, _, _, _, _, _]) dX11_lay_119 rfl rfl rfl ?_
                        refine go_aload_n dX11_lay_121 rfl ?_
                        refine gs_gr dX11_lay_122 flX11_98 (gg_47 b) rfl ?_
                        refine go_iload_n dX11_lay_125 rfl ?_
                        refine go_iload dX11_lay_126 rfl ?_
                        refine gs_iast (_) dX11_lay_128 (gg_74 b) (rfl) (by have := hpi c65; omega) rfl ?_
                        refine go_iincN (lv' := [_, _, _, _, _, _, _, _, _, _]) 1 dX11_lay_129 (by decide) rfl rfl rfl rfl ?_
                        refine go_iincN (lv' := [_, _, _, _, _, _, _, _, _, _]) 1 dX11_lay_132 (by decide) rfl rfl rfl rfl ?_
                        refine go_goto 59 dX11_lay_135 (by decide) ?_
                        exact go_wkh (by rw [hs1, hs2, hs4]; simp +decide [lvle, bi, nI_0, c75, c91, c100]) (congrArg (wd (gg b)) (by rw [ua_u, hs3, if_pos c75])) (ih c65)
                      · refine go_iconst (v := nI 1) dX11_lay_103 (by decide) ?_
                        refine go_goto 108 dX11_lay_104 (by decide) ?_
                        refine go_istore (lv' := [_, _, _, _, _, _, _, _, _, _]) dX11_lay_108 rfl rfl rfl ?_
                        refine go_iload dX11_lay_110 rfl ?_
                        refine go_aload_n dX11_lay_112 rfl ?_
                        refine go_iload dX11_lay_113 rfl ?_
                        refine gs_callVi dX11_lay_115 cvX11_lay_197 (hsz c65) rfl (gg_47 b) rfl rfl rfl ⟨rfl, rfl⟩ rfl ?_
                        refine go_iadd dX11_lay_118 ?_
                        refine go_istore (lv' := [_, _, _, _, _, _, _, _, _, _]) dX11_lay_119 rfl rfl rfl ?_
                        refine go_aload_n dX11_lay_121 rfl ?_
                        refine gs_gr dX11_lay_122 flX11_98 (gg_47 b) rfl ?_
                        refine go_iload_n dX11_lay_125 rfl ?_
                        refine go_iload dX11_lay_126 rfl ?_
                        refine gs_iast (_) dX11_lay_128 (gg_74 b) (rfl) (by have := hpi c65; omega) rfl ?_
                        refine go_iincN (lv' := [_, _, _, _, _, _, _, _, _, _]) 1 dX11_lay_129 (by decide) rfl rfl rfl rfl ?_
                        refine go_iincN (lv' := [_, _, _, _, _, _, _, _, _, _]) 1 dX11_lay_132 (by decide) rfl rfl rfl rfl ?_
                        refine go_goto 59 dX11_lay_135 (by decide) ?_
                        exact go_wkh (by rw [hs1, hs2, hs4]; simp +decide [lvle, bi, nI_0, c75, c91, c100]) (congrArg (wd (gg b)) (by rw [ua_u, hs3, if_pos c75])) (ih c65)
            refine go_iconst (v := nI 0) dX11_lay_39 (by decide) ?_
            refine go_istore_n (lv' := [_, _, _, _, _, _, _, _, _, _]) dX11_lay_40 rfl rfl rfl ?_
            refine go_iconst (v := nI 0) dX11_lay_41 (by decide) ?_
            refine go_istore (lv' := [_, _, _, _, _, _, _, _, _, _]) dX11_lay_42 rfl rfl rfl ?_
            refine go_aload_n dX11_lay_44 rfl ?_
            refine go_iload_n dX11_lay_45 rfl ?_
            refine go_iconst (v := nI 0) dX11_lay_46 (by decide) ?_
            refine go_aload_n dX11_lay_47 rfl ?_
            refine gs_gi dX11_lay_48 flX11_95 (gg_47 b) rfl (rfl) ?_
            refine gs_callVi dX11_lay_51 cvX11_lay_268 (cX11_isFree_ok κ b σ n hn hN _ _ _) rfl (gg_47 b) rfl rfl rfl ⟨rfl, rfl⟩ rfl ?_
            refine go_istore (lv' := [_, _, _, _, _, _, _, _, _, _]) dX11_lay_54 rfl rfl rfl ?_
            refine go_iconst (v := nI 0) dX11_lay_56 (by decide) ?_
            refine go_istore (lv' := [_, _, _, _, _, _, _, _, _, _]) dX11_lay_57 rfl rfl rfl ?_
            exact go_wkh (by simp only [mlg, alb, Bool.and_true]; exact ⟨rfl, rfl, rfl, rfl, rfl, rfl, rfl, trivial⟩) (congrArg (wd (gg b)) (show σ = ua σ 74 (σ 74) from ua_id.symm)) (loop 0 (Nat.zero_le _))
          · refine go_bipush (v := -2) dX11_lay_36 (by decide) ?_
            refine go_iret dX11_lay_38 rfl rfl ?_
            rw [M_lay, if_neg c1, if_neg (fun h => h c9), if_neg c15, if_neg c25, if_pos c33]; exact ⟨rfl, rfl⟩
    · refine go_iconst (v := -1) dX11_lay_12 (by decide) ?_
      refine go_iret dX11_lay_13 rfl rfl ?_
      rw [M_lay, if_neg c1, if_pos c9]; exact ⟨rfl, rfl⟩
