theorem cX7_has_ok (κ : gm_K) (b : Bool) (σ : wg_S) (c : Int32) : Fn κ mX7_has [.ref 9, .int c] (gg b) σ (some (.int (bi (hs (σ 9 0) c)))) (gg b) σ := by
  refine go_start (by decide) (Nat.le_of_ble_eq_true rfl) ?_
  refine go_iload_n dX7_has_0 rfl ?_
  refine go_if_lt 16 dX7_has_1 (by decide) (fun c1 => ?_) (fun c1 => ?_)
  · refine go_iconst (v := nI 0) dX7_has_16 (by decide) ?_
    refine go_zret dX7_has_17 rfl rfl (by decide) ?_
    exact ⟨by simp +decide [c1, bi, hs], rfl⟩
  · refine go_iload_n dX7_has_4 rfl ?_
    refine go_aload_n dX7_has_5 rfl ?_
    refine gs_gi dX7_has_6 flX7_9 (gg_9 b) rfl (rfl) ?_
    refine go_icmp_ge 16 dX7_has_9 (by decide) (fun c9 => ?_) (fun c9 => ?_)
    · refine go_iconst (v := nI 0) dX7_has_16 (by decide) ?_
      refine go_zret dX7_has_17 rfl rfl (by decide) ?_
      exact ⟨by simp +decide [c1, c9, bi, hs], rfl⟩
    · refine go_iconst (v := nI 1) dX7_has_12 (by decide) ?_
      refine go_goto 17 dX7_has_13 (by decide) ?_
      refine go_zret dX7_has_17 rfl rfl (by decide) ?_
      exact ⟨by simp +decide [c1, c9, bi, hs], rfl⟩
theorem cX7_hasAll_ok (κ : gm_K) (b : Bool) (σ : wg_S) (set : Int32) : Fn κ mX7_hasAll [.ref 9, .int set] (gg b) σ (some (.int (bi (decide (set &&& -(nI 1 <<< (σ 9 0 &&& 31)) = 0))))) (gg b) σ := by
  refine go_start (by decide) (Nat.le_of_ble_eq_true rfl) ?_
  refine go_iload_n dX7_hasAll_0 rfl ?_
  refine go_iconst (v := nI 1) dX7_hasAll_1 (by decide) ?_
  refine go_aload_n dX7_hasAll_2 rfl ?_
  refine gs_gi dX7_hasAll_3 flX7_9 (gg_9 b) rfl (rfl) ?_
  refine go_ishl dX7_hasAll_6 ?_
  refine go_ineg dX7_hasAll_7 ?_
  refine go_iand dX7_hasAll_8 ?_
  refine go_if_ne 16 dX7_hasAll_9 (by decide) (fun c9 => ?_) (fun c9 => ?_)
  · refine go_iconst (v := nI 0) dX7_hasAll_16 (by decide) ?_
    refine go_zret dX7_hasAll_17 rfl rfl (by decide) ?_
    exact ⟨by simp +decide [c9, bi], rfl⟩
  · refine go_iconst (v := nI 1) dX7_hasAll_12 (by decide) ?_
    refine go_goto 17 dX7_hasAll_13 (by decide) ?_
    refine go_zret dX7_hasAll_17 rfl rfl (by decide) ?_
    exact ⟨by simp +decide [c9, bi], rfl⟩
def s_song (σ : wg_S) (n : Nat) (k v h : Int32) : wg_S := us (us (us (us σ 10 n k) 11 n v) 12 n h) 9 0 (nI (n + 1))
theorem cX7_add_ok (κ : gm_K) (b : Bool) (σ : wg_S) (n : Nat) (hn : n < 9) (hN : σ 9 0 = nI n) (k v h : Int32) : Fn κ mX7_add [.ref 9, .int k, .int v, .int h] (gg b) σ (some (.int (nI n))) (gg b) (s_song σ n k v h) := by
  refine go_start (by decide) (Nat.le_of_ble_eq_true rfl) ?_
  refine go_aload_n dX7_add_0 rfl ?_
  refine gs_gi dX7_add_1 flX7_9 (gg_9 b) rfl (hN) ?_
  refine go_istore (lv' := [_, _, _, _, _]) dX7_add_4 rfl rfl rfl ?_
  refine go_aload_n dX7_add_6 rfl ?_
  refine gs_gr dX7_add_7 flX7_15 (gg_9 b) rfl ?_
  refine go_iload dX7_add_10 rfl ?_
  refine go_iload_n dX7_add_12 rfl ?_
  refine gs_iast (_) dX7_add_13 (gg_10 b) (rfl) (by omega) rfl ?_
  refine go_aload_n dX7_add_14 rfl ?_
  refine gs_gr dX7_add_15 flX7_19 (gg_9 b) rfl ?_
  refine go_iload dX7_add_18 rfl ?_
  refine go_iload_n dX7_add_20 rfl ?_
  refine gs_iast (_) dX7_add_21 (gg_11 b) (rfl) (by omega) rfl ?_
  refine go_aload_n dX7_add_22 rfl ?_
  refine gs_gr dX7_add_23 flX7_22 (gg_9 b) rfl ?_
  refine go_iload dX7_add_26 rfl ?_
  refine go_iload_n dX7_add_28 rfl ?_
  refine gs_iast (_) dX7_add_29 (gg_12 b) (rfl) (by omega) rfl ?_
  refine go_aload_n dX7_add_30 rfl ?_
  refine go_dup dX7_add_31 rfl ?_
  refine gs_gi dX7_add_32 flX7_9 (gg_9 b) rfl (show _ = nI n by simpa [us] using hN) ?_
  refine go_iconst (v := nI 1) dX7_add_35 (by decide) ?_
  refine go_iaddN dX7_add_36 ?_
  refine gs_pi dX7_add_37 flX7_9 (gg_9 b) rfl (fun q hq => by cases hq; exact ⟨rfl, rfl⟩) ?_
  refine go_iload dX7_add_40 rfl ?_
  refine go_iret dX7_add_42 rfl rfl ?_
  exact ⟨rfl, rfl⟩
theorem cX2_has_ok (κ : gm_K) (b : Bool) (σ : wg_S) (c : Int32) : Fn κ mX2_has [.ref 14, .int c] (gg b) σ (some (.int (bi (hs (σ 14 0) c)))) (gg b) σ := by
  refine go_start (by decide) (Nat.le_of_ble_eq_true rfl) ?_
  refine go_iload_n dX2_has_0 rfl ?_
  refine go_if_lt 16 dX2_has_1 (by decide) (fun c1 => ?_) (fun c1 => ?_)
  · refine go_iconst (v := nI 0) dX2_has_16 (by decide) ?_
    refine go_zret dX2_has_17 rfl rfl (by decide) ?_
    exact ⟨by simp +decide [c1, bi, hs], rfl⟩
  · refine go_iload_n dX2_has_4 rfl ?_
    refine go_aload_n dX2_has_5 rfl ?_
    refine gs_gi dX2_has_6 flX2_9 (gg_14 b) rfl (rfl) ?_
    refine go_icmp_ge 16 dX2_has_9 (by decide) (fun c9 => ?_) (fun c9 => ?_)
    · refine go_iconst (v := nI 0) dX2_has_16 (by decide) ?_
      refine go_zret dX2_has_17 rfl rfl (by decide) ?_
      exact ⟨by simp +decide [c1, c9, bi, hs], rfl⟩
    · refine go_iconst (v := nI 1) dX2_has_12 (by decide) ?_
      refine go_goto 17 dX2_has_13 (by decide) ?_
      refine go_zret dX2_has_17 rfl rfl (by decide) ?_
      exact ⟨by simp +decide [c1, c9, bi, hs], rfl⟩
def s_judge (σ : wg_S) (n : Nat) (t : Int32) : wg_S := us (us σ 15 n t) 14 0 (nI (n + 1))
theorem cX2_add_ok (κ : gm_K) (b : Bool) (σ : wg_S) (n : Nat) (hn : n < 6) (hN : σ 14 0 = nI n) (t : Int32) : Fn κ mX2_add [.ref 14, .int t] (gg b) σ (some (.int (nI n))) (gg b) (s_judge σ n t) := by
  refine go_start (by decide) (Nat.le_of_ble_eq_true rfl) ?_
  refine go_aload_n dX2_add_0 rfl ?_
  refine gs_gi dX2_add_1 flX2_9 (gg_14 b) rfl (hN) ?_
  refine go_istore_n (lv' := [_, _, _]) dX2_add_4 rfl rfl rfl ?_
  refine go_aload_n dX2_add_5 rfl ?_
  refine gs_gr dX2_add_6 flX2_15 (gg_14 b) rfl ?_
  refine go_iload_n dX2_add_9 rfl ?_
  refine go_iload_n dX2_add_10 rfl ?_
  refine gs_iast (_) dX2_add_11 (gg_15 b) (rfl) (by omega) rfl ?_
  refine go_aload_n dX2_add_12 rfl ?_
  refine go_dup dX2_add_13 rfl ?_
  refine gs_gi dX2_add_14 flX2_9 (gg_14 b) rfl (show _ = nI n by simpa [us] using hN) ?_
  refine go_iconst (v := nI 1) dX2_add_17 (by decide) ?_
  refine go_iaddN dX2_add_18 ?_
  refine gs_pi dX2_add_19 flX2_9 (gg_14 b) rfl (fun q hq => by cases hq; exact ⟨rfl, rfl⟩) ?_
  refine go_iload_n dX2_add_22 rfl ?_
  refine go_iret dX2_add_23 rfl rfl ?_
  exact ⟨rfl, rfl⟩
theorem cX2_give_ok (κ : gm_K) (b : Bool) (σ : wg_S) (j c : Nat) (hj : j < 6) (hc : c < 16) (v : Int32) : Fn κ mX2_give [.ref 14, .int (nI j), .int (nI c), .int v] (gg b) σ (some (.int (σ 16 (j * 16 + c)))) (gg b) (us σ 16 (j * 16 + c) v) := by
  refine go_start (by decide) (Nat.le_of_ble_eq_true rfl) ?_
  refine go_aload_n dX2_give_0 rfl ?_
  refine gs_gr dX2_give_1 flX2_19 (gg_14 b) rfl ?_
  refine go_iload_n dX2_give_4 rfl ?_
  refine go_bipush (v := nI 16) dX2_give_5 (by decide) ?_
  refine go_imulN dX2_give_7 ?_
  refine go_iload_n dX2_give_8 rfl ?_
  refine go_iaddN dX2_give_9 ?_
  refine gs_iald (_) dX2_give_10 (gg_16 b) (rfl) (by omega) rfl (rfl) ?_
  refine go_istore (lv' := [_, _, _, _, _]) dX2_give_11 rfl rfl rfl ?_
  refine go_aload_n dX2_give_13 rfl ?_
  refine gs_gr dX2_give_14 flX2_19 (gg_14 b) rfl ?_
  refine go_iload_n dX2_give_17 rfl ?_
  refine go_bipush (v := nI 16) dX2_give_18 (by decide) ?_
  refine go_imulN dX2_give_20 ?_
  refine go_iload_n dX2_give_21 rfl ?_
  refine go_iaddN dX2_give_22 ?_
  refine go_iload_n dX2_give_23 rfl ?_
  refine gs_iast (_) dX2_give_24 (gg_16 b) (rfl) (by omega) rfl ?_
  refine go_iload dX2_give_25 rfl ?_
  refine go_iret dX2_give_27 rfl rfl ?_
  exact ⟨rfl, rfl⟩
def mns (m : Nat → Int32) (n : Nat) : Int32 := sm (fun j => if m j = -1 then 0 else m j) n
def mng (m : Nat → Int32) (n : Nat) : Int32 := sm (fun j => if m j = -1 then 0 else nI 1) n
/-- the mean of the marks that are there -/
def mnv (m : Nat → Int32) (n : Nat) : Int32 := if mng m n = 0 then -1 else mns m n / mng m n
theorem cX2_meanOf_ok (κ : gm_K) (b : Bool) (σ : wg_S) (n : Nat) (hn : n ≤ 6) (hN : σ 14 0 = nI n) (c : Nat) (hc : c < 16) : Fn κ mX2_meanOf [.ref 14, .int (nI c)] (gg b) σ (some (.int (mnv (fun j => σ 16 (j * 16 + c)) n))) (gg b) σ := by
  refine go_start (by decide) (Nat.le_of_ble_eq_true rfl) ?_
  refine go_iconst (v := nI 0) dX2_meanOf_0 (by decide) ?_
  refine go_istore_n (lv' := [_, _, _, _, _, _]) dX2_meanOf_1 rfl rfl rfl ?_
  refine go_iconst (v := nI 0) dX2_meanOf_2 (by decide) ?_
  refine go_istore_n (lv' := [_, _, _, _, _, _]) dX2_meanOf_3 rfl rfl rfl ?_
  refine go_iconst (v := nI 0) dX2_meanOf_4 (by decide) ?_
  refine go_istore (lv' := [_, _, _, _, _, _]) dX2_meanOf_5 rfl rfl rfl ?_
  skip
  have loop : ∀ (i : Nat), i ≤ n → Go κ mX2_meanOf 7 [some (.ref 14), some (.int (nI c)), some (.int (mns (fun j => σ 16 (j * 16 + c)) i)), some (.int (mng (fun j => σ 16 (j * 16 + c)) i)), some (.int (nI i)), none] [] (wd (gg b) σ) (0, 0) (fun r h' => r = some (.int (mnv (fun j => σ 16 (j * 16 + c)) n)) ∧ h' = wd (gg b) σ) := by
    refine lo_up n (fun i hi ih => ?_)
    refine go_iload dX2_meanOf_7 rfl ?_
    refine go_aload_n dX2_meanOf_9 rfl ?_
    refine gs_gi dX2_meanOf_10 flX2_9 (gg_14 b) rfl (hN) ?_
    refine go_icmp_geN 50 dX2_meanOf_13 (by decide) (by omega) (by omega) (fun c13 => ?_) (fun c13 => ?_)
    · refine go_iload_n dX2_meanOf_50 rfl ?_
      refine go_if_ne 58 dX2_meanOf_51 (by decide) (fun c51 => ?_) (fun c51 => ?_)
      · refine go_iload_n dX2_meanOf_58 rfl ?_
        refine go_iload_n dX2_meanOf_59 rfl ?_
        refine go_idiv dX2_meanOf_60 (c51) ?_
        refine go_iret dX2_meanOf_61 rfl rfl ?_
        have e : i = n := by omega
        subst e
        exact ⟨by simp only [mnv, c13, c51]; simp [c13, c51], rfl⟩
      · refine go_iconst (v := -1) dX2_meanOf_54 (by decide) ?_
        refine go_goto 61 dX2_meanOf_55 (by decide) ?_
        refine go_iret dX2_meanOf_61 rfl rfl ?_
        have e : i = n := by omega
        subst e
        exact ⟨by simp only [mnv, c13, c51]; simp [c13, c51], rfl⟩
    · refine go_aload_n dX2_meanOf_16 rfl ?_
      refine gs_gr dX2_meanOf_17 flX2_19 (gg_14 b) rfl ?_
      refine go_iload dX2_meanOf_20 rfl ?_
      refine go_bipush (v := nI 16) dX2_meanOf_22 (by decide) ?_
      refine go_imulN dX2_meanOf_24 ?_
      refine go_iload_n dX2_meanOf_25 rfl ?_
      refine go_iaddN dX2_meanOf_26 ?_
      refine gs_iald (_) dX2_meanOf_27 (gg_16 b) (rfl) (by omega) rfl (rfl) ?_
      refine go_istore (lv' := [_, _, _, _, _, _]) dX2_meanOf_28 rfl rfl rfl ?_
      refine go_iload dX2_meanOf_30 rfl ?_
      refine go_iconst (v := -1) dX2_meanOf_32 (by decide) ?_
      refine go_icmp_eq 44 dX2_meanOf_33 (by decide) (fun c33 => ?_) (fun c33 => ?_)
      · refine go_iincN (lv' := [_, _, _, _, _, _]) 1 dX2_meanOf_44 (by decide) rfl rfl rfl rfl ?_
        refine go_goto 7 dX2_meanOf_47 (by decide) ?_
        exact go_wk (by simp [lvle, mns, mng, sm, c13, c33]) (ih c13)
      · refine go_iload_n dX2_meanOf_36 rfl ?_
        refine go_iload dX2_meanOf_37 rfl ?_
        refine go_iadd dX2_meanOf_39 ?_
        refine go_istore_n (lv' := [_, _, _, _, _, _]) dX2_meanOf_40 rfl rfl rfl ?_
        refine go_iincI (lv' := [_, _, _, _, _, _]) (nI 1) dX2_meanOf_41 (by decide) rfl rfl rfl rfl ?_
        refine go_iincN (lv' := [_, _, _, _, _, _]) 1 dX2_meanOf_44 (by decide) rfl rfl rfl rfl ?_
        refine go_goto 7 dX2_meanOf_47 (by decide) ?_
        exact go_wk (by simp [lvle, mns, mng, sm, c13, c33]) (ih c13)
  exact loop 0 (Nat.zero_le _)
def scs (p q : Nat → Int32) (n : Nat) : Int32 := sm (fun c => if p c = -1 then 0 else if q c = -1 then 0 else p c - q c) n
def scg (p q : Nat → Int32) (n : Nat) : Int32 := sm (fun c => if p c = -1 then 0 else if q c = -1 then 0 else nI 1) n
def scv (p q : Nat → Int32) (n : Nat) : Int32 := if scg p q n = 0 then -200 else fdv (scs p q n) (scg p q n)
theorem cX2_scaleOf_ok (κ : gm_K) (b : Bool) (σ : wg_S) (x y : Nat) (hx : x < 6) (hy : y < 6) : Fn κ mX2_scaleOf [.ref 14, .int (nI x), .int (nI y)] (gg b) σ (some (.int (scv (fun c => σ 16 (x * 16 + c)) (fun c => σ 16 (y * 16 + c)) 16))) (gg b) σ := by
  refine go_start (by decide) (Nat.le_of_ble_eq_true rfl) ?_
  refine go_iconst (v := nI 0) dX2_scaleOf_0 (by decide) ?_
  refine go_istore_n (lv' := [_, _, _, _, _, _, _, _]) dX2_scaleOf_1 rfl rfl rfl ?_
  refine go_iconst (v := nI 0) dX2_scaleOf_2 (by decide) ?_
  refine go_istore (lv' := [_, _, _, _, _, _, _, _]) dX2_scaleOf_3 rfl rfl rfl ?_
  refine go_iconst (v := nI 0) dX2_scaleOf_5 (by decide) ?_
  refine go_istore (lv' := [_, _, _, _, _, _, _, _]) dX2_scaleOf_6 rfl rfl rfl ?_
  skip
  have loop : ∀ (i : Nat), i ≤ 16 → Go κ mX2_scaleOf 8 [some (.ref 14), some (.int (nI x)), some (.int (nI y)), some (.int (scs (fun c => σ 16 (x * 16 + c)) (fun c => σ 16 (y * 16 + c)) i)), some (.int (scg (fun c => σ 16 (x * 16 + c)) (fun c => σ 16 (y * 16 + c)) i)), some (.int (nI i)), none, none] [] (wd (gg b) σ) (0, 0) (fun r h' => r = some (.int (scv (fun c => σ 16 (x * 16 + c)) (fun c => σ 16 (y * 16 + c)) 16)) ∧ h' = wd (gg b) σ) := by
    refine lo_up 16 (fun i hi ih => ?_)
    refine go_iload dX2_scaleOf_8 rfl ?_
    refine go_bipush (v := nI 16) dX2_scaleOf_10 (by decide) ?_
    refine go_icmp_geN 72 dX2_scaleOf_12 (by decide) (by omega) (by omega) (fun c12 => ?_) (fun c12 => ?_)
    · refine go_iload dX2_scaleOf_72 rfl ?_
      refine go_if_ne 83 dX2_scaleOf_74 (by decide) (fun c74 => ?_) (fun c74 => ?_)
      · refine go_iload_n dX2_scaleOf_83 rfl ?_
        refine go_iload dX2_scaleOf_84 rfl ?_
        refine gs_callSi dX2_scaleOf_86 csX2_scaleOf_28 (cJ9_floorDiv_ok κ b σ _ _ c74) rfl rfl rfl ⟨rfl, rfl⟩ rfl ?_
        refine go_iret dX2_scaleOf_89 rfl rfl ?_
        have e : i = 16 := by omega
        subst e
        exact ⟨by simp only [scv, c12, c74]; simp [c12, c74], rfl⟩
      · refine go_sipush (v := -200) dX2_scaleOf_77 (by decide) ?_
        refine go_goto 89 dX2_scaleOf_80 (by decide) ?_
        refine go_iret dX2_scaleOf_89 rfl rfl ?_
        have e : i = 16 := by omega
        subst e
        exact ⟨by simp only [scv, c12, c74]; simp [c12, c74], rfl⟩
    · refine go_aload_n dX2_scaleOf_15 rfl ?_
      refine gs_gr dX2_scaleOf_16 flX2_19 (gg_14 b) rfl ?_
      refine go_iload_n dX2_scaleOf_19 rfl ?_
      refine go_bipush (v := nI 16) dX2_scaleOf_20 (by decide) ?_
      refine go_imulN dX2_scaleOf_22 ?_
      refine go_iload dX2_scaleOf_23 rfl ?_
      refine go_iaddN dX2_scaleOf_25 ?_
      refine gs_iald (_) dX2_scaleOf_26 (gg_16 b) (rfl) (by omega) rfl (rfl) ?_
      refine go_istore (lv' := [_, _, _, _, _, _, _, _]) dX2_scaleOf_27 rfl rfl rfl ?_
      refine go_aload_n dX2_scaleOf_29 rfl ?_
      refine gs_gr dX2_scaleOf_30 flX2_19 (gg_14 b) rfl ?_
      refine go_iload_n dX2_scaleOf_33 rfl ?_
      refine go_bipush (v := nI 16) dX2_scaleOf_34 (by decide) ?_
      refine go_imulN dX2_scaleOf_36 ?_
      refine go_iload dX2_scaleOf_37 rfl ?_
      refine go_iaddN dX2_scaleOf_39 ?_
      refine gs_iald (_) dX2_scaleOf_40 (gg_16 b) (rfl) (by omega) rfl (rfl) ?_
      refine go_istore (lv' := [_, _, _, _, _, _, _, _]) dX2_scaleOf_41 rfl rfl rfl ?_
      refine go_iload dX2_scaleOf_43 rfl ?_
      refine go_iconst (v := -1) dX2_scaleOf_45 (by decide) ?_
      refine go_icmp_eq 66 dX2_scaleOf_46 (by decide) (fun c46 => ?_) (fun c46 => ?_)
      · refine go_iincN (lv' := [_, _, _, _, _, _, _, _]) 1 dX2_scaleOf_66 (by decide) rfl rfl rfl rfl ?_
        refine go_goto 8 dX2_scaleOf_69 (by decide) ?_
        exact go_wk (by simp [lvle, scs, scg, sm, c12, c46]) (ih c12)
      · refine go_iload dX2_scaleOf_49 rfl ?_
        refine go_iconst (v := -1) dX2_scaleOf_51 (by decide) ?_
        refine go_icmp_eq 66 dX2_scaleOf_52 (by decide) (fun c52 => ?_) (fun c52 => ?_)
        · refine go_iincN (lv' := [_, _, _, _, _, _, _, _]) 1 dX2_scaleOf_66 (by decide) rfl rfl rfl rfl ?_
          refine go_goto 8 dX2_scaleOf_69 (by decide) ?_
          exact go_wk (by simp [lvle, scs, scg, sm, c12, c46, c52]) (ih c12)
        · refine go_iload_n dX2_scaleOf_55 rfl ?_
          refine go_iload dX2_scaleOf_56 rfl ?_
          refine go_iload dX2_scaleOf_58 rfl ?_
          refine go_isub dX2_scaleOf_60 ?_
          refine go_iadd dX2_scaleOf_61 ?_
          refine go_istore_n (lv' := [_, _, _, _, _, _, _, _]) dX2_scaleOf_62 rfl rfl rfl ?_
          refine go_iincI (lv' := [_, _, _, _, _, _, _, _]) (nI 1) dX2_scaleOf_63 (by decide) rfl rfl rfl rfl ?_
          refine go_iincN (lv' := [_, _, _, _, _, _, _, _]) 1 dX2_scaleOf_66 (by decide) rfl rfl rfl rfl ?_
          refine go_goto 8 dX2_scaleOf_69 (by decide) ?_
          exact go_wk (by simp [lvle, scs, scg, sm, c12, c46, c52]) (ih c12)
  exact loop 0 (Nat.zero_le _)
theorem cX1_has_ok (κ : gm_K) (b : Bool) (σ : wg_S) (x y : Int32) : Fn κ mX1_has [.ref 40, .int x, .int y] (gg b) σ (some (.int (bi (hs (nI 4) x && hs (nI 24) y)))) (gg b) σ := by
  refine go_start (by decide) (Nat.le_of_ble_eq_true rfl) ?_
  refine go_iload_n dX1_has_0 rfl ?_
  refine go_if_lt 23 dX1_has_1 (by decide) (fun c1 => ?_) (fun c1 => ?_)
  · refine go_iconst (v := nI 0) dX1_has_23 (by decide) ?_
    refine go_zret dX1_has_24 rfl rfl (by decide) ?_
    exact ⟨by simp +decide [c1, bi, hs], rfl⟩
  · refine go_iload_n dX1_has_4 rfl ?_
    refine go_iconst (v := nI 4) dX1_has_5 (by decide) ?_
    refine go_icmp_ge 23 dX1_has_6 (by decide) (fun c6 => ?_) (fun c6 => ?_)
    · refine go_iconst (v := nI 0) dX1_has_23 (by decide) ?_
      refine go_zret dX1_has_24 rfl rfl (by decide) ?_
      exact ⟨by simp +decide [c1, c6, bi, hs], rfl⟩
    · refine go_iload_n dX1_has_9 rfl ?_
      refine go_if_lt 23 dX1_has_10 (by decide) (fun c10 => ?_) (fun c10 => ?_)
      · refine go_iconst (v := nI 0) dX1_has_23 (by decide) ?_
        refine go_zret dX1_has_24 rfl rfl (by decide) ?_
        exact ⟨by simp +decide [c1, c6, c10, bi, hs], rfl⟩
      · refine go_iload_n dX1_has_13 rfl ?_
        refine go_bipush (v := nI 24) dX1_has_14 (by decide) ?_
        refine go_icmp_ge 23 dX1_has_16 (by decide) (fun c16 => ?_) (fun c16 => ?_)
        · refine go_iconst (v := nI 0) dX1_has_23 (by decide) ?_
          refine go_zret dX1_has_24 rfl rfl (by decide) ?_
          exact ⟨by simp +decide [c1, c6, c10, c16, bi, hs], rfl⟩
        · refine go_iconst (v := nI 1) dX1_has_19 (by decide) ?_
          refine go_goto 24 dX1_has_20 (by decide) ?_
          refine go_zret dX1_has_24 rfl rfl (by decide) ?_
          exact ⟨by simp +decide [c1, c6, c10, c16, bi, hs], rfl⟩
theorem cX1_songIn_ok (κ : gm_K) (b : Bool) (σ : wg_S) (x y : Nat) (hx : x < 4) (hy : y < 24) : Fn κ mX1_songIn [.ref 40, .int (nI x), .int (nI y)] (gg b) σ (some (.int (σ 41 (x * 24 + y)))) (gg b) σ := by
  refine go_start (by decide) (Nat.le_of_ble_eq_true rfl) ?_
  refine go_aload_n dX1_songIn_0 rfl ?_
  refine gs_gr dX1_songIn_1 flX1_9 (gg_40 b) rfl ?_
  refine go_iload_n dX1_songIn_4 rfl ?_
  refine go_bipush (v := nI 24) dX1_songIn_5 (by decide) ?_
  refine go_imulN dX1_songIn_7 ?_
  refine go_iload_n dX1_songIn_8 rfl ?_
  refine go_iaddN dX1_songIn_9 ?_
  refine gs_iald (_) dX1_songIn_10 (gg_41 b) (rfl) (by omega) rfl (rfl) ?_
  refine go_iret dX1_songIn_11 rfl rfl ?_
  exact ⟨rfl, rfl⟩
theorem cX1_isFree_ok (κ : gm_K) (b : Bool) (σ : wg_S) (x y : Nat) (hx : x < 4) (hy : y < 24) : Fn κ mX1_isFree [.ref 40, .int (nI x), .int (nI y)] (gg b) σ (some (.int (bi (decide (σ 41 (x * 24 + y) = -1))))) (gg b) σ := by
  refine go_start (by decide) (Nat.le_of_ble_eq_true rfl) ?_
  refine go_aload_n dX1_isFree_0 rfl ?_
  refine go_iload_n dX1_isFree_1 rfl ?_
  refine go_iload_n dX1_isFree_2 rfl ?_
  refine gs_callVi dX1_isFree_3 cvX1_isFree_24 (cX1_songIn_ok κ b σ x y hx hy) rfl (gg_40 b) rfl rfl rfl ⟨rfl, rfl⟩ rfl ?_
  refine go_iconst (v := -1) dX1_isFree_6 (by decide) ?_
  refine go_icmp_ne 14 dX1_isFree_7 (by decide) (fun c7 => ?_) (fun c7 => ?_)
  · refine go_iconst (v := nI 0) dX1_isFree_14 (by decide) ?_
    refine go_zret dX1_isFree_15 rfl rfl (by decide) ?_
    exact ⟨by simp +decide [c7, bi], rfl⟩
  · refine go_iconst (v := nI 1) dX1_isFree_10 (by decide) ?_
    refine go_goto 15 dX1_isFree_11 (by decide) ?_
    refine go_zret dX1_isFree_15 rfl rfl (by decide) ?_
    exact ⟨by simp +decide [c7, bi], rfl⟩
theorem cX1_busyAt_ok (κ : gm_K) (b : Bool) (σ : wg_S) (y : Nat) (hy : y < 24) : Fn κ mX1_busyAt [.ref 40, .int (nI y)] (gg b) σ (some (.int (orf (fun x => σ 42 (x * 24 + y)) 4))) (gg b) σ := by
  refine go_start (by decide) (Nat.le_of_ble_eq_true rfl) ?_
  refine go_iconst (v := nI 0) dX1_busyAt_0 (by decide) ?_
  refine go_istore_n (lv' := [_, _, _, _]) dX1_busyAt_1 rfl rfl rfl ?_
  refine go_iconst (v := nI 0) dX1_busyAt_2 (by decide) ?_
  refine go_istore_n (lv' := [_, _, _, _]) dX1_busyAt_3 rfl rfl rfl ?_
  skip
  refine lo_up 4 (P := fun i => Go κ mX1_busyAt 4 [some (.ref 40), some (.int (nI y)), some (.int (orf (fun x => σ 42 (x * 24 + y)) i)), some (.int (nI i))] [] (wd (gg b) σ) (0, 0) _) (fun i hi ih => ?_) 0 (Nat.zero_le _)
  refine go_iload_n dX1_busyAt_4 rfl ?_
  refine go_iconst (v := nI 4) dX1_busyAt_5 (by decide) ?_
  refine go_icmp_geN 29 dX1_busyAt_6 (by decide) (by omega) (by omega) (fun c6 => ?_) (fun c6 => ?_)
  · refine go_iload_n dX1_busyAt_29 rfl ?_
    refine go_iret dX1_busyAt_30 rfl rfl ?_
    have e : i = 4 := by omega
    subst e
    exact ⟨rfl, rfl⟩
  · refine go_iload_n dX1_busyAt_9 rfl ?_
    refine go_aload_n dX1_busyAt_10 rfl ?_
    refine gs_gr dX1_busyAt_11 flX1_15 (gg_40 b) rfl ?_
    refine go_iload_n dX1_busyAt_14 rfl ?_
    refine go_bipush (v := nI 24) dX1_busyAt_15 (by decide) ?_
    refine go_imulN dX1_busyAt_17 ?_
    refine go_iload_n dX1_busyAt_18 rfl ?_
    refine go_iaddN dX1_busyAt_19 ?_
    refine gs_iald (_) dX1_busyAt_20 (gg_42 b) (rfl) (by omega) rfl (rfl) ?_
    refine go_ior dX1_busyAt_21 ?_
    refine go_istore_n (lv' := [_, _, _, _]) dX1_busyAt_22 rfl rfl rfl ?_
    refine go_iincN (lv' := [_, _, _, _]) 1 dX1_busyAt_23 (by decide) rfl rfl rfl rfl ?_
    refine go_goto 4 dX1_busyAt_26 (by decide) ?_
    exact ih c6
theorem cX1_take_ok (κ : gm_K) (b : Bool) (σ : wg_S) (x y : Nat) (hx : x < 4) (hy : y < 24) (s set : Int32) : Fn κ mX1_take [.ref 40, .int (nI x), .int (nI y), .int s, .int set] (gg b) σ none (gg b) (us (us σ 41 (x * 24 + y) s) 42 (x * 24 + y) set) := by
  refine go_start (by decide) (Nat.le_of_ble_eq_true rfl) ?_
  refine go_aload_n dX1_take_0 rfl ?_
  refine gs_gr dX1_take_1 flX1_9 (gg_40 b) rfl ?_
  refine go_iload_n dX1_take_4 rfl ?_
  refine go_bipush (v := nI 24) dX1_take_5 (by decide) ?_
  refine go_imulN dX1_take_7 ?_
  refine go_iload_n dX1_take_8 rfl ?_
  refine go_iaddN dX1_take_9 ?_
  refine go_iload_n dX1_take_10 rfl ?_
  refine gs_iast (_) dX1_take_11 (gg_41 b) (rfl) (by omega) rfl ?_
  refine go_aload_n dX1_take_12 rfl ?_
  refine gs_gr dX1_take_13 flX1_15 (gg_40 b) rfl ?_
  refine go_iload_n dX1_take_16 rfl ?_
  refine go_bipush (v := nI 24) dX1_take_17 (by decide) ?_
  refine go_imulN dX1_take_19 ?_
  refine go_iload_n dX1_take_20 rfl ?_
  refine go_iaddN dX1_take_21 ?_
  refine go_iload dX1_take_22 rfl ?_
  refine gs_iast (_) dX1_take_24 (gg_42 b) (rfl) (by omega) rfl ?_
  refine go_vret dX1_take_25 rfl rfl ?_
  exact ⟨rfl, rfl⟩
def tkn (σ : wg_S) (n : Nat) (t : Int32) : Int32 := sm (fun i => if σ 45 i = t then σ 6 i else 0) n
theorem cX3_taken_ok (κ : gm_K) (b : Bool) (σ : wg_S) (n : Nat) (hn : n ≤ 16) (hN : σ 1 0 = nI n) (t : Int32) : Fn κ mX3_taken [.ref 43, .int t] (gg b) σ (some (.int (sm (fun i => if σ 45 i = t then σ 6 i else 0) n))) (gg b) σ := by
  refine go_start (by decide) (Nat.le_of_ble_eq_true rfl) ?_
  refine go_iconst (v := nI 0) dX3_taken_0 (by decide) ?_
  refine go_istore_n (lv' := [_, _, _, _]) dX3_taken_1 rfl rfl rfl ?_
  refine go_iconst (v := nI 0) dX3_taken_2 (by decide) ?_
  refine go_istore_n (lv' := [_, _, _, _]) dX3_taken_3 rfl rfl rfl ?_
  skip
  refine lo_up n (P := fun i => Go κ mX3_taken 4 [some (.ref 43), some (.int t), some (.int (sm (fun i => if σ 45 i = t then σ 6 i else 0) i)), some (.int (nI i))] [] (wd (gg b) σ) (0, 0) _) (fun i hi ih => ?_) 0 (Nat.zero_le _)
  refine go_iload_n dX3_taken_4 rfl ?_
  refine go_aload_n dX3_taken_5 rfl ?_
  refine gs_gr dX3_taken_6 flX3_18 (gg_43 b) rfl ?_
  refine gs_gi dX3_taken_9 flX3_28 (gg_1 b) rfl (hN) ?_
  refine go_icmp_geN 43 dX3_taken_12 (by decide) (by omega) (by omega) (fun c12 => ?_) (fun c12 => ?_)
  · refine go_iload_n dX3_taken_43 rfl ?_
    refine go_iret dX3_taken_44 rfl rfl ?_
    have e : i = n := by omega
    subst e
    exact ⟨rfl, rfl⟩
  · refine go_aload_n dX3_taken_15 rfl ?_
    refine gs_gr dX3_taken_16 flX3_15 (gg_43 b) rfl ?_
    refine go_iload_n dX3_taken_19 rfl ?_
    refine gs_iald (_) dX3_taken_20 (gg_45 b) (rfl) (by omega) rfl (rfl) ?_
    refine go_iload_n dX3_taken_21 rfl ?_
    refine go_icmp_ne 37 dX3_taken_22 (by decide) (fun c22 => ?_) (fun c22 => ?_)
    · refine go_iincN (lv' := [_, _, _, _]) 1 dX3_taken_37 (by decide) rfl rfl rfl rfl ?_
      refine go_goto 4 dX3_taken_40 (by decide) ?_
      exact go_lv (by simp [sm, c12, c22]) (ih c12)
    · refine go_iload_n dX3_taken_25 rfl ?_
      refine go_aload_n dX3_taken_26 rfl ?_
      refine gs_gr dX3_taken_27 flX3_18 (gg_43 b) rfl ?_
      refine gs_gr dX3_taken_30 flX3_34 (gg_1 b) rfl ?_
      refine go_iload_n dX3_taken_33 rfl ?_
      refine gs_iald (_) dX3_taken_34 (gg_6 b) (rfl) (by omega) rfl (rfl) ?_
      refine go_iadd dX3_taken_35 ?_
      refine go_istore_n (lv' := [_, _, _, _]) dX3_taken_36 rfl rfl rfl ?_
      refine go_iincN (lv' := [_, _, _, _]) 1 dX3_taken_37 (by decide) rfl rfl rfl rfl ?_
      refine go_goto 4 dX3_taken_40 (by decide) ?_
      exact go_lv (by simp [sm, c12, c22]) (ih c12)
def fbd (σ : wg_S) (n t : Nat) : Int32 := σ 44 t - tkn σ n (nI t)
theorem cX3_freeBeds_ok (κ : gm_K) (b : Bool) (σ : wg_S) (n : Nat) (hn : n ≤ 16) (hN : σ 1 0 = nI n) (t : Nat) (ht : t < 8) : Fn κ mX3_freeBeds [.ref 43, .int (nI t)] (gg b) σ (some (.int (fbd σ n t))) (gg b) σ := by
  refine go_start (by decide) (Nat.le_of_ble_eq_true rfl) ?_
  refine go_aload_n dX3_freeBeds_0 rfl ?_
  refine gs_gr dX3_freeBeds_1 flX3_9 (gg_43 b) rfl ?_
  refine go_iload_n dX3_freeBeds_4 rfl ?_
  refine gs_iald (_) dX3_freeBeds_5 (gg_44 b) (rfl) (by omega) rfl (rfl) ?_
  refine go_aload_n dX3_freeBeds_6 rfl ?_
  refine go_iload_n dX3_freeBeds_7 rfl ?_
  refine gs_callVi dX3_freeBeds_8 cvX3_freeBeds_37 (cX3_taken_ok κ b σ n hn hN _) rfl (gg_43 b) rfl rfl rfl ⟨rfl, rfl⟩ rfl ?_
  refine go_isub dX3_freeBeds_11 ?_
  refine go_iret dX3_freeBeds_12 rfl rfl ?_
  exact ⟨rfl, rfl⟩
def bfr (σ : wg_S) (n c t : Nat) : Int32 := fbd σ n t + if σ 45 c = nI t then σ 6 c else nI 0
theorem cX3_bedsFor_ok (κ : gm_K) (b : Bool) (σ : wg_S) (n : Nat) (hn : n ≤ 16) (hN : σ 1 0 = nI n) (c t : Nat) (hc : c < 16) (ht : t < 8) : Fn κ mX3_bedsFor [.ref 43, .int (nI c), .int (nI t)] (gg b) σ (some (.int (bfr σ n c t))) (gg b) σ := by
  refine go_start (by decide) (Nat.le_of_ble_eq_true rfl) ?_
  refine go_aload_n dX3_bedsFor_0 rfl ?_
  refine gs_gr dX3_bedsFor_1 flX3_15 (gg_43 b) rfl ?_
  refine go_iload_n dX3_bedsFor_4 rfl ?_
  refine gs_iald (_) dX3_bedsFor_5 (gg_45 b) (rfl) (by omega) rfl (rfl) ?_
  refine go_iload_n dX3_bedsFor_6 rfl ?_
  refine go_icmp_ne 22 dX3_bedsFor_7 (by decide) (fun c7 => ?_) (fun c7 => ?_)
  · refine go_iconst (v := nI 0) dX3_bedsFor_22 (by decide) ?_
    refine go_istore_n (lv' := [_, _, _, _]) dX3_bedsFor_23 rfl rfl rfl ?_
    refine go_aload_n dX3_bedsFor_24 rfl ?_
    refine go_iload_n dX3_bedsFor_25 rfl ?_
    refine gs_callVi dX3_bedsFor_26 cvX3_bedsFor_41 (cX3_freeBeds_ok κ b σ n hn hN _ (by omega)) rfl (gg_43 b) rfl rfl rfl ⟨rfl, rfl⟩ rfl ?_
    refine go_iload_n dX3_bedsFor_29 rfl ?_
    refine go_iadd dX3_bedsFor_30 ?_
    refine go_iret dX3_bedsFor_31 rfl rfl ?_
    exact ⟨by simp [bfr, c7], rfl⟩
  · refine go_aload_n dX3_bedsFor_10 rfl ?_
    refine gs_gr dX3_bedsFor_11 flX3_18 (gg_43 b) rfl ?_
    refine gs_gr dX3_bedsFor_14 flX3_34 (gg_1 b) rfl ?_
    refine go_iload_n dX3_bedsFor_17 rfl ?_
    refine gs_iald (_) dX3_bedsFor_18 (gg_6 b) (rfl) (by omega) rfl (rfl) ?_
    refine go_goto 23 dX3_bedsFor_19 (by decide) ?_
    refine go_istore_n (lv' := [_, _, _, _]) dX3_bedsFor_23 rfl rfl rfl ?_
    refine go_aload_n dX3_bedsFor_24 rfl ?_
    refine go_iload_n dX3_bedsFor_25 rfl ?_
    refine gs_callVi dX3_bedsFor_26 cvX3_bedsFor_41 (cX3_freeBeds_ok κ b σ n hn hN _ (by omega)) rfl (gg_43 b) rfl rfl rfl ⟨rfl, rfl⟩ rfl ?_
    refine go_iload_n dX3_bedsFor_29 rfl ?_
    refine go_iadd dX3_bedsFor_30 ?_
    refine go_iret dX3_bedsFor_31 rfl rfl ?_
    exact ⟨by simp [bfr, c7], rfl⟩
def ctk (σ : wg_S) (n t c : Nat) : Bool := !decide (nI t = σ 3 c) && !decide (bfr σ n c t < σ 6 c)
theorem cX3_canTake_ok (κ : gm_K) (b : Bool) (σ : wg_S) (n : Nat) (hn : n ≤ 16) (hN : σ 1 0 = nI n) (c t : Nat) (hc : c < 16) (ht : t < 8) : Fn κ mX3_canTake [.ref 43, .int (nI t), .int (nI c)] (gg b) σ (some (.int (bi (ctk σ n t c)))) (gg b) σ := by
  refine go_start (by decide) (Nat.le_of_ble_eq_true rfl) ?_
  refine go_iload_n dX3_canTake_0 rfl ?_
  refine go_aload_n dX3_canTake_1 rfl ?_
  refine gs_gr dX3_canTake_2 flX3_18 (gg_43 b) rfl ?_
  refine gs_gr dX3_canTake_5 flX3_44 (gg_1 b) rfl ?_
  refine go_iload_n dX3_canTake_8 rfl ?_
  refine gs_iald (_) dX3_canTake_9 (gg_3 b) (rfl) (by omega) rfl (rfl) ?_
  refine go_icmp_eq 35 dX3_canTake_10 (by decide) (fun c10 => ?_) (fun c10 => ?_)
  · refine go_iconst (v := nI 0) dX3_canTake_35 (by decide) ?_
    refine go_zret dX3_canTake_36 rfl rfl (by decide) ?_
    exact ⟨by simp +decide [c10, bi, ctk], rfl⟩
  · refine go_aload_n dX3_canTake_13 rfl ?_
    refine go_iload_n dX3_canTake_14 rfl ?_
    refine go_iload_n dX3_canTake_15 rfl ?_
    refine gs_callVi dX3_canTake_16 cvX3_canTake_47 (cX3_bedsFor_ok κ b σ n hn hN c t hc ht) rfl (gg_43 b) rfl rfl rfl ⟨rfl, rfl⟩ rfl ?_
    refine go_aload_n dX3_canTake_19 rfl ?_
    refine gs_gr dX3_canTake_20 flX3_18 (gg_43 b) rfl ?_
    refine gs_gr dX3_canTake_23 flX3_34 (gg_1 b) rfl ?_
    refine go_iload_n dX3_canTake_26 rfl ?_
    refine gs_iald (_) dX3_canTake_27 (gg_6 b) (rfl) (by omega) rfl (rfl) ?_
    refine go_icmp_lt 35 dX3_canTake_28 (by decide) (fun c28 => ?_) (fun c28 => ?_)
    · refine go_iconst (v := nI 0) dX3_canTake_35 (by decide) ?_
      refine go_zret dX3_canTake_36 rfl rfl (by decide) ?_
      exact ⟨by simp +decide [c10, c28, bi, ctk], rfl⟩
    · refine go_iconst (v := nI 1) dX3_canTake_31 (by decide) ?_
      refine go_goto 36 dX3_canTake_32 (by decide) ?_
      refine go_zret dX3_canTake_36 rfl rfl (by decide) ?_
      exact ⟨by simp +decide [c10, c28, bi, ctk], rfl⟩
def ttn (σ : wg_S) (n c : Nat) : Nat → Option Nat
  | 0 => none
  | t + 1 => if (match ttn σ n c t with | none => true | some u => !decide (fbd σ n u ≤ fbd σ n t)) && ctk σ n t c then some t else ttn σ n c t
theorem ttn_lt (σ : wg_S) (n c : Nat) : ∀ (t u : Nat), ttn σ n c t = some u → u < t
  | 0, u, h => by simp [ttn] at h
  | t + 1, u, h => by
    rw [show ttn σ n c (t + 1) = if (match ttn σ n c t with | none => true | some u => !decide (fbd σ n u ≤ fbd σ n t)) && ctk σ n t c then some t else ttn σ n c t from rfl] at h
    by_cases hc : ((match ttn σ n c t with | none => true | some u => !decide (fbd σ n u ≤ fbd σ n t)) && ctk σ n t c) = true
    · rw [if_pos hc] at h; cases h; omega
    · rw [if_neg hc] at h; have := ttn_lt σ n c t u h; omega
theorem cX3_tightestTown_ok (κ : gm_K) (b : Bool) (σ : wg_S) (n : Nat) (hn : n ≤ 16) (hN : σ 1 0 = nI n) (c : Nat) (hc : c < 16) : Fn κ mX3_tightestTown [.ref 43, .int (nI c)] (gg b) σ (some (.int (oI (ttn σ n c 8)))) (gg b) σ := by
  refine go_start (by decide) (Nat.le_of_ble_eq_true rfl) ?_
  refine go_iconst (v := -1) dX3_tightestTown_0 (by decide) ?_
  refine go_istore_n (lv' := [_, _, _, _, _]) dX3_tightestTown_1 rfl rfl rfl ?_
  refine go_iconst (v := nI 0) dX3_tightestTown_2 (by decide) ?_
  refine go_istore_n (lv' := [_, _, _, _, _]) dX3_tightestTown_3 rfl rfl rfl ?_
  skip
  have loop : ∀ (i : Nat), i ≤ 8 → Go κ mX3_tightestTown 4 [some (.ref 43), some (.int (nI c)), some (.int (oI (ttn σ n c i))), some (.int (nI i)), none] [] (wd (gg b) σ) (0, 0) (fun r h' => r = some (.int (oI (ttn σ n c 8))) ∧ h' = wd (gg b) σ) := by
    refine lo_up 8 (fun i hi ih => ?_)
    have hlt := ttn_lt σ n c i
    have hstep : ttn σ n c (i + 1) = if (match ttn σ n c i with | none => true | some u => !decide (fbd σ n u ≤ fbd σ n i)) && ctk σ n i c then some i else ttn σ n c i := rfl
    cases hp : ttn σ n c i with
    | none =>
      rw [hp] at hstep
      refine go_iload_n dX3_tightestTown_4 rfl ?_
      refine go_bipush (v := nI 8) dX3_tightestTown_5 (by decide) ?_
      refine go_icmp_geN 57 dX3_tightestTown_7 (by decide) (by omega) (by omega) (fun c7 => ?_) (fun c7 => ?_)
      · refine go_iload_n dX3_tightestTown_57 rfl ?_
        refine go_iret dX3_tightestTown_58 rfl rfl ?_
        have e : i = 8 := by omega
        subst e
        rw [hp]
        exact ⟨rfl, rfl⟩
      · refine go_iload_n dX3_tightestTown_10 rfl ?_
        refine go_iconst (v := -1) dX3_tightestTown_11 (by decide) ?_
        refine go_icmp_eq 28 dX3_tightestTown_12 (by decide) (fun _ => ?_) (fun z => absurd z (by decide))
        refine go_iconst (v := nI 1) dX3_tightestTown_28 (by decide) ?_
        refine go_goto 33 dX3_tightestTown_29 (by decide) ?_
        refine go_istore (lv' := [_, _, _, _, _]) dX3_tightestTown_33 rfl rfl rfl ?_
        refine go_iload dX3_tightestTown_35 rfl ?_
        refine go_if_eq 51 dX3_tightestTown_37 (by decide) (fun z => absurd z (by decide)) (fun _ => ?_)
        refine go_aload_n dX3_tightestTown_40 rfl ?_
        refine go_iload_n dX3_tightestTown_41 rfl ?_
        refine go_iload_n dX3_tightestTown_42 rfl ?_
        refine gs_callVi dX3_tightestTown_43 cvX3_tightestTown_51 (cX3_canTake_ok κ b σ n hn hN c i hc (by omega)) rfl (gg_43 b) rfl rfl rfl ⟨rfl, rfl⟩ rfl ?_
        refine go_if_eqB 51 dX3_tightestTown_46 (by decide) (fun c46 => ?_) (fun c46 => ?_)
        · refine go_iincN (lv' := [_, _, _, _, _]) 1 dX3_tightestTown_51 (by decide) rfl rfl rfl rfl ?_
          refine go_goto 4 dX3_tightestTown_54 (by decide) ?_
          exact go_wk (by simp [lvle, hstep, c7, c46, oI]) (ih c7)
        · refine go_iload_n dX3_tightestTown_49 rfl ?_
          refine go_istore_n (lv' := [_, _, _, _, _]) dX3_tightestTown_50 rfl rfl rfl ?_
          refine go_iincN (lv' := [_, _, _, _, _]) 1 dX3_tightestTown_51 (by decide) rfl rfl rfl rfl ?_
          refine go_goto 4 dX3_tightestTown_54 (by decide) ?_
          exact go_wk (by simp [lvle, hstep, c7, c46, oI]) (ih c7)
    | some u =>
      have hu := hlt u hp
      rw [hp] at hstep
      refine go_iload_n dX3_tightestTown_4 rfl ?_
      refine go_bipush (v := nI 8) dX3_tightestTown_5 (by decide) ?_
      refine go_icmp_geN 57 dX3_tightestTown_7 (by decide) (by omega) (by omega) (fun c7 => ?_) (fun c7 => ?_)
      · refine go_iload_n dX3_tightestTown_57 rfl ?_
        refine go_iret dX3_tightestTown_58 rfl rfl ?_
        have e : i = 8 := by omega
        subst e
        rw [hp]
        exact ⟨rfl, rfl⟩
      · refine go_iload_n dX3_tightestTown_10 rfl ?_
        refine go_iconst (v := -1) dX3_tightestTown_11 (by decide) ?_
        refine go_icmp_eq 28 dX3_tightestTown_12 (by decide) (fun c12 => ?_) (fun c12 => ?_)
        · exact absurd c12 (nI_m1 (by omega))
        · refine go_aload_n dX3_tightestTown_15 rfl ?_
          refine go_iload_n dX3_tightestTown_16 rfl ?_
          refine gs_callVi dX3_tightestTown_17 cvX3_tightestTown_41 (cX3_freeBeds_ok κ b σ n hn hN _ (by omega)) rfl (gg_43 b) rfl rfl rfl ⟨rfl, rfl⟩ rfl ?_
          refine go_aload_n dX3_tightestTown_20 rfl ?_
          refine go_iload_n dX3_tightestTown_21 rfl ?_
          refine gs_callVi dX3_tightestTown_22 cvX3_tightestTown_41 (cX3_freeBeds_ok κ b σ n hn hN _ (by omega)) rfl (gg_43 b) rfl rfl rfl ⟨rfl, rfl⟩ rfl ?_
          refine go_icmp_ge 32 dX3_tightestTown_25 (by decide) (fun c25 => ?_) (fun c25 => ?_)
          · refine go_iconst (v := nI 0) dX3_tightestTown_32 (by decide) ?_
            refine go_istore (lv' := [_, _, _, _, _]) dX3_tightestTown_33 rfl rfl rfl ?_
            refine go_iload dX3_tightestTown_35 rfl ?_
            refine go_if_eq 51 dX3_tightestTown_37 (by decide) (fun _ => ?_) (fun z => absurd z (by decide))
            refine go_iincN (lv' := [_, _, _, _, _]) 1 dX3_tightestTown_51 (by decide) rfl rfl rfl rfl ?_
            refine go_goto 4 dX3_tightestTown_54 (by decide) ?_
            exact go_wk (by simp [lvle, hstep, c7, c12, c25, oI]) (ih c7)
          · refine go_iconst (v := nI 1) dX3_tightestTown_28 (by decide) ?_
            refine go_goto 33 dX3_tightestTown_29 (by decide) ?_
            refine go_istore (lv' := [_, _, _, _, _]) dX3_tightestTown_33 rfl rfl rfl ?_
            refine go_iload dX3_tightestTown_35 rfl ?_
            refine go_if_eq 51 dX3_tightestTown_37 (by decide) (fun z => absurd z (by decide)) (fun _ => ?_)
            refine go_aload_n dX3_tightestTown_40 rfl ?_
            refine go_iload_n dX3_tightestTown_41 rfl ?_
            refine go_iload_n dX3_tightestTown_42 rfl ?_
            refine gs_callVi dX3_tightestTown_43 cvX3_tightestTown_51 (cX3_canTake_ok κ b σ n hn hN c i hc (by omega)) rfl (gg_43 b) rfl rfl rfl ⟨rfl, rfl⟩ rfl ?_
            refine go_if_eqB 51 dX3_tightestTown_46 (by decide) (fun c46 => ?_) (fun c46 => ?_)
            · refine go_iincN (lv' := [_, _, _, _, _]) 1 dX3_tightestTown_51 (by decide) rfl rfl rfl rfl ?_
              refine go_goto 4 dX3_tightestTown_54 (by decide) ?_
              exact go_wk (by simp [lvle, hstep, c7, c12, c25, c46, oI]) (ih c7)
            · refine go_iload_n dX3_tightestTown_49 rfl ?_
              refine go_istore_n (lv' := [_, _, _, _, _]) dX3_tightestTown_50 rfl rfl rfl ?_
              refine go_iincN (lv' := [_, _, _, _, _]) 1 dX3_tightestTown_51 (by decide) rfl rfl rfl rfl ?_
              refine go_goto 4 dX3_tightestTown_54 (by decide) ?_
              exact go_wk (by simp [lvle, hstep, c7, c12, c25, c46, oI]) (ih c7)
  exact loop 0 (Nat.zero_le _)
theorem cX3_sleepers_ok (κ : gm_K) (b : Bool) (σ : wg_S) (n : Nat) (hn : n ≤ 16) (hN : σ 1 0 = nI n) : Fn κ mX3_sleepers [.ref 43] (gg b) σ (some (.int (sm (fun i => if σ 45 i = -1 then nI 0 else nI 1) n))) (gg b) σ := by
  refine go_start (by decide) (Nat.le_of_ble_eq_true rfl) ?_
  refine go_iconst (v := nI 0) dX3_sleepers_0 (by decide) ?_
  refine go_istore_n (lv' := [_, _, _]) dX3_sleepers_1 rfl rfl rfl ?_
  refine go_iconst (v := nI 0) dX3_sleepers_2 (by decide) ?_
  refine go_istore_n (lv' := [_, _, _]) dX3_sleepers_3 rfl rfl rfl ?_
  skip
  refine lo_up n (P := fun i => Go κ mX3_sleepers 4 [some (.ref 43), some (.int (sm (fun i => if σ 45 i = -1 then nI 0 else nI 1) i)), some (.int (nI i))] [] (wd (gg b) σ) (0, 0) _) (fun i hi ih => ?_) 0 (Nat.zero_le _)
  refine go_iload_n dX3_sleepers_4 rfl ?_
  refine go_aload_n dX3_sleepers_5 rfl ?_
  refine gs_gr dX3_sleepers_6 flX3_18 (gg_43 b) rfl ?_
  refine gs_gi dX3_sleepers_9 flX3_28 (gg_1 b) rfl (hN) ?_
  refine go_icmp_geN 39 dX3_sleepers_12 (by decide) (by omega) (by omega) (fun c12 => ?_) (fun c12 => ?_)
  · refine go_iload_n dX3_sleepers_39 rfl ?_
    refine go_iret dX3_sleepers_40 rfl rfl ?_
    have e : i = n := by omega
    subst e
    exact ⟨rfl, rfl⟩
  · refine go_iload_n dX3_sleepers_15 rfl ?_
    refine go_aload_n dX3_sleepers_16 rfl ?_
    refine gs_gr dX3_sleepers_17 flX3_15 (gg_43 b) rfl ?_
    refine go_iload_n dX3_sleepers_20 rfl ?_
    refine gs_iald (_) dX3_sleepers_21 (gg_45 b) (rfl) (by omega) rfl (rfl) ?_
    refine go_iconst (v := -1) dX3_sleepers_22 (by decide) ?_
    refine go_icmp_eq 30 dX3_sleepers_23 (by decide) (fun c23 => ?_) (fun c23 => ?_)
    · refine go_iconst (v := nI 0) dX3_sleepers_30 (by decide) ?_
      refine go_iadd dX3_sleepers_31 ?_
      refine go_istore_n (lv' := [_, _, _]) dX3_sleepers_32 rfl rfl rfl ?_
      refine go_iincN (lv' := [_, _, _]) 1 dX3_sleepers_33 (by decide) rfl rfl rfl rfl ?_
      refine go_goto 4 dX3_sleepers_36 (by decide) ?_
      exact go_lv (by simp [sm, c12, c23]) (ih c12)
    · refine go_iconst (v := nI 1) dX3_sleepers_26 (by decide) ?_
      refine go_goto 31 dX3_sleepers_27 (by decide) ?_
      refine go_iadd dX3_sleepers_31 ?_
      refine go_istore_n (lv' := [_, _, _]) dX3_sleepers_32 rfl rfl rfl ?_
      refine go_iincN (lv' := [_, _, _]) 1 dX3_sleepers_33 (by decide) rfl rfl rfl rfl ?_
      refine go_goto 4 dX3_sleepers_36 (by decide) ?_
      exact go_lv (by simp [sm, c12, c23]) (ih c12)
theorem cX4_holds_ok (κ : gm_K) (b : Bool) (σ : wg_S) (c : Nat) : Fn κ mX4_holds [.ref 46, .int (nI c)] (gg b) σ (some (.int (bi (decide (bv (σ 46 1) c = nI 1))))) (gg b) σ := by
  refine go_start (by decide) (Nat.le_of_ble_eq_true rfl) ?_
  refine go_aload_n dX4_holds_0 rfl ?_
  refine gs_gi dX4_holds_1 flX4_13 (gg_46 b) rfl (rfl) ?_
  refine go_iload_n dX4_holds_4 rfl ?_
  refine go_ishr dX4_holds_5 ?_
  refine go_iconst (v := nI 1) dX4_holds_6 (by decide) ?_
  refine go_iand dX4_holds_7 ?_
  refine go_iconst (v := nI 1) dX4_holds_8 (by decide) ?_
  refine go_icmp_ne 16 dX4_holds_9 (by decide) (fun c9 => ?_) (fun c9 => ?_)
  · refine go_iconst (v := nI 0) dX4_holds_16 (by decide) ?_
    refine go_zret dX4_holds_17 rfl rfl (by decide) ?_
    exact ⟨by simp +decide [c9, bi, bv], rfl⟩
  · refine go_iconst (v := nI 1) dX4_holds_12 (by decide) ?_
    refine go_goto 17 dX4_holds_13 (by decide) ?_
    refine go_zret dX4_holds_17 rfl rfl (by decide) ?_
    exact ⟨by simp +decide [c9, bi, bv], rfl⟩
theorem cX4_add_ok (κ : gm_K) (b : Bool) (σ : wg_S) (c : Nat) : Fn κ mX4_add [.ref 46, .int (nI c)] (gg b) σ none (gg b) (us σ 46 1 (σ 46 1 ||| (nI 1 <<< (nI c &&& 31)))) := by
  refine go_start (by decide) (Nat.le_of_ble_eq_true rfl) ?_
  refine go_aload_n dX4_add_0 rfl ?_
  refine go_dup dX4_add_1 rfl ?_
  refine gs_gi dX4_add_2 flX4_13 (gg_46 b) rfl (rfl) ?_
  refine go_iconst (v := nI 1) dX4_add_5 (by decide) ?_
  refine go_iload_n dX4_add_6 rfl ?_
  refine go_ishl dX4_add_7 ?_
  refine go_ior dX4_add_8 ?_
  refine gs_pi dX4_add_9 flX4_13 (gg_46 b) rfl (fun q hq => by cases hq; exact ⟨rfl, rfl⟩) ?_
  refine go_vret dX4_add_12 rfl rfl ?_
  exact ⟨rfl, rfl⟩
theorem cX4_remove_ok (κ : gm_K) (b : Bool) (σ : wg_S) (c : Nat) : Fn κ mX4_remove [.ref 46, .int (nI c)] (gg b) σ none (gg b) (us σ 46 1 (σ 46 1 &&& ((nI 1 <<< (nI c &&& 31)) ^^^ -1))) := by
  refine go_start (by decide) (Nat.le_of_ble_eq_true rfl) ?_
  refine go_aload_n dX4_remove_0 rfl ?_
  refine go_dup dX4_remove_1 rfl ?_
  refine gs_gi dX4_remove_2 flX4_13 (gg_46 b) rfl (rfl) ?_
  refine go_iconst (v := nI 1) dX4_remove_5 (by decide) ?_
  refine go_iload_n dX4_remove_6 rfl ?_
  refine go_ishl dX4_remove_7 ?_
  refine go_iconst (v := -1) dX4_remove_8 (by decide) ?_
  refine go_ixor dX4_remove_9 ?_
  refine go_iand dX4_remove_10 ?_
  refine gs_pi dX4_remove_11 flX4_13 (gg_46 b) rfl (fun q hq => by cases hq; exact ⟨rfl, rfl⟩) ?_
  refine go_vret dX4_remove_14 rfl rfl ?_
  exact ⟨rfl, rfl⟩
theorem cX4_number_ok (κ : gm_K) (b : Bool) (σ : wg_S)  : Fn κ mX4_number [.ref 46] (gg b) σ (some (.int (bct (σ 46 1)))) (gg b) σ := by
  refine go_start (by decide) (Nat.le_of_ble_eq_true rfl) ?_
  refine go_aload_n dX4_number_0 rfl ?_
  refine gs_gi dX4_number_1 flX4_13 (gg_46 b) rfl (rfl) ?_
  refine gs_callSi dX4_number_4 csX4_number_20 (cJ6_bitCount_ok κ b σ _) rfl rfl rfl ⟨rfl, rfl⟩ rfl ?_
  refine go_iret dX4_number_7 rfl rfl ?_
  exact ⟨rfl, rfl⟩
def mlen (σ : wg_S) (n : Nat) : Int32 := sm (fun i => if bv (σ 46 1) i = nI 1 then po (σ 6 i) (nI 4) else nI 0) n + σ 46 0 * (if nI 0 < bct (σ 46 1) - nI 1 then bct (σ 46 1) - nI 1 else nI 0)
theorem cX4_length_ok (κ : gm_K) (b : Bool) (σ : wg_S) (n : Nat) (hn : n ≤ 16) (hN : σ 1 0 = nI n) : Fn κ mX4_length [.ref 46] (gg b) σ (some (.int (mlen σ n))) (gg b) σ := by
  refine go_start (by decide) (Nat.le_of_ble_eq_true rfl) ?_
  refine go_iconst (v := nI 0) dX4_length_0 (by decide) ?_
  refine go_istore_n (lv' := [_, _, _]) dX4_length_1 rfl rfl rfl ?_
  refine go_iconst (v := nI 0) dX4_length_2 (by decide) ?_
  refine go_istore_n (lv' := [_, _, _]) dX4_length_3 rfl rfl rfl ?_
  skip
  refine lo_up n (P := fun i => Go κ mX4_length 4 [some (.ref 46), some (.int (sm (fun i => if bv (σ 46 1) i = nI 1 then po (σ 6 i) (nI 4) else nI 0) i)), some (.int (nI i))] [] (wd (gg b) σ) (0, 0) _) (fun i hi ih => ?_) 0 (Nat.zero_le _)
  refine go_iload_n dX4_length_4 rfl ?_
  refine go_aload_n dX4_length_5 rfl ?_
  refine gs_gr dX4_length_6 flX4_16 (gg_46 b) rfl ?_
  refine gs_gi dX4_length_9 flX4_26 (gg_1 b) rfl (hN) ?_
  refine go_icmp_geN 49 dX4_length_12 (by decide) (by omega) (by omega) (fun c12 => ?_) (fun c12 => ?_)
  · refine go_iload_n dX4_length_49 rfl ?_
    refine go_aload_n dX4_length_50 rfl ?_
    refine gs_gi dX4_length_51 flX4_7 (gg_46 b) rfl (rfl) ?_
    refine go_iconst (v := nI 0) dX4_length_54 (by decide) ?_
    refine go_aload_n dX4_length_55 rfl ?_
    refine gs_callVi dX4_length_56 cvX4_length_45 (cX4_number_ok κ b σ) rfl (gg_46 b) rfl rfl rfl ⟨rfl, rfl⟩ rfl ?_
    refine go_iconst (v := nI 1) dX4_length_59 (by decide) ?_
    refine go_isub dX4_length_60 ?_
    refine gs_callSi dX4_length_61 csX4_length_48 (cJ9_max_ok κ b σ _ _) rfl rfl rfl ⟨rfl, rfl⟩ rfl ?_
    refine go_imul dX4_length_64 ?_
    refine go_iadd dX4_length_65 ?_
    refine go_iret dX4_length_66 rfl rfl ?_
    have e : i = n := by omega
    subst e
    exact ⟨rfl, rfl⟩
  · refine go_iload_n dX4_length_15 rfl ?_
    refine go_aload_n dX4_length_16 rfl ?_
    refine go_iload_n dX4_length_17 rfl ?_
    refine gs_callVi dX4_length_18 cvX4_length_31 (cX4_holds_ok κ b σ _) rfl (gg_46 b) rfl rfl rfl ⟨rfl, rfl⟩ rfl ?_
    refine go_if_eqB 40 dX4_length_21 (by decide) (fun c21 => ?_) (fun c21 => ?_)
    · refine go_iconst (v := nI 0) dX4_length_40 (by decide) ?_
      refine go_iadd dX4_length_41 ?_
      refine go_istore_n (lv' := [_, _, _]) dX4_length_42 rfl rfl rfl ?_
      refine go_iincN (lv' := [_, _, _]) 1 dX4_length_43 (by decide) rfl rfl rfl rfl ?_
      refine go_goto 4 dX4_length_46 (by decide) ?_
      simp only [decide_eq_true_eq, decide_eq_false_iff_not] at c21
      exact go_lv (by simp [sm, c21]) (ih c12)
    · refine go_aload_n dX4_length_24 rfl ?_
      refine gs_gr dX4_length_25 flX4_16 (gg_46 b) rfl ?_
      refine gs_gr dX4_length_28 flX4_35 (gg_1 b) rfl ?_
      refine go_iload_n dX4_length_31 rfl ?_
      refine gs_iald (_) dX4_length_32 (gg_6 b) (rfl) (by omega) rfl (rfl) ?_
      refine go_iconst (v := nI 4) dX4_length_33 (by decide) ?_
      refine gs_callSNi dX4_length_34 cnX4_length_39 (cX10_portions_ok κ b σ _ _) rfl rfl rfl ⟨rfl, rfl⟩ rfl ?_
      refine go_goto 41 dX4_length_37 (by decide) ?_
      refine go_iadd dX4_length_41 ?_
      refine go_istore_n (lv' := [_, _, _]) dX4_length_42 rfl rfl rfl ?_
      refine go_iincN (lv' := [_, _, _]) 1 dX4_length_43 (by decide) rfl rfl rfl rfl ?_
      refine go_goto 4 dX4_length_46 (by decide) ?_
      simp only [decide_eq_true_eq, decide_eq_false_iff_not] at c21
      exact go_lv (by simp [sm, c21]) (ih c12)
