def wi (v lo hi : Int32) : Bool := !decide (v < lo) && !decide (hi < v)
def cj (σ : wg_S) (x y : Int32) : Bool := hs (σ 1 0) x && hs (σ 1 0) y && !decide (x = y) && !decide (σ 2 x.toNatClampNeg = nI 5) && !decide (σ 2 y.toNatClampNeg = nI 5)
def told (σ : wg_S) (k s x : Int32) : Bool :=
  if k = nI 5 then (decide (s = 0) && cj σ (x >>> (nI 4 &&& 31)) (x &&& nI 15))
  else if wi k (nI 0) (nI 5) = false then false else if wi s (nI 1) 99999999 = false then false
  else if k = nI 4 then (!decide (x < 0) && !decide (nI 4 ≤ x))
  else (!decide (k = nI 1) || !decide (nI 10000 ≤ s)) && (!decide (k = nI 2) || decide (s - s / nI 10000 * nI 10000 = 0)) && decide (x = 0)
def fdv (x y : Int32) : Int32 := if 0 ≤ x ^^^ y then x / y else if x / y * y = x then x / y else x / y - nI 1
def usr (x : Int32) (k : Int32) : Int32 := (x.toUInt32 >>> (k.toUInt32 &&& Int32.toUInt32 31)).toInt32
def bc1 (x : Int32) : Int32 := x - (usr x (nI 1) &&& 1431655765)
def bc2 (x : Int32) : Int32 := (x &&& 858993459) + (usr x (nI 2) &&& 858993459)
def bc3 (x : Int32) : Int32 := (x + usr x (nI 4)) &&& 252645135
def bc4 (x : Int32) : Int32 := x + usr x (nI 8)
def bc5 (x : Int32) : Int32 := x + usr x (nI 16)
/-- how many bits are set, as the JDK counts them -/
def bct (x : Int32) : Int32 := bc5 (bc4 (bc3 (bc2 (bc1 x)))) &&& nI 63
theorem cJ9_max_ok (κ : gm_K) (b : Bool) (σ : wg_S) (x y : Int32) : Fn κ mJ9_max_7cf53 [.int x, .int y] (gg b) σ (some (.int (if x < y then y else x))) (gg b) σ := by
  refine go_startF (by decide +kernel) (Nat.le_of_ble_eq_true rfl) ?_
  refine go_iload_n dJ9_max_7cf53_0 rfl ?_
  refine go_iload_n dJ9_max_7cf53_1 rfl ?_
  refine go_icmp_lt 9 dJ9_max_7cf53_2 (by decide) (fun c2 => ?_) (fun c2 => ?_)
  · refine go_iload_n dJ9_max_7cf53_9 rfl ?_
    refine go_iret dJ9_max_7cf53_10 rfl rfl ?_
    exact ⟨by simp +decide [c2, bi], rfl⟩
  · refine go_iload_n dJ9_max_7cf53_5 rfl ?_
    refine go_goto 10 dJ9_max_7cf53_6 (by decide) ?_
    refine go_iret dJ9_max_7cf53_10 rfl rfl ?_
    exact ⟨by simp +decide [c2, bi], rfl⟩
theorem cJ9_min_ok (κ : gm_K) (b : Bool) (σ : wg_S) (x y : Int32) : Fn κ mJ9_min_7cf53 [.int x, .int y] (gg b) σ (some (.int (if y < x then y else x))) (gg b) σ := by
  refine go_startF (by decide +kernel) (Nat.le_of_ble_eq_true rfl) ?_
  refine go_iload_n dJ9_min_7cf53_0 rfl ?_
  refine go_iload_n dJ9_min_7cf53_1 rfl ?_
  refine go_icmp_gt 9 dJ9_min_7cf53_2 (by decide) (fun c2 => ?_) (fun c2 => ?_)
  · refine go_iload_n dJ9_min_7cf53_9 rfl ?_
    refine go_iret dJ9_min_7cf53_10 rfl rfl ?_
    exact ⟨by simp +decide [c2, bi], rfl⟩
  · refine go_iload_n dJ9_min_7cf53_5 rfl ?_
    refine go_goto 10 dJ9_min_7cf53_6 (by decide) ?_
    refine go_iret dJ9_min_7cf53_10 rfl rfl ?_
    exact ⟨by simp +decide [c2, bi], rfl⟩
theorem cJ9_floorDiv_ok (κ : gm_K) (b : Bool) (σ : wg_S) (x y : Int32) (hy : ¬ y = 0) : Fn κ mJ9_floorDiv_7cf53 [.int x, .int y] (gg b) σ (some (.int (fdv x y))) (gg b) σ := by
  refine go_startF (by decide +kernel) (Nat.le_of_ble_eq_true rfl) ?_
  refine go_iload_n dJ9_floorDiv_7cf53_0 rfl ?_
  refine go_iload_n dJ9_floorDiv_7cf53_1 rfl ?_
  refine go_idiv dJ9_floorDiv_7cf53_2 (hy) ?_
  refine go_istore_n (lv' := [_, _, _]) dJ9_floorDiv_7cf53_3 rfl rfl rfl ?_
  refine go_iload_n dJ9_floorDiv_7cf53_4 rfl ?_
  refine go_iload_n dJ9_floorDiv_7cf53_5 rfl ?_
  refine go_ixor dJ9_floorDiv_7cf53_6 ?_
  refine go_if_ge 21 dJ9_floorDiv_7cf53_7 (by decide) (fun c7 => ?_) (fun c7 => ?_)
  · refine go_iload_n dJ9_floorDiv_7cf53_21 rfl ?_
    refine go_iret dJ9_floorDiv_7cf53_22 rfl rfl ?_
    exact ⟨by simp +decide [c7, fdv]; try rfl, rfl⟩
  · refine go_iload_n dJ9_floorDiv_7cf53_10 rfl ?_
    refine go_iload_n dJ9_floorDiv_7cf53_11 rfl ?_
    refine go_imul dJ9_floorDiv_7cf53_12 ?_
    refine go_iload_n dJ9_floorDiv_7cf53_13 rfl ?_
    refine go_icmp_eq 21 dJ9_floorDiv_7cf53_14 (by decide) (fun c14 => ?_) (fun c14 => ?_)
    · refine go_iload_n dJ9_floorDiv_7cf53_21 rfl ?_
      refine go_iret dJ9_floorDiv_7cf53_22 rfl rfl ?_
      exact ⟨by simp +decide [c7, c14, fdv]; try rfl, rfl⟩
    · refine go_iload_n dJ9_floorDiv_7cf53_17 rfl ?_
      refine go_iconst (v := nI 1) dJ9_floorDiv_7cf53_18 (by decide) ?_
      refine go_isub dJ9_floorDiv_7cf53_19 ?_
      refine go_iret dJ9_floorDiv_7cf53_20 rfl rfl ?_
      exact ⟨by simp +decide [c7, c14, fdv]; try rfl, rfl⟩
theorem cJ6_bitCount_ok (κ : gm_K) (b : Bool) (σ : wg_S) (x : Int32) : Fn κ mJ6_bitCount_0f7a4 [.int x] (gg b) σ (some (.int (bct x))) (gg b) σ := by
  refine go_startF (by decide +kernel) (Nat.le_of_ble_eq_true rfl) ?_
  refine go_iload_n dJ6_bitCount_0f7a4_0 rfl ?_
  refine go_iload_n dJ6_bitCount_0f7a4_1 rfl ?_
  refine go_iconst (v := nI 1) dJ6_bitCount_0f7a4_2 (by decide) ?_
  refine go_iushr dJ6_bitCount_0f7a4_3 ?_
  refine go_ldc_w dJ6_bitCount_0f7a4_4 kiJ6_265 ?_
  refine go_iand dJ6_bitCount_0f7a4_7 ?_
  refine go_isub dJ6_bitCount_0f7a4_8 ?_
  refine go_istore_n (lv' := [_]) dJ6_bitCount_0f7a4_9 rfl rfl rfl ?_
  refine go_iload_n dJ6_bitCount_0f7a4_10 rfl ?_
  refine go_ldc_w dJ6_bitCount_0f7a4_11 kiJ6_266 ?_
  refine go_iand dJ6_bitCount_0f7a4_14 ?_
  refine go_iload_n dJ6_bitCount_0f7a4_15 rfl ?_
  refine go_iconst (v := nI 2) dJ6_bitCount_0f7a4_16 (by decide) ?_
  refine go_iushr dJ6_bitCount_0f7a4_17 ?_
  refine go_ldc_w dJ6_bitCount_0f7a4_18 kiJ6_266 ?_
  refine go_iand dJ6_bitCount_0f7a4_21 ?_
  refine go_iadd dJ6_bitCount_0f7a4_22 ?_
  refine go_istore_n (lv' := [_]) dJ6_bitCount_0f7a4_23 rfl rfl rfl ?_
  refine go_iload_n dJ6_bitCount_0f7a4_24 rfl ?_
  refine go_iload_n dJ6_bitCount_0f7a4_25 rfl ?_
  refine go_iconst (v := nI 4) dJ6_bitCount_0f7a4_26 (by decide) ?_
  refine go_iushr dJ6_bitCount_0f7a4_27 ?_
  refine go_iadd dJ6_bitCount_0f7a4_28 ?_
  refine go_ldc_w dJ6_bitCount_0f7a4_29 kiJ6_267 ?_
  refine go_iand dJ6_bitCount_0f7a4_32 ?_
  refine go_istore_n (lv' := [_]) dJ6_bitCount_0f7a4_33 rfl rfl rfl ?_
  refine go_iload_n dJ6_bitCount_0f7a4_34 rfl ?_
  refine go_iload_n dJ6_bitCount_0f7a4_35 rfl ?_
  refine go_bipush (v := nI 8) dJ6_bitCount_0f7a4_36 (by decide) ?_
  refine go_iushr dJ6_bitCount_0f7a4_38 ?_
  refine go_iadd dJ6_bitCount_0f7a4_39 ?_
  refine go_istore_n (lv' := [_]) dJ6_bitCount_0f7a4_40 rfl rfl rfl ?_
  refine go_iload_n dJ6_bitCount_0f7a4_41 rfl ?_
  refine go_iload_n dJ6_bitCount_0f7a4_42 rfl ?_
  refine go_bipush (v := nI 16) dJ6_bitCount_0f7a4_43 (by decide) ?_
  refine go_iushr dJ6_bitCount_0f7a4_45 ?_
  refine go_iadd dJ6_bitCount_0f7a4_46 ?_
  refine go_istore_n (lv' := [_]) dJ6_bitCount_0f7a4_47 rfl rfl rfl ?_
  refine go_iload_n dJ6_bitCount_0f7a4_48 rfl ?_
  refine go_bipush (v := nI 63) dJ6_bitCount_0f7a4_49 (by decide) ?_
  refine go_iand dJ6_bitCount_0f7a4_51 ?_
  refine go_iret dJ6_bitCount_0f7a4_52 rfl rfl ?_
  exact ⟨rfl, rfl⟩
theorem cX10_isWithin_ok (κ : gm_K) (b : Bool) (σ : wg_S) (v lo hi : Int32) : Fn κ mX10_isWithin [.int v, .int lo, .int hi] (gg b) σ (some (.int (bi (wi v lo hi)))) (gg b) σ := by
  refine go_start (by decide) (Nat.le_of_ble_eq_true rfl) ?_
  refine go_iload_n dX10_isWithin_0 rfl ?_
  refine go_iload_n dX10_isWithin_1 rfl ?_
  refine go_icmp_lt 14 dX10_isWithin_2 (by decide) (fun c2 => ?_) (fun c2 => ?_)
  · refine go_iconst (v := nI 0) dX10_isWithin_14 (by decide) ?_
    refine go_zret dX10_isWithin_15 rfl rfl (by decide) ?_
    exact ⟨by simp +decide [c2, bi, wi], rfl⟩
  · refine go_iload_n dX10_isWithin_5 rfl ?_
    refine go_iload_n dX10_isWithin_6 rfl ?_
    refine go_icmp_gt 14 dX10_isWithin_7 (by decide) (fun c7 => ?_) (fun c7 => ?_)
    · refine go_iconst (v := nI 0) dX10_isWithin_14 (by decide) ?_
      refine go_zret dX10_isWithin_15 rfl rfl (by decide) ?_
      exact ⟨by simp +decide [c2, c7, bi, wi], rfl⟩
    · refine go_iconst (v := nI 1) dX10_isWithin_10 (by decide) ?_
      refine go_goto 15 dX10_isWithin_11 (by decide) ?_
      refine go_zret dX10_isWithin_15 rfl rfl (by decide) ?_
      exact ⟨by simp +decide [c2, c7, bi, wi], rfl⟩
theorem cX10_isTown_ok (κ : gm_K) (b : Bool) (σ : wg_S) (t : Int32) : Fn κ mX10_isTown [.int t] (gg b) σ (some (.int (bi (hs (nI 8) t)))) (gg b) σ := by
  refine go_start (by decide) (Nat.le_of_ble_eq_true rfl) ?_
  refine go_iload_n dX10_isTown_0 rfl ?_
  refine go_if_lt 14 dX10_isTown_1 (by decide) (fun c1 => ?_) (fun c1 => ?_)
  · refine go_iconst (v := nI 0) dX10_isTown_14 (by decide) ?_
    refine go_zret dX10_isTown_15 rfl rfl (by decide) ?_
    exact ⟨by simp +decide [c1, bi, hs], rfl⟩
  · refine go_iload_n dX10_isTown_4 rfl ?_
    refine go_bipush (v := nI 8) dX10_isTown_5 (by decide) ?_
    refine go_icmp_ge 14 dX10_isTown_7 (by decide) (fun c7 => ?_) (fun c7 => ?_)
    · refine go_iconst (v := nI 0) dX10_isTown_14 (by decide) ?_
      refine go_zret dX10_isTown_15 rfl rfl (by decide) ?_
      exact ⟨by simp +decide [c1, c7, bi, hs], rfl⟩
    · refine go_iconst (v := nI 1) dX10_isTown_10 (by decide) ?_
      refine go_goto 15 dX10_isTown_11 (by decide) ?_
      refine go_zret dX10_isTown_15 rfl rfl (by decide) ?_
      exact ⟨by simp +decide [c1, c7, bi, hs], rfl⟩
theorem cX10_firstPart_ok (κ : gm_K) (b : Bool) (σ : wg_S) (x : Int32) : Fn κ mX10_firstPart [.int x] (gg b) σ (some (.int (x >>> (nI 4 &&& 31)))) (gg b) σ := by
  refine go_start (by decide) (Nat.le_of_ble_eq_true rfl) ?_
  refine go_iload_n dX10_firstPart_0 rfl ?_
  refine go_iconst (v := nI 4) dX10_firstPart_1 (by decide) ?_
  refine go_ishr dX10_firstPart_2 ?_
  refine go_iret dX10_firstPart_3 rfl rfl ?_
  exact ⟨rfl, rfl⟩
theorem cX10_secondPart_ok (κ : gm_K) (b : Bool) (σ : wg_S) (x : Int32) : Fn κ mX10_secondPart [.int x] (gg b) σ (some (.int (x &&& nI 15))) (gg b) σ := by
  refine go_start (by decide) (Nat.le_of_ble_eq_true rfl) ?_
  refine go_iload_n dX10_secondPart_0 rfl ?_
  refine go_bipush (v := nI 15) dX10_secondPart_1 (by decide) ?_
  refine go_iand dX10_secondPart_3 ?_
  refine go_iret dX10_secondPart_4 rfl rfl ?_
  exact ⟨rfl, rfl⟩
theorem cX10_portions_ok (κ : gm_K) (b : Bool) (σ : wg_S) (s e : Int32) : Fn κ mX10_portions [.int s, .int e] (gg b) σ (some (.int (po s e))) (gg b) σ := by
  refine go_start (by decide) (Nat.le_of_ble_eq_true rfl) ?_
  refine go_iload_n dX10_portions_0 rfl ?_
  refine go_if_le 14 dX10_portions_1 (by decide) (fun c1 => ?_) (fun c1 => ?_)
  · refine go_iconst (v := nI 0) dX10_portions_14 (by decide) ?_
    refine go_iret dX10_portions_15 rfl rfl ?_
    exact ⟨by simp +decide [c1, po], rfl⟩
  · refine go_iload_n dX10_portions_4 rfl ?_
    refine go_iload_n dX10_portions_5 rfl ?_
    refine go_iadd dX10_portions_6 ?_
    refine go_iconst (v := nI 1) dX10_portions_7 (by decide) ?_
    refine go_isub dX10_portions_8 ?_
    refine go_iload_n dX10_portions_9 rfl ?_
    refine go_idiv dX10_portions_10 (fun z => by rw [z] at c1; exact c1 (by decide)) ?_
    refine go_goto 15 dX10_portions_11 (by decide) ?_
    refine go_iret dX10_portions_15 rfl rfl ?_
    exact ⟨by simp +decide [c1, po], rfl⟩
theorem cX0_has_ok (κ : gm_K) (b : Bool) (σ : wg_S) (c : Int32) : Fn κ mX0_has [.ref 1, .int c] (gg b) σ (some (.int (bi (hs (σ 1 0) c)))) (gg b) σ := by
  refine go_start (by decide) (Nat.le_of_ble_eq_true rfl) ?_
  refine go_iload_n dX0_has_0 rfl ?_
  refine go_if_lt 16 dX0_has_1 (by decide) (fun c1 => ?_) (fun c1 => ?_)
  · refine go_iconst (v := nI 0) dX0_has_16 (by decide) ?_
    refine go_zret dX0_has_17 rfl rfl (by decide) ?_
    exact ⟨by simp +decide [c1, bi, hs], rfl⟩
  · refine go_iload_n dX0_has_4 rfl ?_
    refine go_aload_n dX0_has_5 rfl ?_
    refine gs_gi dX0_has_6 flX0_9 (gg_1 b) rfl (rfl) ?_
    refine go_icmp_ge 16 dX0_has_9 (by decide) (fun c9 => ?_) (fun c9 => ?_)
    · refine go_iconst (v := nI 0) dX0_has_16 (by decide) ?_
      refine go_zret dX0_has_17 rfl rfl (by decide) ?_
      exact ⟨by simp +decide [c1, c9, bi, hs], rfl⟩
    · refine go_iconst (v := nI 1) dX0_has_12 (by decide) ?_
      refine go_goto 17 dX0_has_13 (by decide) ?_
      refine go_zret dX0_has_17 rfl rfl (by decide) ?_
      exact ⟨by simp +decide [c1, c9, bi, hs], rfl⟩
theorem cX0_hasAll_ok (κ : gm_K) (b : Bool) (σ : wg_S) (set : Int32) : Fn κ mX0_hasAll [.ref 1, .int set] (gg b) σ (some (.int (bi (decide (set &&& -(nI 1 <<< (σ 1 0 &&& 31)) = 0))))) (gg b) σ := by
  refine go_start (by decide) (Nat.le_of_ble_eq_true rfl) ?_
  refine go_iload_n dX0_hasAll_0 rfl ?_
  refine go_iconst (v := nI 1) dX0_hasAll_1 (by decide) ?_
  refine go_aload_n dX0_hasAll_2 rfl ?_
  refine gs_gi dX0_hasAll_3 flX0_9 (gg_1 b) rfl (rfl) ?_
  refine go_ishl dX0_hasAll_6 ?_
  refine go_ineg dX0_hasAll_7 ?_
  refine go_iand dX0_hasAll_8 ?_
  refine go_if_ne 16 dX0_hasAll_9 (by decide) (fun c9 => ?_) (fun c9 => ?_)
  · refine go_iconst (v := nI 0) dX0_hasAll_16 (by decide) ?_
    refine go_zret dX0_hasAll_17 rfl rfl (by decide) ?_
    exact ⟨by simp +decide [c9, bi], rfl⟩
  · refine go_iconst (v := nI 1) dX0_hasAll_12 (by decide) ?_
    refine go_goto 17 dX0_hasAll_13 (by decide) ?_
    refine go_zret dX0_hasAll_17 rfl rfl (by decide) ?_
    exact ⟨by simp +decide [c9, bi], rfl⟩
theorem cX0_hasParts_ok (κ : gm_K) (b : Bool) (σ : wg_S) (x : Int32) : Fn κ mX0_hasParts [.ref 1, .int x] (gg b) σ (some (.int (bi (hs (σ 1 0) (x >>> (nI 4 &&& 31)) && hs (σ 1 0) (x &&& nI 15))))) (gg b) σ := by
  refine go_start (by decide) (Nat.le_of_ble_eq_true rfl) ?_
  refine go_aload_n dX0_hasParts_0 rfl ?_
  refine go_iload_n dX0_hasParts_1 rfl ?_
  refine gs_callSNi dX0_hasParts_2 cnX0_hasParts_37 (cX10_firstPart_ok κ b σ _) rfl rfl rfl ⟨rfl, rfl⟩ rfl ?_
  refine gs_callVi dX0_hasParts_5 cvX0_hasParts_41 (cX0_has_ok κ b σ _) rfl (gg_1 b) rfl rfl rfl ⟨rfl, rfl⟩ rfl ?_
  refine go_if_eqB 26 dX0_hasParts_8 (by decide) (fun c8 => ?_) (fun c8 => ?_)
  · refine go_iconst (v := nI 0) dX0_hasParts_26 (by decide) ?_
    refine go_zret dX0_hasParts_27 rfl rfl (by decide) ?_
    exact ⟨by simp +decide [c8, bi], rfl⟩
  · refine go_aload_n dX0_hasParts_11 rfl ?_
    refine go_iload_n dX0_hasParts_12 rfl ?_
    refine gs_callSNi dX0_hasParts_13 cnX0_hasParts_45 (cX10_secondPart_ok κ b σ _) rfl rfl rfl ⟨rfl, rfl⟩ rfl ?_
    refine gs_callVi dX0_hasParts_16 cvX0_hasParts_41 (cX0_has_ok κ b σ _) rfl (gg_1 b) rfl rfl rfl ⟨rfl, rfl⟩ rfl ?_
    refine go_if_eqB 26 dX0_hasParts_19 (by decide) (fun c19 => ?_) (fun c19 => ?_)
    · refine go_iconst (v := nI 0) dX0_hasParts_26 (by decide) ?_
      refine go_zret dX0_hasParts_27 rfl rfl (by decide) ?_
      exact ⟨by simp +decide [c8, c19, bi], rfl⟩
    · refine go_iconst (v := nI 1) dX0_hasParts_22 (by decide) ?_
      refine go_goto 27 dX0_hasParts_23 (by decide) ?_
      refine go_zret dX0_hasParts_27 rfl rfl (by decide) ?_
      exact ⟨by simp +decide [c8, c19, bi], rfl⟩
theorem cX0_canJoin_ok (κ : gm_K) (b : Bool) (σ : wg_S) (n : Nat) (hn : n ≤ 16) (hN : σ 1 0 = nI n) (x y : Int32) : Fn κ mX0_canJoin [.ref 1, .int x, .int y] (gg b) σ (some (.int (bi (cj σ x y)))) (gg b) σ := by
  refine go_start (by decide) (Nat.le_of_ble_eq_true rfl) ?_
  refine go_aload_n dX0_canJoin_0 rfl ?_
  refine go_iload_n dX0_canJoin_1 rfl ?_
  refine gs_callVi dX0_canJoin_2 cvX0_canJoin_41 (cX0_has_ok κ b σ _) rfl (gg_1 b) rfl rfl rfl ⟨rfl, rfl⟩ rfl ?_
  refine go_if_eqB 45 dX0_canJoin_5 (by decide) (fun c5 => ?_) (fun c5 => ?_)
  · refine go_iconst (v := nI 0) dX0_canJoin_45 (by decide) ?_
    refine go_zret dX0_canJoin_46 rfl rfl (by decide) ?_
    exact ⟨by simp +decide [c5, bi, cj], rfl⟩
  · refine go_aload_n dX0_canJoin_8 rfl ?_
    refine go_iload_n dX0_canJoin_9 rfl ?_
    refine gs_callVi dX0_canJoin_10 cvX0_canJoin_41 (cX0_has_ok κ b σ _) rfl (gg_1 b) rfl rfl rfl ⟨rfl, rfl⟩ rfl ?_
    refine go_if_eqB 45 dX0_canJoin_13 (by decide) (fun c13 => ?_) (fun c13 => ?_)
    · refine go_iconst (v := nI 0) dX0_canJoin_45 (by decide) ?_
      refine go_zret dX0_canJoin_46 rfl rfl (by decide) ?_
      exact ⟨by simp +decide [c5, c13, bi, cj], rfl⟩
    · refine go_iload_n dX0_canJoin_16 rfl ?_
      refine go_iload_n dX0_canJoin_17 rfl ?_
      refine go_icmp_eq 45 dX0_canJoin_18 (by decide) (fun c18 => ?_) (fun c18 => ?_)
      · refine go_iconst (v := nI 0) dX0_canJoin_45 (by decide) ?_
        refine go_zret dX0_canJoin_46 rfl rfl (by decide) ?_
        exact ⟨by simp +decide [c5, c13, c18, bi, cj], rfl⟩
      · refine go_aload_n dX0_canJoin_21 rfl ?_
        refine gs_gr dX0_canJoin_22 flX0_15 (gg_1 b) rfl ?_
        refine go_iload_n dX0_canJoin_25 rfl ?_
        refine gs_ialdI dX0_canJoin_26 (gg_2 b) (hs_in hn (by decide) (hN ▸ c5)) (rfl) ?_
        refine go_iconst (v := nI 5) dX0_canJoin_27 (by decide) ?_
        refine go_icmp_eq 45 dX0_canJoin_28 (by decide) (fun c28 => ?_) (fun c28 => ?_)
        · refine go_iconst (v := nI 0) dX0_canJoin_45 (by decide) ?_
          refine go_zret dX0_canJoin_46 rfl rfl (by decide) ?_
          exact ⟨by simp +decide [c5, c13, c18, c28, bi, cj], rfl⟩
        · refine go_aload_n dX0_canJoin_31 rfl ?_
          refine gs_gr dX0_canJoin_32 flX0_15 (gg_1 b) rfl ?_
          refine go_iload_n dX0_canJoin_35 rfl ?_
          refine gs_ialdI dX0_canJoin_36 (gg_2 b) (hs_in hn (by decide) (hN ▸ c13)) (rfl) ?_
          refine go_iconst (v := nI 5) dX0_canJoin_37 (by decide) ?_
          refine go_icmp_eq 45 dX0_canJoin_38 (by decide) (fun c38 => ?_) (fun c38 => ?_)
          · refine go_iconst (v := nI 0) dX0_canJoin_45 (by decide) ?_
            refine go_zret dX0_canJoin_46 rfl rfl (by decide) ?_
            exact ⟨by simp +decide [c5, c13, c18, c28, c38, bi, cj], rfl⟩
          · refine go_iconst (v := nI 1) dX0_canJoin_41 (by decide) ?_
            refine go_goto 46 dX0_canJoin_42 (by decide) ?_
            refine go_zret dX0_canJoin_46 rfl rfl (by decide) ?_
            exact ⟨by simp +decide [c5, c13, c18, c28, c38, bi, cj], rfl⟩
theorem cX0_isAsTold_ok (κ : gm_K) (b : Bool) (σ : wg_S) (n : Nat) (hn : n ≤ 16) (hN : σ 1 0 = nI n) (k s x : Int32) : Fn κ mX0_isAsTold [.ref 1, .int k, .int s, .int x] (gg b) σ (some (.int (bi (told σ k s x)))) (gg b) σ := by
  refine go_start (by decide) (Nat.le_of_ble_eq_true rfl) ?_
  refine go_iload_n dX0_isAsTold_0 rfl ?_
  refine go_iconst (v := nI 5) dX0_isAsTold_1 (by decide) ?_
  refine go_icmp_ne 30 dX0_isAsTold_2 (by decide) (fun c2 => ?_) (fun c2 => ?_)
  · refine go_iload_n dX0_isAsTold_30 rfl ?_
    refine go_iconst (v := nI 0) dX0_isAsTold_31 (by decide) ?_
    refine go_iconst (v := nI 5) dX0_isAsTold_32 (by decide) ?_
    refine gs_callSNi dX0_isAsTold_33 cnX0_isAsTold_52 (cX10_isWithin_ok κ b σ _ _ _) rfl rfl rfl ⟨rfl, rfl⟩ rfl ?_
    refine go_if_eqB 49 dX0_isAsTold_36 (by decide) (fun c36 => ?_) (fun c36 => ?_)
    · refine go_iconst (v := nI 0) dX0_isAsTold_49 (by decide) ?_
      refine go_zret dX0_isAsTold_50 rfl rfl (by decide) ?_
      first | exact absurd (c73.symm.trans c85) (by decide) | exact ⟨by simp +decide [c2, c36, bi, told], rfl⟩
    · refine go_iload_n dX0_isAsTold_39 rfl ?_
      refine go_iconst (v := nI 1) dX0_isAsTold_40 (by decide) ?_
      refine go_ldc dX0_isAsTold_41 kiX0_56 ?_
      refine gs_callSNi dX0_isAsTold_43 cnX0_isAsTold_52 (cX10_isWithin_ok κ b σ _ _ _) rfl rfl rfl ⟨rfl, rfl⟩ rfl ?_
      refine go_if_neB 51 dX0_isAsTold_46 (by decide) (fun c46 => ?_) (fun c46 => ?_)
      · refine go_iload_n dX0_isAsTold_51 rfl ?_
        refine go_iconst (v := nI 4) dX0_isAsTold_52 (by decide) ?_
        refine go_icmp_ne 71 dX0_isAsTold_53 (by decide) (fun c53 => ?_) (fun c53 => ?_)
        · refine go_iload_n dX0_isAsTold_71 rfl ?_
          refine go_iconst (v := nI 1) dX0_isAsTold_72 (by decide) ?_
          refine go_icmp_ne 83 dX0_isAsTold_73 (by decide) (fun c73 => ?_) (fun c73 => ?_)
          · refine go_iload_n dX0_isAsTold_83 rfl ?_
            refine go_iconst (v := nI 2) dX0_isAsTold_84 (by decide) ?_
            refine go_icmp_ne 96 dX0_isAsTold_85 (by decide) (fun c85 => ?_) (fun c85 => ?_)
            · refine go_iconst (v := nI 1) dX0_isAsTold_96 (by decide) ?_
              refine go_goto 101 dX0_isAsTold_97 (by decide) ?_
              refine go_istore (lv' := [_, _, _, _, _]) dX0_isAsTold_101 rfl rfl rfl ?_
              refine go_iload dX0_isAsTold_103 rfl ?_
              refine go_if_eq 116 dX0_isAsTold_105 (by decide) (fun z => absurd z (by decide)) (fun _ => ?_)
              refine go_iload_n dX0_isAsTold_108 rfl ?_
              refine go_if_ne 116 dX0_isAsTold_109 (by decide) (fun c109 => ?_) (fun c109 => ?_)
              · refine go_iconst (v := nI 0) dX0_isAsTold_116 (by decide) ?_
                refine go_zret dX0_isAsTold_117 rfl rfl (by decide) ?_
                first | exact absurd (c73.symm.trans c85) (by decide) | exact ⟨by simp +decide [c2, c36, c46, c53, c73, c85, c109, bi, told], rfl⟩
              · refine go_iconst (v := nI 1) dX0_isAsTold_112 (by decide) ?_
                refine go_goto 117 dX0_isAsTold_113 (by decide) ?_
                refine go_zret dX0_isAsTold_117 rfl rfl (by decide) ?_
                first | exact absurd (c73.symm.trans c85) (by decide) | exact ⟨by simp +decide [c2, c36, c46, c53, c73, c85, c109, bi, told], rfl⟩
            · refine go_iload_n dX0_isAsTold_88 rfl ?_
              refine go_sipush (v := nI 10000) dX0_isAsTold_89 (by decide) ?_
              refine go_irem dX0_isAsTold_92 (by decide) ?_
              refine go_if_ne 100 dX0_isAsTold_93 (by decide) (fun c93 => ?_) (fun c93 => ?_)
              · refine go_iconst (v := nI 0) dX0_isAsTold_100 (by decide) ?_
                refine go_istore (lv' := [_, _, _, _, _]) dX0_isAsTold_101 rfl rfl rfl ?_
                refine go_iload dX0_isAsTold_103 rfl ?_
                refine go_if_eq 116 dX0_isAsTold_105 (by decide) (fun _ => ?_) (fun z => absurd z (by decide))
                refine go_iconst (v := nI 0) dX0_isAsTold_116 (by decide) ?_
                refine go_zret dX0_isAsTold_117 rfl rfl (by decide) ?_
                first | exact absurd (c73.symm.trans c85) (by decide) | exact ⟨by simp +decide [c2, c36, c46, c53, c73, c85, c93, bi, told], rfl⟩
              · refine go_iconst (v := nI 1) dX0_isAsTold_96 (by decide) ?_
                refine go_goto 101 dX0_isAsTold_97 (by decide) ?_
                refine go_istore (lv' := [_, _, _, _, _]) dX0_isAsTold_101 rfl rfl rfl ?_
                refine go_iload dX0_isAsTold_103 rfl ?_
                refine go_if_eq 116 dX0_isAsTold_105 (by decide) (fun z => absurd z (by decide)) (fun _ => ?_)
                refine go_iload_n dX0_isAsTold_108 rfl ?_
                refine go_if_ne 116 dX0_isAsTold_109 (by decide) (fun c109 => ?_) (fun c109 => ?_)
                · refine go_iconst (v := nI 0) dX0_isAsTold_116 (by decide) ?_
                  refine go_zret dX0_isAsTold_117 rfl rfl (by decide) ?_
                  first | exact absurd (c73.symm.trans c85) (by decide) | exact ⟨by simp +decide [c2, c36, c46, c53, c73, c85, c93, c109, bi, told], rfl⟩
                · refine go_iconst (v := nI 1) dX0_isAsTold_112 (by decide) ?_
                  refine go_goto 117 dX0_isAsTold_113 (by decide) ?_
                  refine go_zret dX0_isAsTold_117 rfl rfl (by decide) ?_
                  first | exact absurd (c73.symm.trans c85) (by decide) | exact ⟨by simp +decide [c2, c36, c46, c53, c73, c85, c93, c109, bi, told], rfl⟩
          · refine go_iload_n dX0_isAsTold_76 rfl ?_
            refine go_sipush (v := nI 10000) dX0_isAsTold_77 (by decide) ?_
            refine go_icmp_ge 100 dX0_isAsTold_80 (by decide) (fun c80 => ?_) (fun c80 => ?_)
            · refine go_iconst (v := nI 0) dX0_isAsTold_100 (by decide) ?_
              refine go_istore (lv' := [_, _, _, _, _]) dX0_isAsTold_101 rfl rfl rfl ?_
              refine go_iload dX0_isAsTold_103 rfl ?_
              refine go_if_eq 116 dX0_isAsTold_105 (by decide) (fun _ => ?_) (fun z => absurd z (by decide))
              refine go_iconst (v := nI 0) dX0_isAsTold_116 (by decide) ?_
              refine go_zret dX0_isAsTold_117 rfl rfl (by decide) ?_
              first | exact absurd (c73.symm.trans c85) (by decide) | exact ⟨by simp +decide [c2, c36, c46, c53, c73, c80, bi, told], rfl⟩
            · refine go_iload_n dX0_isAsTold_83 rfl ?_
              refine go_iconst (v := nI 2) dX0_isAsTold_84 (by decide) ?_
              refine go_icmp_ne 96 dX0_isAsTold_85 (by decide) (fun c85 => ?_) (fun c85 => ?_)
              · refine go_iconst (v := nI 1) dX0_isAsTold_96 (by decide) ?_
                refine go_goto 101 dX0_isAsTold_97 (by decide) ?_
                refine go_istore (lv' := [_, _, _, _, _]) dX0_isAsTold_101 rfl rfl rfl ?_
                refine go_iload dX0_isAsTold_103 rfl ?_
                refine go_if_eq 116 dX0_isAsTold_105 (by decide) (fun z => absurd z (by decide)) (fun _ => ?_)
                refine go_iload_n dX0_isAsTold_108 rfl ?_
                refine go_if_ne 116 dX0_isAsTold_109 (by decide) (fun c109 => ?_) (fun c109 => ?_)
                · refine go_iconst (v := nI 0) dX0_isAsTold_116 (by decide) ?_
                  refine go_zret dX0_isAsTold_117 rfl rfl (by decide) ?_
                  first | exact absurd (c73.symm.trans c85) (by decide) | exact ⟨by simp +decide [c2, c36, c46, c53, c73, c80, c85, c109, bi, told], rfl⟩
                · refine go_iconst (v := nI 1) dX0_isAsTold_112 (by decide) ?_
                  refine go_goto 117 dX0_isAsTold_113 (by decide) ?_
                  refine go_zret dX0_isAsTold_117 rfl rfl (by decide) ?_
                  first | exact absurd (c73.symm.trans c85) (by decide) | exact ⟨by simp +decide [c2, c36, c46, c53, c73, c80, c85, c109, bi, told], rfl⟩
              · refine go_iload_n dX0_isAsTold_88 rfl ?_
                refine go_sipush (v := nI 10000) dX0_isAsTold_89 (by decide) ?_
                refine go_irem dX0_isAsTold_92 (by decide) ?_
                refine go_if_ne 100 dX0_isAsTold_93 (by decide) (fun c93 => ?_) (fun c93 => ?_)
                · refine go_iconst (v := nI 0) dX0_isAsTold_100 (by decide) ?_
                  refine go_istore (lv' := [_, _, _, _, _]) dX0_isAsTold_101 rfl rfl rfl ?_
                  refine go_iload dX0_isAsTold_103 rfl ?_
                  refine go_if_eq 116 dX0_isAsTold_105 (by decide) (fun _ => ?_) (fun z => absurd z (by decide))
                  refine go_iconst (v := nI 0) dX0_isAsTold_116 (by decide) ?_
                  refine go_zret dX0_isAsTold_117 rfl rfl (by decide) ?_
                  first | exact absurd (c73.symm.trans c85) (by decide) | exact ⟨by simp +decide [c2, c36, c46, c53, c73, c80, c85, c93, bi, told], rfl⟩
                · refine go_iconst (v := nI 1) dX0_isAsTold_96 (by decide) ?_
                  refine go_goto 101 dX0_isAsTold_97 (by decide) ?_
                  refine go_istore (lv' := [_, _, _, _, _]) dX0_isAsTold_101 rfl rfl rfl ?_
                  refine go_iload dX0_isAsTold_103 rfl ?_
                  refine go_if_eq 116 dX0_isAsTold_105 (by decide) (fun z => absurd z (by decide)) (fun _ => ?_)
                  refine go_iload_n dX0_isAsTold_108 rfl ?_
                  refine go_if_ne 116 dX0_isAsTold_109 (by decide) (fun c109 => ?_) (fun c109 => ?_)
                  · refine go_iconst (v := nI 0) dX0_isAsTold_116 (by decide) ?_
                    refine go_zret dX0_isAsTold_117 rfl rfl (by decide) ?_
                    first | exact absurd (c73.symm.trans c85) (by decide) | exact ⟨by simp +decide [c2, c36, c46, c53, c73, c80, c85, c93, c109, bi, told], rfl⟩
                  · refine go_iconst (v := nI 1) dX0_isAsTold_112 (by decide) ?_
                    refine go_goto 117 dX0_isAsTold_113 (by decide) ?_
                    refine go_zret dX0_isAsTold_117 rfl rfl (by decide) ?_
                    first | exact absurd (c73.symm.trans c85) (by decide) | exact ⟨by simp +decide [c2, c36, c46, c53, c73, c80, c85, c93, c109, bi, told], rfl⟩
        · refine go_iload_n dX0_isAsTold_56 rfl ?_
          refine go_if_lt 69 dX0_isAsTold_57 (by decide) (fun c57 => ?_) (fun c57 => ?_)
          · refine go_iconst (v := nI 0) dX0_isAsTold_69 (by decide) ?_
            refine go_zret dX0_isAsTold_70 rfl rfl (by decide) ?_
            first | exact absurd (c73.symm.trans c85) (by decide) | exact ⟨by simp +decide [c2, c36, c46, c53, c57, bi, told], rfl⟩
          · refine go_iload_n dX0_isAsTold_60 rfl ?_
            refine go_iconst (v := nI 4) dX0_isAsTold_61 (by decide) ?_
            refine go_icmp_ge 69 dX0_isAsTold_62 (by decide) (fun c62 => ?_) (fun c62 => ?_)
            · refine go_iconst (v := nI 0) dX0_isAsTold_69 (by decide) ?_
              refine go_zret dX0_isAsTold_70 rfl rfl (by decide) ?_
              first | exact absurd (c73.symm.trans c85) (by decide) | exact ⟨by simp +decide [c2, c36, c46, c53, c57, c62, bi, told], rfl⟩
            · refine go_iconst (v := nI 1) dX0_isAsTold_65 (by decide) ?_
              refine go_goto 70 dX0_isAsTold_66 (by decide) ?_
              refine go_zret dX0_isAsTold_70 rfl rfl (by decide) ?_
              first | exact absurd (c73.symm.trans c85) (by decide) | exact ⟨by simp +decide [c2, c36, c46, c53, c57, c62, bi, told], rfl⟩
      · refine go_iconst (v := nI 0) dX0_isAsTold_49 (by decide) ?_
        refine go_zret dX0_isAsTold_50 rfl rfl (by decide) ?_
        first | exact absurd (c73.symm.trans c85) (by decide) | exact ⟨by simp +decide [c2, c36, c46, bi, told], rfl⟩
  · refine go_iload_n dX0_isAsTold_5 rfl ?_
    refine go_if_ne 28 dX0_isAsTold_6 (by decide) (fun c6 => ?_) (fun c6 => ?_)
    · refine go_iconst (v := nI 0) dX0_isAsTold_28 (by decide) ?_
      refine go_zret dX0_isAsTold_29 rfl rfl (by decide) ?_
      first | exact absurd (c73.symm.trans c85) (by decide) | exact ⟨by simp +decide [c2, c6, bi, told], rfl⟩
    · refine go_aload_n dX0_isAsTold_9 rfl ?_
      refine go_iload_n dX0_isAsTold_10 rfl ?_
      refine gs_callSNi dX0_isAsTold_11 cnX0_isAsTold_37 (cX10_firstPart_ok κ b σ _) rfl rfl rfl ⟨rfl, rfl⟩ rfl ?_
      refine go_iload_n dX0_isAsTold_14 rfl ?_
      refine gs_callSNi dX0_isAsTold_15 cnX0_isAsTold_45 (cX10_secondPart_ok κ b σ _) rfl rfl rfl ⟨rfl, rfl⟩ rfl ?_
      refine gs_callVi dX0_isAsTold_18 cvX0_isAsTold_48 (cX0_canJoin_ok κ b σ n hn hN _ _) rfl (gg_1 b) rfl rfl rfl ⟨rfl, rfl⟩ rfl ?_
      refine go_if_eqB 28 dX0_isAsTold_21 (by decide) (fun c21 => ?_) (fun c21 => ?_)
      · refine go_iconst (v := nI 0) dX0_isAsTold_28 (by decide) ?_
        refine go_zret dX0_isAsTold_29 rfl rfl (by decide) ?_
        first | exact absurd (c73.symm.trans c85) (by decide) | exact ⟨by simp +decide [c2, c6, c21, bi, told], rfl⟩
      · refine go_iconst (v := nI 1) dX0_isAsTold_24 (by decide) ?_
        refine go_goto 29 dX0_isAsTold_25 (by decide) ?_
        refine go_zret dX0_isAsTold_29 rfl rfl (by decide) ?_
        first | exact absurd (c73.symm.trans c85) (by decide) | exact ⟨by simp +decide [c2, c6, c21, bi, told], rfl⟩
def s_open (σ : wg_S) (n : Nat) (k t d : Int32) : wg_S := us (us (us (us (us (us σ 2 n k) 3 n t) 4 n d) 7 n (nI 5)) 8 n (-1)) 1 0 (nI (n + 1))
theorem cX0_open_ok (κ : gm_K) (b : Bool) (σ : wg_S) (n : Nat) (hn : n < 16) (hN : σ 1 0 = nI n) (k t d : Int32) : Fn κ mX0_open [.ref 1, .int k, .int t, .int d] (gg b) σ (some (.int (nI n))) (gg b) (s_open σ n k t d) := by
  refine go_start (by decide) (Nat.le_of_ble_eq_true rfl) ?_
  refine go_aload_n dX0_open_0 rfl ?_
  refine gs_gi dX0_open_1 flX0_9 (gg_1 b) rfl (hN) ?_
  refine go_istore (lv' := [_, _, _, _, _]) dX0_open_4 rfl rfl rfl ?_
  refine go_aload_n dX0_open_6 rfl ?_
  refine gs_gr dX0_open_7 flX0_15 (gg_1 b) rfl ?_
  refine go_iload dX0_open_10 rfl ?_
  refine go_iload_n dX0_open_12 rfl ?_
  refine gs_iast (_) dX0_open_13 (gg_2 b) (rfl) (by omega) rfl ?_
  refine go_aload_n dX0_open_14 rfl ?_
  refine gs_gr dX0_open_15 flX0_19 (gg_1 b) rfl ?_
  refine go_iload dX0_open_18 rfl ?_
  refine go_iload_n dX0_open_20 rfl ?_
  refine gs_iast (_) dX0_open_21 (gg_3 b) (rfl) (by omega) rfl ?_
  refine go_aload_n dX0_open_22 rfl ?_
  refine gs_gr dX0_open_23 flX0_22 (gg_1 b) rfl ?_
  refine go_iload dX0_open_26 rfl ?_
  refine go_iload_n dX0_open_28 rfl ?_
  refine gs_iast (_) dX0_open_29 (gg_4 b) (rfl) (by omega) rfl ?_
  refine go_aload_n dX0_open_30 rfl ?_
  refine gs_gr dX0_open_31 flX0_31 (gg_1 b) rfl ?_
  refine go_iload dX0_open_34 rfl ?_
  refine go_iconst (v := nI 5) dX0_open_36 (by decide) ?_
  refine gs_iast (_) dX0_open_37 (gg_7 b) (rfl) (by omega) rfl ?_
  refine go_aload_n dX0_open_38 rfl ?_
  refine gs_gr dX0_open_39 flX0_34 (gg_1 b) rfl ?_
  refine go_iload dX0_open_42 rfl ?_
  refine go_iconst (v := -1) dX0_open_44 (by decide) ?_
  refine gs_iast (_) dX0_open_45 (gg_8 b) (rfl) (by omega) rfl ?_
  refine go_aload_n dX0_open_46 rfl ?_
  refine go_dup dX0_open_47 rfl ?_
  refine gs_gi dX0_open_48 flX0_9 (gg_1 b) rfl (show _ = nI n by simpa [us] using hN) ?_
  refine go_iconst (v := nI 1) dX0_open_51 (by decide) ?_
  refine go_iaddN dX0_open_52 ?_
  refine gs_pi dX0_open_53 flX0_9 (gg_1 b) rfl (fun q hq => by cases hq; exact ⟨rfl, rfl⟩) ?_
  refine go_iload dX0_open_56 rfl ?_
  refine go_iret dX0_open_58 rfl rfl ?_
  exact ⟨rfl, rfl⟩
def s_seat (σ : wg_S) (c v : Nat) (x : Int32) : wg_S := us (us σ 5 (c * 4 + v) x) 6 c (σ 6 c + x)
theorem cX0_seat_ok (κ : gm_K) (b : Bool) (σ : wg_S) (c v : Nat) (hc : c < 16) (hv : v < 4) (x : Int32) : Fn κ mX0_seat [.ref 1, .int (nI c), .int (nI v), .int x] (gg b) σ none (gg b) (s_seat σ c v x) := by
  refine go_start (by decide) (Nat.le_of_ble_eq_true rfl) ?_
  refine go_aload_n dX0_seat_0 rfl ?_
  refine gs_gr dX0_seat_1 flX0_25 (gg_1 b) rfl ?_
  refine go_iload_n dX0_seat_4 rfl ?_
  refine go_iconst (v := nI 4) dX0_seat_5 (by decide) ?_
  refine go_imulN dX0_seat_6 ?_
  refine go_iload_n dX0_seat_7 rfl ?_
  refine go_iaddN dX0_seat_8 ?_
  refine go_iload_n dX0_seat_9 rfl ?_
  refine gs_iast (_) dX0_seat_10 (gg_5 b) (rfl) (by omega) rfl ?_
  refine go_aload_n dX0_seat_11 rfl ?_
  refine gs_gr dX0_seat_12 flX0_28 (gg_1 b) rfl ?_
  refine go_iload_n dX0_seat_15 rfl ?_
  refine go_dup2 dX0_seat_16 rfl rfl ?_
  refine gs_iald (_) dX0_seat_17 (gg_6 b) (rfl) (by omega) rfl (rfl) ?_
  refine go_iload_n dX0_seat_18 rfl ?_
  refine go_iadd dX0_seat_19 ?_
  refine gs_iast (_) dX0_seat_20 (gg_6 b) (rfl) (by omega) rfl ?_
  refine go_vret dX0_seat_21 rfl rfl ?_
  exact ⟨rfl, rfl⟩
theorem cX0_voicesOf_ok (κ : gm_K) (b : Bool) (σ : wg_S) (c : Nat) (hc : c < 16) : Fn κ mX0_voicesOf [.ref 1, .int (nI c)] (gg b) σ (some (.int (om (fun v => !decide (σ 5 (c * 4 + v) ≤ 0)) 4))) (gg b) σ := by
  refine go_start (by decide) (Nat.le_of_ble_eq_true rfl) ?_
  refine go_iconst (v := nI 0) dX0_voicesOf_0 (by decide) ?_
  refine go_istore_n (lv' := [_, _, _, _]) dX0_voicesOf_1 rfl rfl rfl ?_
  refine go_iconst (v := nI 0) dX0_voicesOf_2 (by decide) ?_
  refine go_istore_n (lv' := [_, _, _, _]) dX0_voicesOf_3 rfl rfl rfl ?_
  skip
  refine lo_up 4 (P := fun i => Go κ mX0_voicesOf 4 [some (.ref 1), some (.int (nI c)), some (.int (om (fun v => !decide (σ 5 (c * 4 + v) ≤ 0)) i)), some (.int (nI i))] [] (wd (gg b) σ) (0, 0) _) (fun i hi ih => ?_) 0 (Nat.zero_le _)
  refine go_iload_n dX0_voicesOf_4 rfl ?_
  refine go_iconst (v := nI 4) dX0_voicesOf_5 (by decide) ?_
  refine go_icmp_geN 34 dX0_voicesOf_6 (by decide) (by omega) (by omega) (fun c6 => ?_) (fun c6 => ?_)
  · refine go_iload_n dX0_voicesOf_34 rfl ?_
    refine go_iret dX0_voicesOf_35 rfl rfl ?_
    have e : i = 4 := by omega
    subst e
    exact ⟨rfl, rfl⟩
  · refine go_aload_n dX0_voicesOf_9 rfl ?_
    refine gs_gr dX0_voicesOf_10 flX0_25 (gg_1 b) rfl ?_
    refine go_iload_n dX0_voicesOf_13 rfl ?_
    refine go_iconst (v := nI 4) dX0_voicesOf_14 (by decide) ?_
    refine go_imulN dX0_voicesOf_15 ?_
    refine go_iload_n dX0_voicesOf_16 rfl ?_
    refine go_iaddN dX0_voicesOf_17 ?_
    refine gs_iald (_) dX0_voicesOf_18 (gg_5 b) (rfl) (by omega) rfl (rfl) ?_
    refine go_if_le 28 dX0_voicesOf_19 (by decide) (fun c19 => ?_) (fun c19 => ?_)
    · refine go_iincN (lv' := [_, _, _, _]) 1 dX0_voicesOf_28 (by decide) rfl rfl rfl rfl ?_
      refine go_goto 4 dX0_voicesOf_31 (by decide) ?_
      have e := ih c6
      simpa [om, c6, c19] using e
    · refine go_iload_n dX0_voicesOf_22 rfl ?_
      refine go_iconst (v := nI 1) dX0_voicesOf_23 (by decide) ?_
      refine go_iload_n dX0_voicesOf_24 rfl ?_
      refine go_ishl dX0_voicesOf_25 ?_
      refine go_ior dX0_voicesOf_26 ?_
      refine go_istore_n (lv' := [_, _, _, _]) dX0_voicesOf_27 rfl rfl rfl ?_
      refine go_iincN (lv' := [_, _, _, _]) 1 dX0_voicesOf_28 (by decide) rfl rfl rfl rfl ?_
      refine go_goto 4 dX0_voicesOf_31 (by decide) ?_
      have e := ih c6
      simpa [om, c6, c19] using e
theorem cX0_sizeOfSet_ok (κ : gm_K) (b : Bool) (σ : wg_S) (n : Nat) (hn : n ≤ 16) (hN : σ 1 0 = nI n) (set : Int32) : Fn κ mX0_sizeOfSet [.ref 1, .int set] (gg b) σ (some (.int (sm (fun i => bv set i * σ 6 i) n))) (gg b) σ := by
  refine go_start (by decide) (Nat.le_of_ble_eq_true rfl) ?_
  refine go_iconst (v := nI 0) dX0_sizeOfSet_0 (by decide) ?_
  refine go_istore_n (lv' := [_, _, _, _]) dX0_sizeOfSet_1 rfl rfl rfl ?_
  refine go_iconst (v := nI 0) dX0_sizeOfSet_2 (by decide) ?_
  refine go_istore_n (lv' := [_, _, _, _]) dX0_sizeOfSet_3 rfl rfl rfl ?_
  skip
  refine lo_up n (P := fun i => Go κ mX0_sizeOfSet 4 [some (.ref 1), some (.int set), some (.int (sm (fun i => bv set i * σ 6 i) i)), some (.int (nI i))] [] (wd (gg b) σ) (0, 0) _) (fun i hi ih => ?_) 0 (Nat.zero_le _)
  refine go_iload_n dX0_sizeOfSet_4 rfl ?_
  refine go_aload_n dX0_sizeOfSet_5 rfl ?_
  refine gs_gi dX0_sizeOfSet_6 flX0_9 (gg_1 b) rfl (hN) ?_
  refine go_icmp_geN 33 dX0_sizeOfSet_9 (by decide) (by omega) (by omega) (fun c9 => ?_) (fun c9 => ?_)
  · refine go_iload_n dX0_sizeOfSet_33 rfl ?_
    refine go_iret dX0_sizeOfSet_34 rfl rfl ?_
    have e : i = n := by omega
    subst e
    exact ⟨rfl, rfl⟩
  · refine go_iload_n dX0_sizeOfSet_12 rfl ?_
    refine go_iload_n dX0_sizeOfSet_13 rfl ?_
    refine go_iload_n dX0_sizeOfSet_14 rfl ?_
    refine go_ishr dX0_sizeOfSet_15 ?_
    refine go_iconst (v := nI 1) dX0_sizeOfSet_16 (by decide) ?_
    refine go_iand dX0_sizeOfSet_17 ?_
    refine go_aload_n dX0_sizeOfSet_18 rfl ?_
    refine gs_gr dX0_sizeOfSet_19 flX0_28 (gg_1 b) rfl ?_
    refine go_iload_n dX0_sizeOfSet_22 rfl ?_
    refine gs_iald (_) dX0_sizeOfSet_23 (gg_6 b) (rfl) (by omega) rfl (rfl) ?_
    refine go_imul dX0_sizeOfSet_24 ?_
    refine go_iadd dX0_sizeOfSet_25 ?_
    refine go_istore_n (lv' := [_, _, _, _]) dX0_sizeOfSet_26 rfl rfl rfl ?_
    refine go_iincN (lv' := [_, _, _, _]) 1 dX0_sizeOfSet_27 (by decide) rfl rfl rfl rfl ?_
    refine go_goto 4 dX0_sizeOfSet_30 (by decide) ?_
    exact ih c9
theorem cX0_changeOf_ok (κ : gm_K) (b : Bool) (σ : wg_S) (n : Nat) (hn : n ≤ 16) (hN : σ 1 0 = nI n) (set : Int32) : Fn κ mX0_changeOf [.ref 1, .int set] (gg b) σ (some (.int (sm (fun i => bv set i * po (σ 6 i) (nI 5)) n))) (gg b) σ := by
  refine go_start (by decide) (Nat.le_of_ble_eq_true rfl) ?_
  refine go_iconst (v := nI 0) dX0_changeOf_0 (by decide) ?_
  refine go_istore_n (lv' := [_, _, _, _]) dX0_changeOf_1 rfl rfl rfl ?_
  refine go_iconst (v := nI 0) dX0_changeOf_2 (by decide) ?_
  refine go_istore_n (lv' := [_, _, _, _]) dX0_changeOf_3 rfl rfl rfl ?_
  skip
  refine lo_up n (P := fun i => Go κ mX0_changeOf 4 [some (.ref 1), some (.int set), some (.int (sm (fun i => bv set i * po (σ 6 i) (nI 5)) i)), some (.int (nI i))] [] (wd (gg b) σ) (0, 0) _) (fun i hi ih => ?_) 0 (Nat.zero_le _)
  refine go_iload_n dX0_changeOf_4 rfl ?_
  refine go_aload_n dX0_changeOf_5 rfl ?_
  refine gs_gi dX0_changeOf_6 flX0_9 (gg_1 b) rfl (hN) ?_
  refine go_icmp_geN 37 dX0_changeOf_9 (by decide) (by omega) (by omega) (fun c9 => ?_) (fun c9 => ?_)
  · refine go_iload_n dX0_changeOf_37 rfl ?_
    refine go_iret dX0_changeOf_38 rfl rfl ?_
    have e : i = n := by omega
    subst e
    exact ⟨rfl, rfl⟩
  · refine go_iload_n dX0_changeOf_12 rfl ?_
    refine go_iload_n dX0_changeOf_13 rfl ?_
    refine go_iload_n dX0_changeOf_14 rfl ?_
    refine go_ishr dX0_changeOf_15 ?_
    refine go_iconst (v := nI 1) dX0_changeOf_16 (by decide) ?_
    refine go_iand dX0_changeOf_17 ?_
    refine go_aload_n dX0_changeOf_18 rfl ?_
    refine gs_gr dX0_changeOf_19 flX0_28 (gg_1 b) rfl ?_
    refine go_iload_n dX0_changeOf_22 rfl ?_
    refine gs_iald (_) dX0_changeOf_23 (gg_6 b) (rfl) (by omega) rfl (rfl) ?_
    refine go_iconst (v := nI 5) dX0_changeOf_24 (by decide) ?_
    refine gs_callSNi dX0_changeOf_25 cnX0_changeOf_71 (cX10_portions_ok κ b σ _ _) rfl rfl rfl ⟨rfl, rfl⟩ rfl ?_
    refine go_imul dX0_changeOf_28 ?_
    refine go_iadd dX0_changeOf_29 ?_
    refine go_istore_n (lv' := [_, _, _, _]) dX0_changeOf_30 rfl rfl rfl ?_
    refine go_iincN (lv' := [_, _, _, _]) 1 dX0_changeOf_31 (by decide) rfl rfl rfl rfl ?_
    refine go_goto 4 dX0_changeOf_34 (by decide) ?_
    exact ih c9
theorem cX0_votesFor_ok (κ : gm_K) (b : Bool) (σ : wg_S) (n : Nat) (hn : n ≤ 16) (hN : σ 1 0 = nI n) (w set : Int32) : Fn κ mX0_votesFor [.ref 1, .int w, .int set] (gg b) σ (some (.int (sm (fun i => if bv set i = nI 1 ∧ σ 8 i = w then po (σ 6 i) (nI 10) else 0) n))) (gg b) σ := by
  refine go_start (by decide) (Nat.le_of_ble_eq_true rfl) ?_
  refine go_iconst (v := nI 0) dX0_votesFor_0 (by decide) ?_
  refine go_istore_n (lv' := [_, _, _, _, _]) dX0_votesFor_1 rfl rfl rfl ?_
  refine go_iconst (v := nI 0) dX0_votesFor_2 (by decide) ?_
  refine go_istore (lv' := [_, _, _, _, _]) dX0_votesFor_3 rfl rfl rfl ?_
  skip
  refine lo_up n (P := fun i => Go κ mX0_votesFor 5 [some (.ref 1), some (.int w), some (.int set), some (.int (sm (fun i => if bv set i = nI 1 ∧ σ 8 i = w then po (σ 6 i) (nI 10) else 0) i)), some (.int (nI i))] [] (wd (gg b) σ) (0, 0) _) (fun i hi ih => ?_) 0 (Nat.zero_le _)
  refine go_iload dX0_votesFor_5 rfl ?_
  refine go_aload_n dX0_votesFor_7 rfl ?_
  refine gs_gi dX0_votesFor_8 flX0_9 (gg_1 b) rfl (hN) ?_
  refine go_icmp_geN 56 dX0_votesFor_11 (by decide) (by omega) (by omega) (fun c11 => ?_) (fun c11 => ?_)
  · refine go_iload_n dX0_votesFor_56 rfl ?_
    refine go_iret dX0_votesFor_57 rfl rfl ?_
    have e : i = n := by omega
    subst e
    exact ⟨rfl, rfl⟩
  · refine go_iload_n dX0_votesFor_14 rfl ?_
    refine go_iload dX0_votesFor_15 rfl ?_
    refine go_ishr dX0_votesFor_17 ?_
    refine go_iconst (v := nI 1) dX0_votesFor_18 (by decide) ?_
    refine go_iand dX0_votesFor_19 ?_
    refine go_iconst (v := nI 1) dX0_votesFor_20 (by decide) ?_
    refine go_icmp_ne 50 dX0_votesFor_21 (by decide) (fun c21 => ?_) (fun c21 => ?_)
    · refine go_iincN (lv' := [_, _, _, _, _]) 1 dX0_votesFor_50 (by decide) rfl rfl rfl rfl ?_
      refine go_goto 5 dX0_votesFor_53 (by decide) ?_
      exact go_lv (by simp [sm, bv, c11, c21]) (ih c11)
    · refine go_aload_n dX0_votesFor_24 rfl ?_
      refine gs_gr dX0_votesFor_25 flX0_34 (gg_1 b) rfl ?_
      refine go_iload dX0_votesFor_28 rfl ?_
      refine gs_iald (_) dX0_votesFor_30 (gg_8 b) (rfl) (by omega) rfl (rfl) ?_
      refine go_iload_n dX0_votesFor_31 rfl ?_
      refine go_icmp_ne 50 dX0_votesFor_32 (by decide) (fun c32 => ?_) (fun c32 => ?_)
      · refine go_iincN (lv' := [_, _, _, _, _]) 1 dX0_votesFor_50 (by decide) rfl rfl rfl rfl ?_
        refine go_goto 5 dX0_votesFor_53 (by decide) ?_
        exact go_lv (by simp [sm, bv, c11, c21, c32]) (ih c11)
      · refine go_iload_n dX0_votesFor_35 rfl ?_
        refine go_aload_n dX0_votesFor_36 rfl ?_
        refine gs_gr dX0_votesFor_37 flX0_28 (gg_1 b) rfl ?_
        refine go_iload dX0_votesFor_40 rfl ?_
        refine gs_iald (_) dX0_votesFor_42 (gg_6 b) (rfl) (by omega) rfl (rfl) ?_
        refine go_bipush (v := nI 10) dX0_votesFor_43 (by decide) ?_
        refine gs_callSNi dX0_votesFor_45 cnX0_votesFor_71 (cX10_portions_ok κ b σ _ _) rfl rfl rfl ⟨rfl, rfl⟩ rfl ?_
        refine go_iadd dX0_votesFor_48 ?_
        refine go_istore_n (lv' := [_, _, _, _, _]) dX0_votesFor_49 rfl rfl rfl ?_
        refine go_iincN (lv' := [_, _, _, _, _]) 1 dX0_votesFor_50 (by decide) rfl rfl rfl rfl ?_
        refine go_goto 5 dX0_votesFor_53 (by decide) ?_
        exact go_lv (by simp [sm, bv, c11, c21, c32]) (ih c11)
theorem cX0_setOfKind_ok (κ : gm_K) (b : Bool) (σ : wg_S) (n : Nat) (hn : n ≤ 16) (hN : σ 1 0 = nI n) (w : Int32) : Fn κ mX0_setOfKind [.ref 1, .int w] (gg b) σ (some (.int (om (fun i => decide (σ 2 i = w)) n))) (gg b) σ := by
  refine go_start (by decide) (Nat.le_of_ble_eq_true rfl) ?_
  refine go_iconst (v := nI 0) dX0_setOfKind_0 (by decide) ?_
  refine go_istore_n (lv' := [_, _, _, _]) dX0_setOfKind_1 rfl rfl rfl ?_
  refine go_iconst (v := nI 0) dX0_setOfKind_2 (by decide) ?_
  refine go_istore_n (lv' := [_, _, _, _]) dX0_setOfKind_3 rfl rfl rfl ?_
  skip
  refine lo_up n (P := fun i => Go κ mX0_setOfKind 4 [some (.ref 1), some (.int w), some (.int (om (fun i => decide (σ 2 i = w)) i)), some (.int (nI i))] [] (wd (gg b) σ) (0, 0) _) (fun i hi ih => ?_) 0 (Nat.zero_le _)
  refine go_iload_n dX0_setOfKind_4 rfl ?_
  refine go_aload_n dX0_setOfKind_5 rfl ?_
  refine gs_gi dX0_setOfKind_6 flX0_9 (gg_1 b) rfl (hN) ?_
  refine go_icmp_geN 34 dX0_setOfKind_9 (by decide) (by omega) (by omega) (fun c9 => ?_) (fun c9 => ?_)
  · refine go_iload_n dX0_setOfKind_34 rfl ?_
    refine go_iret dX0_setOfKind_35 rfl rfl ?_
    have e : i = n := by omega
    subst e
    exact ⟨rfl, rfl⟩
  · refine go_aload_n dX0_setOfKind_12 rfl ?_
    refine gs_gr dX0_setOfKind_13 flX0_15 (gg_1 b) rfl ?_
    refine go_iload_n dX0_setOfKind_16 rfl ?_
    refine gs_iald (_) dX0_setOfKind_17 (gg_2 b) (rfl) (by omega) rfl (rfl) ?_
    refine go_iload_n dX0_setOfKind_18 rfl ?_
    refine go_icmp_ne 28 dX0_setOfKind_19 (by decide) (fun c19 => ?_) (fun c19 => ?_)
    · refine go_iincN (lv' := [_, _, _, _]) 1 dX0_setOfKind_28 (by decide) rfl rfl rfl rfl ?_
      refine go_goto 4 dX0_setOfKind_31 (by decide) ?_
      have e := ih c9
      simpa [om, c19] using e
    · refine go_iload_n dX0_setOfKind_22 rfl ?_
      refine go_iconst (v := nI 1) dX0_setOfKind_23 (by decide) ?_
      refine go_iload_n dX0_setOfKind_24 rfl ?_
      refine go_ishl dX0_setOfKind_25 ?_
      refine go_ior dX0_setOfKind_26 ?_
      refine go_istore_n (lv' := [_, _, _, _]) dX0_setOfKind_27 rfl rfl rfl ?_
      refine go_iincN (lv' := [_, _, _, _]) 1 dX0_setOfKind_28 (by decide) rfl rfl rfl rfl ?_
      refine go_goto 4 dX0_setOfKind_31 (by decide) ?_
      have e := ih c9
      simpa [om, c19] using e
