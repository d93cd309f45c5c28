theorem lkv : Cond.fieldLink RJ0 9 RJ0 "value" "[B" ∈ lw_tbl := List.mem_of_getElem? (i := 1465) (by decide +kernel)
theorem lkc : Cond.fieldLink RJ0 38 RJ0 "COMPACT_STRINGS" "Z" ∈ lw_tbl := List.mem_of_getElem? (i := 571) (by decide +kernel)
theorem lko : Cond.fieldLink RJ0 15 RJ0 "coder" "B" ∈ lw_tbl := List.mem_of_getElem? (i := 1466) (by decide +kernel)
theorem lkf : Cond.fieldLink RJ0 1053 RJ3 "SIOOBE_FORMATTER" "Ljava/util/function/BiFunction;" ∈ lw_tbl := List.mem_of_getElem? (i := 587) (by decide +kernel)
theorem cvJ0_length_8abf5_335 : gm_CV mJ0_length_8abf5 mJ0_coder_7d493 335 0 := ⟨⟨List.mem_of_getElem? (i := 567) (by decide +kernel), List.mem_of_getElem? (i := 568) (by decide +kernel), List.mem_of_getElem? (i := 569) (by decide +kernel), List.mem_of_getElem? (i := 75) (by decide +kernel), List.mem_of_getElem? (i := 570) (by decide +kernel)⟩, ⟨by decide, by decide, by decide +kernel⟩, ⟨by decide, by decide⟩⟩
theorem cvJ0_charAt_5068e_492 : gm_CV mJ0_charAt_5068e mJ0_isLatin1_aae02 492 0 := ⟨⟨List.mem_of_getElem? (i := 577) (by decide +kernel), List.mem_of_getElem? (i := 578) (by decide +kernel), List.mem_of_getElem? (i := 579) (by decide +kernel), List.mem_of_getElem? (i := 75) (by decide +kernel), List.mem_of_getElem? (i := 580) (by decide +kernel)⟩, ⟨by decide, by decide, by decide +kernel⟩, ⟨by decide, by decide⟩⟩
theorem csJ0_charAt_5068e_495 : gm_CS mJ0_charAt_5068e mJ1_charAt_3b067 495 2 := ⟨⟨List.mem_of_getElem? (i := 581) (by decide +kernel), List.mem_of_getElem? (i := 582) (by decide +kernel), List.mem_of_getElem? (i := 76) (by decide +kernel), List.mem_of_getElem? (i := 583) (by decide +kernel)⟩, ⟨by decide, by decide, by decide +kernel⟩, ⟨by decide, by decide⟩⟩
theorem csJ1_charAt_3b067_9 : gm_CS mJ1_charAt_3b067 mJ0_checkIndex_df160 9 2 := ⟨⟨List.mem_of_getElem? (i := 584) (by decide +kernel), List.mem_of_getElem? (i := 585) (by decide +kernel), List.mem_of_getElem? (i := 75) (by decide +kernel), List.mem_of_getElem? (i := 586) (by decide +kernel)⟩, ⟨by decide, by decide, by decide +kernel⟩, ⟨by decide, by decide⟩⟩
theorem csJ0_checkIndex_df160_1059 : gm_CS mJ0_checkIndex_df160 mJ3_checkIndex_8e157 1059 3 := ⟨⟨List.mem_of_getElem? (i := 589) (by decide +kernel), List.mem_of_getElem? (i := 590) (by decide +kernel), List.mem_of_getElem? (i := 77) (by decide +kernel), List.mem_of_getElem? (i := 591) (by decide +kernel)⟩, ⟨by decide, by decide, by decide +kernel⟩, ⟨by decide, by decide⟩⟩
theorem tx_O {κ : gm_K} {v : Value} {k : Nat} (hk : k < 10) (hv : ∀ U, κ.2.2.2.2.2 U → tx_ok κ v U) : ∀ U, κ.2.2.2.2.2 U → va_O "java/lang/String" (κ.2.2.2.2.1 k) (fun q => κ.2.2.2.1 ≤ q) U U.heap := fun U hU => ((hv U hU).1.1 k hk).1
theorem tx_c {κ : gm_K} {v : Value} {k : Nat} (hk : k < 10) (hv : ∀ U, κ.2.2.2.2.2 U → tx_ok κ v U) : ∀ U, κ.2.2.2.2.2 U → va_OF "java/lang/String" "coder" "B" (gm_v κ (.int 0)) (κ.2.2.2.2.1 k) (fun q => κ.2.2.2.1 ≤ q) U U.heap := fun U hU => ((hv U hU).1.1 k hk).2.1
theorem tx_v {κ : gm_K} {v : Value} {k : Nat} (hk : k < 10) (hv : ∀ U, κ.2.2.2.2.2 U → tx_ok κ v U) : ∀ U, κ.2.2.2.2.2 U → va_OF "java/lang/String" "value" "[B" (gm_v κ (.retAddr (100 + k))) (κ.2.2.2.2.1 k) (fun q => κ.2.2.2.1 ≤ q) U U.heap := fun U hU => ((hv U hU).1.1 k hk).2.2.1
theorem tx_t {κ : gm_K} {v : Value} {k : Nat} (hk : k < 10) (hv : ∀ U, κ.2.2.2.2.2 U → tx_ok κ v U) : ∀ U, κ.2.2.2.2.2 U → va_T .byte (κ.2.2.2.2.1 (100 + k)) (tl k) (fun j => .int ((tx_byt.getD k []).getD j 0)) (fun q => κ.2.2.2.1 ≤ q) U U.heap := fun U hU => ((hv U hU).1.1 k hk).2.2.2
theorem tx_z {κ : gm_K} {v : Value} (hv : ∀ U, κ.2.2.2.2.2 U → tx_ok κ v U) : ∀ U, κ.2.2.2.2.2 U → va_Z "java/lang/String" "COMPACT_STRINGS" "Z" (gm_v κ (.int 1)) (fun q => κ.2.2.2.1 ≤ q) U U.heap := fun U hU => (hv U hU).2.2.1
theorem tx_f {κ : gm_K} {v : Value} (hv : ∀ U, κ.2.2.2.2.2 U → tx_ok κ v U) : ∀ U, κ.2.2.2.2.2 U → va_Z "jdk/internal/util/Preconditions" "SIOOBE_FORMATTER" "Ljava/util/function/BiFunction;" (gm_v κ v) (fun q => κ.2.2.2.1 ≤ q) U U.heap := fun U hU => (hv U hU).2.2.2
theorem tl_s : ∀ k, k < 10 → tl k < 100 := by decide +kernel
theorem tx_b : ∀ k, k < 10 → ∀ i, i < tl k → ((((tx_byt.getD k []).getD i 0) &&& nI 255).toUInt32 % 65536).toInt32 = nI (tc k i) ∧ tc k i < 128 := by decide +kernel
section GJ
variable {κ : gm_K} {h : gm_H}
def Fh (κ : gm_K) (μ : gm_M) (av : List Value) (h : gm_H) (R : Option Value) : Prop := Ct κ μ av h (fun r h' => r = R ∧ h' = h)
theorem cJ0_coder_ok (T : TXT κ) {k : Nat} (hk : k < 10) : Fh κ mJ0_coder_7d493 [.retAddr k] h (some (.int 0)) := by
  obtain ⟨v, hv1, hv⟩ := T
  refine go_startF (by decide +kernel) (Nat.le_of_ble_eq_true rfl) ?_
  refine go_gets (v := .int 1) dJ0_coder_7d493_0 (tx_z hv) lkc ?_
  refine go_if_eq 13 dJ0_coder_7d493_3 (by decide) (fun z => absurd z (by decide)) (fun _ => ?_)
  refine go_aload_o dJ0_coder_7d493_6 rfl ?_
  refine go_getO (v := .int 0) dJ0_coder_7d493_7 (tx_c hk hv) lko ?_
  refine go_goto 14 dJ0_coder_7d493_10 (by decide) ?_
  refine go_zret dJ0_coder_7d493_14 rfl rfl (by decide) ?_
  exact ⟨rfl, rfl⟩
theorem cJ0_isLatin1_ok (T : TXT κ) {k : Nat} (hk : k < 10) : Fh κ mJ0_isLatin1_aae02 [.retAddr k] h (some (.int (nI 1))) := by
  obtain ⟨v, hv1, hv⟩ := T
  refine go_startF (by decide +kernel) (Nat.le_of_ble_eq_true rfl) ?_
  refine go_gets (v := .int 1) dJ0_isLatin1_aae02_0 (tx_z hv) lkc ?_
  refine go_if_eq 17 dJ0_isLatin1_aae02_3 (by decide) (fun z => absurd z (by decide)) (fun _ => ?_)
  refine go_aload_o dJ0_isLatin1_aae02_6 rfl ?_
  refine go_getO (v := .int 0) dJ0_isLatin1_aae02_7 (tx_c hk hv) lko ?_
  refine go_if_ne 17 dJ0_isLatin1_aae02_10 (by decide) (fun z => absurd rfl z) (fun _ => ?_)
  refine go_iconst (v := nI 1) dJ0_isLatin1_aae02_13 (by decide) ?_
  refine go_goto 18 dJ0_isLatin1_aae02_14 (by decide) ?_
  refine go_zret dJ0_isLatin1_aae02_18 rfl rfl (by decide) ?_
  exact ⟨rfl, rfl⟩
theorem cJ0_length_ok (T : TXT κ) {k : Nat} (hk : k < 10) : Fh κ mJ0_length_8abf5 [.retAddr k] h (some (.int (nI (tl k)))) := by
  have hc := cJ0_coder_ok (h := h) T hk
  obtain ⟨v, hv1, hv⟩ := T
  refine go_startF (by decide +kernel) (Nat.le_of_ble_eq_true rfl) ?_
  refine go_aload_o dJ0_length_8abf5_0 rfl ?_
  refine go_getO (v := .retAddr (100 + k)) dJ0_length_8abf5_1 (tx_v hk hv) lkv ?_
  refine go_lenO (v := nI (tl k)) dJ0_length_8abf5_4 (tx_t hk hv) rfl ?_
  refine go_aload_o dJ0_length_8abf5_5 rfl ?_
  refine go_callVO dJ0_length_8abf5_6 cvJ0_length_8abf5_335 hc rfl (tx_O hk hv) rfl rfl rfl (fun r h' hq => ?_)
  obtain ⟨rfl, rfl⟩ := hq
  refine go_ishr dJ0_length_8abf5_9 ?_
  refine go_topI (y := nI (tl k)) ?_ ?_
  · rw [pk_shrN (by have := tl_s k hk; omega) _ 0 (by decide)]; simp
  refine go_iret dJ0_length_8abf5_10 rfl rfl ?_
  exact ⟨rfl, rfl⟩
theorem cJ3_checkIndex_ok {i N : Nat} (hi : i < N) (hN : N < 1000) {v : Value} (hv : v.category = 1) : Fh κ mJ3_checkIndex_8e157 [.int (nI i), .int (nI N), v] h (some (.int (nI i))) := by
  have hl0 : gm_l0 [.int (nI i), .int (nI N), v] = [some (.int (nI i)), some (.int (nI N)), some v] := by
    show some _ :: some _ :: (if v.category = 2 then some v :: none :: gm_l0 [] else some v :: gm_l0 []) = _
    rw [if_neg (by rw [hv]; decide)]
    rfl
  refine go_startF (by decide +kernel) (by rw [hl0]; exact Nat.le_refl _) ?_
  have hl : gm_l1 [.int (nI i), .int (nI N), v] mJ3_checkIndex_8e157.2.2.1 = [some (.int (nI i)), some (.int (nI N)), some v] := by
    unfold gm_l1
    rw [hl0]
    rfl
  rw [hl]
  refine go_iload_n dJ3_checkIndex_8e157_0 rfl ?_
  refine go_if_ltN 9 dJ3_checkIndex_8e157_1 (by decide) (by omega) ?_
  refine go_iload_n dJ3_checkIndex_8e157_4 rfl ?_
  refine go_iload_n dJ3_checkIndex_8e157_5 rfl ?_
  refine go_icmp_ltN 16 dJ3_checkIndex_8e157_6 (by decide) (by omega) (by omega) (fun _ => ?_) (fun z => absurd hi (by omega))
  refine go_iload_n dJ3_checkIndex_8e157_16 rfl ?_
  refine go_iret dJ3_checkIndex_8e157_17 rfl rfl ?_
  exact ⟨rfl, rfl⟩
theorem cJ0_checkIndex_ok (T : TXT κ) {i N : Nat} (hi : i < N) (hN : N < 1000) : Fh κ mJ0_checkIndex_df160 [.int (nI i), .int (nI N)] h none := by
  obtain ⟨v, hv1, hv⟩ := T
  refine go_startF (by decide +kernel) (Nat.le_of_ble_eq_true rfl) ?_
  refine go_iload_n dJ0_checkIndex_df160_0 rfl ?_
  refine go_iload_n dJ0_checkIndex_df160_1 rfl ?_
  refine go_gets (v := v) dJ0_checkIndex_df160_2 (tx_f hv) lkf ?_
  refine go_callS dJ0_checkIndex_df160_5 csJ0_checkIndex_df160_1059 (cJ3_checkIndex_ok (h := h) hi hN hv1) rfl rfl rfl rfl (fun r h' hq => ?_)
  obtain ⟨rfl, rfl⟩ := hq
  refine go_pop dJ0_checkIndex_df160_8 rfl ?_
  refine go_vret dJ0_checkIndex_df160_9 rfl rfl ?_
  exact ⟨rfl, rfl⟩
theorem cJ1_charAt_ok (T : TXT κ) {k i : Nat} (hk : k < 10) (hi : i < tl k) : Fh κ mJ1_charAt_3b067 [.retAddr (100 + k), .int (nI i)] h (some (.int (nI (tc k i)))) := by
  have hN := tl_s k hk
  have hc := cJ0_checkIndex_ok (h := h) T hi (by omega)
  obtain ⟨v, hv1, hv⟩ := T
  refine go_startF (by decide +kernel) (Nat.le_of_ble_eq_true rfl) ?_
  refine go_iload_n dJ1_charAt_3b067_0 rfl ?_
  refine go_aload_o dJ1_charAt_3b067_1 rfl ?_
  refine go_lenO (v := nI (tl k)) dJ1_charAt_3b067_2 (tx_t hk hv) rfl ?_
  refine go_callS dJ1_charAt_3b067_3 csJ1_charAt_3b067_9 hc rfl rfl rfl rfl (fun r h' hq => ?_)
  obtain ⟨rfl, rfl⟩ := hq
  refine go_aload_o dJ1_charAt_3b067_6 rfl ?_
  refine go_iload_n dJ1_charAt_3b067_7 rfl ?_
  refine go_baldO dJ1_charAt_3b067_8 (tx_t hk hv) hi (by omega) ?_
  refine go_sipush (v := nI 255) dJ1_charAt_3b067_9 (by decide) ?_
  refine go_iand dJ1_charAt_3b067_12 ?_
  refine go_i2c dJ1_charAt_3b067_13 ?_
  obtain ⟨hb1, hb2⟩ := tx_b k hk i hi
  refine go_topI hb1 ?_
  refine go_zret dJ1_charAt_3b067_14 rfl rfl (pk_charN (by omega)).1 ?_
  exact ⟨rfl, rfl⟩
theorem cJ0_charAt_ok (T : TXT κ) {k i : Nat} (hk : k < 10) (hi : i < tl k) : Fh κ mJ0_charAt_5068e [.retAddr k, .int (nI i)] h (some (.int (nI (tc k i)))) := by
  have hN := tl_s k hk
  have hL := cJ0_isLatin1_ok (h := h) T hk
  have hc := cJ1_charAt_ok (h := h) T hk hi
  obtain ⟨v, hv1, hv⟩ := T
  obtain ⟨hb1, hb2⟩ := tx_b k hk i hi
  refine go_startF (by decide +kernel) (Nat.le_of_ble_eq_true rfl) ?_
  refine go_aload_o dJ0_charAt_5068e_0 rfl ?_
  refine go_callVO dJ0_charAt_5068e_1 cvJ0_charAt_5068e_492 hL rfl (tx_O hk hv) rfl rfl rfl (fun r h' hq => ?_)
  obtain ⟨rfl, rfl⟩ := hq
  refine go_if_eq 16 dJ0_charAt_5068e_4 (by decide) (fun z => absurd z (by decide)) (fun _ => ?_)
  refine go_aload_o dJ0_charAt_5068e_7 rfl ?_
  refine go_getO (v := .retAddr (100 + k)) dJ0_charAt_5068e_8 (tx_v hk hv) lkv ?_
  refine go_iload_n dJ0_charAt_5068e_11 rfl ?_
  refine go_callS dJ0_charAt_5068e_12 csJ0_charAt_5068e_495 hc rfl rfl rfl rfl (fun r h' hq => ?_)
  obtain ⟨rfl, rfl⟩ := hq
  refine go_zret dJ0_charAt_5068e_15 rfl rfl (pk_charN (by omega)).1 ?_
  exact ⟨rfl, rfl⟩
end GJ
