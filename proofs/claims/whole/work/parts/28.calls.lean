def rm100 (x : Int32) : Int32 := x - x / nI 100 * nI 100
def s_add (σ : wg_S) (n : Nat) (k t s d : Int32) : wg_S := s_seat (s_seat (s_seat (s_seat (s_open σ n k t d) n 3 (rm100 s)) n 2 (rm100 (s / nI 100))) n 1 (rm100 (s / nI 100 / nI 100))) n 0 (rm100 (s / nI 100 / nI 100 / nI 100))
def js (σ : wg_S) (n x y v : Nat) : wg_S := s_seat σ n v (σ 5 (x * 4 + v) + σ 5 (y * 4 + v))
def s_join (σ : wg_S) (n x y : Nat) : wg_S := js (js (js (js (s_open σ n (nI 5) (σ 3 x) (if σ 4 x < σ 4 y then σ 4 y else σ 4 x)) n x y 0) n x y 1) n x y 2) n x y 3
theorem cX0_add_ok (κ : gm_K) (b : Bool) (σ : wg_S) (n : Nat) (hn : n < 16) (hN : σ 1 0 = nI n) (k t s d : Int32) : Fn κ mX0_add [.ref 1, .int k, .int t, .int s, .int d] (gg b) σ (some (.int (nI n))) (gg b) (s_add σ n k t s d) := by
  refine go_start (by decide) (Nat.le_of_ble_eq_true rfl) ?_
  refine go_aload_n dX0_add_0 rfl ?_
  refine go_iload_n dX0_add_1 rfl ?_
  refine go_iload_n dX0_add_2 rfl ?_
  refine go_iload dX0_add_3 rfl ?_
  refine gs_callVi dX0_add_5 cvX0_add_57 (cX0_open_ok κ b σ n hn hN k t d) rfl (gg_1 b) rfl rfl rfl ⟨rfl, rfl⟩ rfl ?_
  refine go_istore (lv' := [_, _, _, _, _, _, _, _]) dX0_add_8 rfl rfl rfl ?_
  refine go_iload_n dX0_add_10 rfl ?_
  refine go_istore (lv' := [_, _, _, _, _, _, _, _]) dX0_add_11 rfl rfl rfl ?_
  refine go_iconst (v := nI 3) dX0_add_13 (by decide) ?_
  refine go_istore (lv' := [_, _, _, _, _, _, _, _]) dX0_add_14 rfl rfl rfl ?_
  refine go_iload dX0_add_16 rfl ?_
  refine go_if_lt 47 dX0_add_18 (by decide) (fun z => absurd z (by decide)) (fun _ => ?_)
  refine go_aload_n dX0_add_21 rfl ?_
  refine go_iload dX0_add_22 rfl ?_
  refine go_iload dX0_add_24 rfl ?_
  refine go_iload dX0_add_26 rfl ?_
  refine go_bipush (v := nI 100) dX0_add_28 (by decide) ?_
  refine go_irem dX0_add_30 (by decide) ?_
  refine gs_callVv dX0_add_31 cvX0_add_61 (cX0_seat_ok κ b _ n _ (by omega) (by decide) _) rfl (gg_1 b) rfl rfl rfl ⟨rfl, rfl⟩ rfl ?_
  refine go_iload dX0_add_34 rfl ?_
  refine go_bipush (v := nI 100) dX0_add_36 (by decide) ?_
  refine go_idiv dX0_add_38 (by decide) ?_
  refine go_istore (lv' := [_, _, _, _, _, _, _, _]) dX0_add_39 rfl rfl rfl ?_
  refine go_iinc (v := nI 2) (lv' := [_, _, _, _, _, _, _, _]) dX0_add_41 rfl (by decide) rfl rfl rfl ?_
  refine go_goto 16 dX0_add_44 (by decide) ?_
  refine go_iload dX0_add_16 rfl ?_
  refine go_if_lt 47 dX0_add_18 (by decide) (fun z => absurd z (by decide)) (fun _ => ?_)
  refine go_aload_n dX0_add_21 rfl ?_
  refine go_iload dX0_add_22 rfl ?_
  refine go_iload dX0_add_24 rfl ?_
  refine go_iload dX0_add_26 rfl ?_
  refine go_bipush (v := nI 100) dX0_add_28 (by decide) ?_
  refine go_irem dX0_add_30 (by decide) ?_
  refine gs_callVv dX0_add_31 cvX0_add_61 (cX0_seat_ok κ b _ n _ (by omega) (by decide) _) rfl (gg_1 b) rfl rfl rfl ⟨rfl, rfl⟩ rfl ?_
  refine go_iload dX0_add_34 rfl ?_
  refine go_bipush (v := nI 100) dX0_add_36 (by decide) ?_
  refine go_idiv dX0_add_38 (by decide) ?_
  refine go_istore (lv' := [_, _, _, _, _, _, _, _]) dX0_add_39 rfl rfl rfl ?_
  refine go_iinc (v := nI 1) (lv' := [_, _, _, _, _, _, _, _]) dX0_add_41 rfl (by decide) rfl rfl rfl ?_
  refine go_goto 16 dX0_add_44 (by decide) ?_
  refine go_iload dX0_add_16 rfl ?_
  refine go_if_lt 47 dX0_add_18 (by decide) (fun z => absurd z (by decide)) (fun _ => ?_)
  refine go_aload_n dX0_add_21 rfl ?_
  refine go_iload dX0_add_22 rfl ?_
  refine go_iload dX0_add_24 rfl ?_
  refine go_iload dX0_add_26 rfl ?_
  refine go_bipush (v := nI 100) dX0_add_28 (by decide) ?_
  refine go_irem dX0_add_30 (by decide) ?_
  refine gs_callVv dX0_add_31 cvX0_add_61 (cX0_seat_ok κ b _ n _ (by omega) (by decide) _) rfl (gg_1 b) rfl rfl rfl ⟨rfl, rfl⟩ rfl ?_
  refine go_iload dX0_add_34 rfl ?_
  refine go_bipush (v := nI 100) dX0_add_36 (by decide) ?_
  refine go_idiv dX0_add_38 (by decide) ?_
  refine go_istore (lv' := [_, _, _, _, _, _, _, _]) dX0_add_39 rfl rfl rfl ?_
  refine go_iinc (v := nI 0) (lv' := [_, _, _, _, _, _, _, _]) dX0_add_41 rfl (by decide) rfl rfl rfl ?_
  refine go_goto 16 dX0_add_44 (by decide) ?_
  refine go_iload dX0_add_16 rfl ?_
  refine go_if_lt 47 dX0_add_18 (by decide) (fun z => absurd z (by decide)) (fun _ => ?_)
  refine go_aload_n dX0_add_21 rfl ?_
  refine go_iload dX0_add_22 rfl ?_
  refine go_iload dX0_add_24 rfl ?_
  refine go_iload dX0_add_26 rfl ?_
  refine go_bipush (v := nI 100) dX0_add_28 (by decide) ?_
  refine go_irem dX0_add_30 (by decide) ?_
  refine gs_callVv dX0_add_31 cvX0_add_61 (cX0_seat_ok κ b _ n _ (by omega) (by decide) _) rfl (gg_1 b) rfl rfl rfl ⟨rfl, rfl⟩ rfl ?_
  refine go_iload dX0_add_34 rfl ?_
  refine go_bipush (v := nI 100) dX0_add_36 (by decide) ?_
  refine go_idiv dX0_add_38 (by decide) ?_
  refine go_istore (lv' := [_, _, _, _, _, _, _, _]) dX0_add_39 rfl rfl rfl ?_
  refine go_iinc (v := -1) (lv' := [_, _, _, _, _, _, _, _]) dX0_add_41 rfl (by decide) rfl rfl rfl ?_
  refine go_goto 16 dX0_add_44 (by decide) ?_
  refine go_iload dX0_add_16 rfl ?_
  refine go_if_lt 47 dX0_add_18 (by decide) (fun _ => ?_) (fun z => absurd z (by decide))
  refine go_iload dX0_add_47 rfl ?_
  refine go_iret dX0_add_49 rfl rfl ?_
  exact ⟨rfl, rfl⟩
theorem cX0_join_ok (κ : gm_K) (b : Bool) (σ : wg_S) (n : Nat) (hn : n < 16) (hN : σ 1 0 = nI n) (x y : Nat) (hx : x < 16) (hy : y < 16) : Fn κ mX0_join [.ref 1, .int (nI x), .int (nI y)] (gg b) σ (some (.int (nI n))) (gg b) (s_join σ n x y) := by
  refine go_start (by decide) (Nat.le_of_ble_eq_true rfl) ?_
  refine go_aload_n dX0_join_0 rfl ?_
  refine go_iconst (v := nI 5) dX0_join_1 (by decide) ?_
  refine go_aload_n dX0_join_2 rfl ?_
  refine gs_gr dX0_join_3 flX0_19 (gg_1 b) rfl ?_
  refine go_iload_n dX0_join_6 rfl ?_
  refine gs_iald (_) dX0_join_7 (gg_3 b) (rfl) (by omega) rfl (rfl) ?_
  refine go_aload_n dX0_join_8 rfl ?_
  refine gs_gr dX0_join_9 flX0_22 (gg_1 b) rfl ?_
  refine go_iload_n dX0_join_12 rfl ?_
  refine gs_iald (_) dX0_join_13 (gg_4 b) (rfl) (by omega) rfl (rfl) ?_
  refine go_aload_n dX0_join_14 rfl ?_
  refine gs_gr dX0_join_15 flX0_22 (gg_1 b) rfl ?_
  refine go_iload_n dX0_join_18 rfl ?_
  refine gs_iald (_) dX0_join_19 (gg_4 b) (rfl) (by omega) rfl (rfl) ?_
  refine gs_callSi dX0_join_20 csX0_join_65 (cJ9_max_ok κ b σ _ _) rfl rfl rfl ⟨rfl, rfl⟩ rfl ?_
  refine gs_callVi dX0_join_23 cvX0_join_57 (cX0_open_ok κ b σ n hn hN _ _ _) rfl (gg_1 b) rfl rfl rfl ⟨rfl, rfl⟩ rfl ?_
  refine go_istore_n (lv' := [_, _, _, _, _]) dX0_join_26 rfl rfl rfl ?_
  refine go_iconst (v := nI 0) dX0_join_27 (by decide) ?_
  refine go_istore (lv' := [_, _, _, _, _]) dX0_join_28 rfl rfl rfl ?_
  refine go_iload dX0_join_30 rfl ?_
  refine go_iconst (v := nI 4) dX0_join_32 (by decide) ?_
  refine go_icmp_ge 72 dX0_join_33 (by decide) (fun z => absurd z (by decide)) (fun _ => ?_)
  refine go_aload_n dX0_join_36 rfl ?_
  refine go_iload_n dX0_join_37 rfl ?_
  refine go_iload dX0_join_38 rfl ?_
  refine go_aload_n dX0_join_40 rfl ?_
  refine gs_gr dX0_join_41 flX0_25 (gg_1 b) rfl ?_
  refine go_iload_n dX0_join_44 rfl ?_
  refine go_iconst (v := nI 4) dX0_join_45 (by decide) ?_
  refine go_imulN dX0_join_46 ?_
  refine go_iload dX0_join_47 rfl ?_
  refine go_iaddN dX0_join_49 ?_
  refine gs_iald (_) dX0_join_50 (gg_5 b) (rfl) (by omega) rfl (rfl) ?_
  refine go_aload_n dX0_join_51 rfl ?_
  refine gs_gr dX0_join_52 flX0_25 (gg_1 b) rfl ?_
  refine go_iload_n dX0_join_55 rfl ?_
  refine go_iconst (v := nI 4) dX0_join_56 (by decide) ?_
  refine go_imulN dX0_join_57 ?_
  refine go_iload dX0_join_58 rfl ?_
  refine go_iaddN dX0_join_60 ?_
  refine gs_iald (_) dX0_join_61 (gg_5 b) (rfl) (by omega) rfl (rfl) ?_
  refine go_iadd dX0_join_62 ?_
  refine gs_callVv dX0_join_63 cvX0_join_61 (cX0_seat_ok κ b _ n _ (by omega) (by decide) _) rfl (gg_1 b) rfl rfl rfl ⟨rfl, rfl⟩ rfl ?_
  refine go_iinc (v := nI 1) (lv' := [_, _, _, _, _]) dX0_join_66 rfl (by decide) rfl rfl rfl ?_
  refine go_goto 30 dX0_join_69 (by decide) ?_
  refine go_iload dX0_join_30 rfl ?_
  refine go_iconst (v := nI 4) dX0_join_32 (by decide) ?_
  refine go_icmp_ge 72 dX0_join_33 (by decide) (fun z => absurd z (by decide)) (fun _ => ?_)
  refine go_aload_n dX0_join_36 rfl ?_
  refine go_iload_n dX0_join_37 rfl ?_
  refine go_iload dX0_join_38 rfl ?_
  refine go_aload_n dX0_join_40 rfl ?_
  refine gs_gr dX0_join_41 flX0_25 (gg_1 b) rfl ?_
  refine go_iload_n dX0_join_44 rfl ?_
  refine go_iconst (v := nI 4) dX0_join_45 (by decide) ?_
  refine go_imulN dX0_join_46 ?_
  refine go_iload dX0_join_47 rfl ?_
  refine go_iaddN dX0_join_49 ?_
  refine gs_iald (_) dX0_join_50 (gg_5 b) (rfl) (by omega) rfl (rfl) ?_
  refine go_aload_n dX0_join_51 rfl ?_
  refine gs_gr dX0_join_52 flX0_25 (gg_1 b) rfl ?_
  refine go_iload_n dX0_join_55 rfl ?_
  refine go_iconst (v := nI 4) dX0_join_56 (by decide) ?_
  refine go_imulN dX0_join_57 ?_
  refine go_iload dX0_join_58 rfl ?_
  refine go_iaddN dX0_join_60 ?_
  refine gs_iald (_) dX0_join_61 (gg_5 b) (rfl) (by omega) rfl (rfl) ?_
  refine go_iadd dX0_join_62 ?_
  refine gs_callVv dX0_join_63 cvX0_join_61 (cX0_seat_ok κ b _ n _ (by omega) (by decide) _) rfl (gg_1 b) rfl rfl rfl ⟨rfl, rfl⟩ rfl ?_
  refine go_iinc (v := nI 2) (lv' := [_, _, _, _, _]) dX0_join_66 rfl (by decide) rfl rfl rfl ?_
  refine go_goto 30 dX0_join_69 (by decide) ?_
  refine go_iload dX0_join_30 rfl ?_
  refine go_iconst (v := nI 4) dX0_join_32 (by decide) ?_
  refine go_icmp_ge 72 dX0_join_33 (by decide) (fun z => absurd z (by decide)) (fun _ => ?_)
  refine go_aload_n dX0_join_36 rfl ?_
  refine go_iload_n dX0_join_37 rfl ?_
  refine go_iload dX0_join_38 rfl ?_
  refine go_aload_n dX0_join_40 rfl ?_
  refine gs_gr dX0_join_41 flX0_25 (gg_1 b) rfl ?_
  refine go_iload_n dX0_join_44 rfl ?_
  refine go_iconst (v := nI 4) dX0_join_45 (by decide) ?_
  refine go_imulN dX0_join_46 ?_
  refine go_iload dX0_join_47 rfl ?_
  refine go_iaddN dX0_join_49 ?_
  refine gs_iald (_) dX0_join_50 (gg_5 b) (rfl) (by omega) rfl (rfl) ?_
  refine go_aload_n dX0_join_51 rfl ?_
  refine gs_gr dX0_join_52 flX0_25 (gg_1 b) rfl ?_
  refine go_iload_n dX0_join_55 rfl ?_
  refine go_iconst (v := nI 4) dX0_join_56 (by decide) ?_
  refine go_imulN dX0_join_57 ?_
  refine go_iload dX0_join_58 rfl ?_
  refine go_iaddN dX0_join_60 ?_
  refine gs_iald (_) dX0_join_61 (gg_5 b) (rfl) (by omega) rfl (rfl) ?_
  refine go_iadd dX0_join_62 ?_
  refine gs_callVv dX0_join_63 cvX0_join_61 (cX0_seat_ok κ b _ n _ (by omega) (by decide) _) rfl (gg_1 b) rfl rfl rfl ⟨rfl, rfl⟩ rfl ?_
  refine go_iinc (v := nI 3) (lv' := [_, _, _, _, _]) dX0_join_66 rfl (by decide) rfl rfl rfl ?_
  refine go_goto 30 dX0_join_69 (by decide) ?_
  refine go_iload dX0_join_30 rfl ?_
  refine go_iconst (v := nI 4) dX0_join_32 (by decide) ?_
  refine go_icmp_ge 72 dX0_join_33 (by decide) (fun z => absurd z (by decide)) (fun _ => ?_)
  refine go_aload_n dX0_join_36 rfl ?_
  refine go_iload_n dX0_join_37 rfl ?_
  refine go_iload dX0_join_38 rfl ?_
  refine go_aload_n dX0_join_40 rfl ?_
  refine gs_gr dX0_join_41 flX0_25 (gg_1 b) rfl ?_
  refine go_iload_n dX0_join_44 rfl ?_
  refine go_iconst (v := nI 4) dX0_join_45 (by decide) ?_
  refine go_imulN dX0_join_46 ?_
  refine go_iload dX0_join_47 rfl ?_
  refine go_iaddN dX0_join_49 ?_
  refine gs_iald (_) dX0_join_50 (gg_5 b) (rfl) (by omega) rfl (rfl) ?_
  refine go_aload_n dX0_join_51 rfl ?_
  refine gs_gr dX0_join_52 flX0_25 (gg_1 b) rfl ?_
  refine go_iload_n dX0_join_55 rfl ?_
  refine go_iconst (v := nI 4) dX0_join_56 (by decide) ?_
  refine go_imulN dX0_join_57 ?_
  refine go_iload dX0_join_58 rfl ?_
  refine go_iaddN dX0_join_60 ?_
  refine gs_iald (_) dX0_join_61 (gg_5 b) (rfl) (by omega) rfl (rfl) ?_
  refine go_iadd dX0_join_62 ?_
  refine gs_callVv dX0_join_63 cvX0_join_61 (cX0_seat_ok κ b _ n _ (by omega) (by decide) _) rfl (gg_1 b) rfl rfl rfl ⟨rfl, rfl⟩ rfl ?_
  refine go_iinc (v := nI 4) (lv' := [_, _, _, _, _]) dX0_join_66 rfl (by decide) rfl rfl rfl ?_
  refine go_goto 30 dX0_join_69 (by decide) ?_
  refine go_iload dX0_join_30 rfl ?_
  refine go_iconst (v := nI 4) dX0_join_32 (by decide) ?_
  refine go_icmp_ge 72 dX0_join_33 (by decide) (fun _ => ?_) (fun z => absurd z (by decide))
  refine go_iload_n dX0_join_72 rfl ?_
  refine go_iret dX0_join_73 rfl rfl ?_
  exact ⟨rfl, rfl⟩
def K_choir (σ : wg_S) (n : Nat) (k t s x : Int32) : Int32 × wg_S :=
  if hs (nI 8) t = false then (-1, σ) else if k = nI 5 ∧ (hs (σ 1 0) (x >>> (nI 4 &&& 31)) && hs (σ 1 0) (x &&& nI 15)) = false then (-1, σ)
  else if told σ k s x = false then (-2, σ) else if ¬ σ 1 0 < nI 16 then (-4, σ)
  else if k = nI 5 then (nI n, s_join σ n (x >>> (nI 4 &&& 31)).toNatClampNeg (x &&& nI 15).toNatClampNeg) else (nI n, s_add σ n k t s x)
theorem told_j {σ : wg_S} {s x : Int32} (h : told σ (nI 5) s x = true) : hs (σ 1 0) (x >>> (nI 4 &&& 31)) = true ∧ hs (σ 1 0) (x &&& nI 15) = true := by
  simp [told, cj] at h
  exact ⟨h.2.1.1.1.1, h.2.1.1.1.2⟩
theorem cX10_choir_ok (κ : gm_K) (b : Bool) (σ : wg_S) (n m j r : Nat) (C : CI σ n m j r) (k t s x : Int32) : Fn κ mX10_choir [.ref 0, .int k, .int t, .int s, .int x] (gg b) σ (some (.int ((K_choir σ n k t s x).1))) (gg b) (K_choir σ n k t s x).2 := by
  refine go_start (by decide) (Nat.le_of_ble_eq_true rfl) ?_
  obtain ⟨⟨hN, hn⟩, ⟨hM, hm⟩, ⟨hJ, hj⟩, ⟨hR, hr⟩, hT⟩ := id C
  refine go_iload_n dX10_choir_0 rfl ?_
  refine gs_callSi dX10_choir_1 csX10_choir_85 (cX10_isTown_ok κ b σ _) rfl rfl rfl ⟨rfl, rfl⟩ rfl ?_
  refine go_if_eqB 24 dX10_choir_4 (by decide) (fun c4 => ?_) (fun c4 => ?_)
  · have hA := c4
    refine go_iconst (v := -1) dX10_choir_24 (by decide) ?_
    refine go_iret dX10_choir_25 rfl rfl ?_
    rw [K_choir, if_pos hA]; exact ⟨rfl, rfl⟩
  · have hA : ¬ hs (nI 8) t = false := by simp [c4]
    refine go_iload_n dX10_choir_7 rfl ?_
    refine go_iconst (v := nI 5) dX10_choir_8 (by decide) ?_
    refine go_icmp_ne 26 dX10_choir_9 (by decide) (fun c9 => ?_) (fun c9 => ?_)
    · have hB : ¬ (k = nI 5 ∧ (hs (σ 1 0) (x >>> (nI 4 &&& 31)) && hs (σ 1 0) (x &&& nI 15)) = false) := fun z => c9 z.1
      refine go_aload_n dX10_choir_26 rfl ?_
      refine gs_gr dX10_choir_27 flX10_10 (gg_0 b) rfl ?_
      refine go_iload_n dX10_choir_30 rfl ?_
      refine go_iload_n dX10_choir_31 rfl ?_
      refine go_iload dX10_choir_32 rfl ?_
      refine gs_callVi dX10_choir_34 cvX10_choir_92 (cX0_isAsTold_ok κ b σ n hn hN _ _ _) rfl (gg_1 b) rfl rfl rfl ⟨rfl, rfl⟩ rfl ?_
      refine go_if_neB 43 dX10_choir_37 (by decide) (fun c37 => ?_) (fun c37 => ?_)
      · have hD : ¬ told σ k s x = false := by simp [c37]
        refine go_aload_n dX10_choir_43 rfl ?_
        refine gs_gr dX10_choir_44 flX10_10 (gg_0 b) rfl ?_
        refine gs_gi dX10_choir_47 flX10_96 (gg_1 b) rfl (rfl) ?_
        refine go_bipush (v := nI 16) dX10_choir_50 (by decide) ?_
        refine go_icmp_lt 58 dX10_choir_52 (by decide) (fun c52 => ?_) (fun c52 => ?_)
        · have hlt : n < 16 := by rw [hN] at c52; exact (nI_ltI (by omega) (by decide)).mp c52
          refine go_iload_n dX10_choir_58 rfl ?_
          refine go_iconst (v := nI 5) dX10_choir_59 (by decide) ?_
          refine go_icmp_ne 81 dX10_choir_60 (by decide) (fun c60 => ?_) (fun c60 => ?_)
          · refine go_aload_n dX10_choir_81 rfl ?_
            refine gs_gr dX10_choir_82 flX10_10 (gg_0 b) rfl ?_
            refine go_iload_n dX10_choir_85 rfl ?_
            refine go_iload_n dX10_choir_86 rfl ?_
            refine go_iload_n dX10_choir_87 rfl ?_
            refine go_iload dX10_choir_88 rfl ?_
            refine gs_callVi dX10_choir_90 cvX10_choir_110 (cX0_add_ok κ b σ n hlt hN _ _ _ _) rfl (gg_1 b) rfl rfl rfl ⟨rfl, rfl⟩ rfl ?_
            refine go_iret dX10_choir_93 rfl rfl ?_
            rw [K_choir, if_neg hA, if_neg hB, if_neg hD, if_neg (fun z => z c52), if_neg c60]
            exact ⟨rfl, rfl⟩
          · have ht := told_j (c60 ▸ c37)
            rw [hN] at ht
            obtain ⟨p, hp, ep⟩ := hs_ix (by omega) ht.1
            obtain ⟨q, hq, eq⟩ := hs_ix (by omega) ht.2
            have ep2 := nI_clamp (show p < 2 ^ 31 by omega)
            have eq2 := nI_clamp (show q < 2 ^ 31 by omega)
            refine go_aload_n dX10_choir_63 rfl ?_
            refine gs_gr dX10_choir_64 flX10_10 (gg_0 b) rfl ?_
            refine go_iload dX10_choir_67 rfl ?_
            refine gs_callSi dX10_choir_69 csX10_choir_99 (cX10_firstPart_ok κ b σ _) rfl rfl rfl ⟨rfl, rfl⟩ rfl ?_
            refine go_topI ep ?_
            refine go_iload dX10_choir_72 rfl ?_
            refine gs_callSi dX10_choir_74 csX10_choir_103 (cX10_secondPart_ok κ b σ _) rfl rfl rfl ⟨rfl, rfl⟩ rfl ?_
            refine go_topI eq ?_
            refine gs_callVi dX10_choir_77 cvX10_choir_106 (cX0_join_ok κ b σ n hlt hN p q (by omega) (by omega)) rfl (gg_1 b) rfl rfl rfl ⟨rfl, rfl⟩ rfl ?_
            refine go_iret dX10_choir_80 rfl rfl ?_
            rw [K_choir, if_neg hA, if_neg hB, if_neg hD, if_neg (fun z => z c52), if_pos c60, ep, eq, ep2, eq2]
            exact ⟨rfl, rfl⟩
        · refine go_bipush (v := -4) dX10_choir_55 (by decide) ?_
          refine go_iret dX10_choir_57 rfl rfl ?_
          rw [K_choir, if_neg hA, if_neg hB, if_neg hD, if_pos c52]
          exact ⟨rfl, rfl⟩
      · refine go_bipush (v := -2) dX10_choir_40 (by decide) ?_
        refine go_iret dX10_choir_42 rfl rfl ?_
        rw [K_choir, if_neg hA, if_neg hB, if_pos c37]
        exact ⟨rfl, rfl⟩
    · refine go_aload_n dX10_choir_12 rfl ?_
      refine gs_gr dX10_choir_13 flX10_10 (gg_0 b) rfl ?_
      refine go_iload dX10_choir_16 rfl ?_
      refine gs_callVi dX10_choir_18 cvX10_choir_89 (cX0_hasParts_ok κ b σ _) rfl (gg_1 b) rfl rfl rfl ⟨rfl, rfl⟩ rfl ?_
      refine go_if_neB 26 dX10_choir_21 (by decide) (fun c21 => ?_) (fun c21 => ?_)
      · have hB : ¬ (k = nI 5 ∧ (hs (σ 1 0) (x >>> (nI 4 &&& 31)) && hs (σ 1 0) (x &&& nI 15)) = false) := fun z => by rw [c21] at z; cases z.2
        refine go_aload_n dX10_choir_26 rfl ?_
        refine gs_gr dX10_choir_27 flX10_10 (gg_0 b) rfl ?_
        refine go_iload_n dX10_choir_30 rfl ?_
        refine go_iload_n dX10_choir_31 rfl ?_
        refine go_iload dX10_choir_32 rfl ?_
        refine gs_callVi dX10_choir_34 cvX10_choir_92 (cX0_isAsTold_ok κ b σ n hn hN _ _ _) rfl (gg_1 b) rfl rfl rfl ⟨rfl, rfl⟩ rfl ?_
        refine go_if_neB 43 dX10_choir_37 (by decide) (fun c37 => ?_) (fun c37 => ?_)
        · have hD : ¬ told σ k s x = false := by simp [c37]
          refine go_aload_n dX10_choir_43 rfl ?_
          refine gs_gr dX10_choir_44 flX10_10 (gg_0 b) rfl ?_
          refine gs_gi dX10_choir_47 flX10_96 (gg_1 b) rfl (rfl) ?_
          refine go_bipush (v := nI 16) dX10_choir_50 (by decide) ?_
          refine go_icmp_lt 58 dX10_choir_52 (by decide) (fun c52 => ?_) (fun c52 => ?_)
          · have hlt : n < 16 := by rw [hN] at c52; exact (nI_ltI (by omega) (by decide)).mp c52
            refine go_iload_n dX10_choir_58 rfl ?_
            refine go_iconst (v := nI 5) dX10_choir_59 (by decide) ?_
            refine go_icmp_ne 81 dX10_choir_60 (by decide) (fun c60 => ?_) (fun c60 => ?_)
            · refine go_aload_n dX10_choir_81 rfl ?_
              refine gs_gr dX10_choir_82 flX10_10 (gg_0 b) rfl ?_
              refine go_iload_n dX10_choir_85 rfl ?_
              refine go_iload_n dX10_choir_86 rfl ?_
              refine go_iload_n dX10_choir_87 rfl ?_
              refine go_iload dX10_choir_88 rfl ?_
              refine gs_callVi dX10_choir_90 cvX10_choir_110 (cX0_add_ok κ b σ n hlt hN _ _ _ _) rfl (gg_1 b) rfl rfl rfl ⟨rfl, rfl⟩ rfl ?_
              refine go_iret dX10_choir_93 rfl rfl ?_
              rw [K_choir, if_neg hA, if_neg hB, if_neg hD, if_neg (fun z => z c52), if_neg c60]
              exact ⟨rfl, rfl⟩
            · have ht := told_j (c60 ▸ c37)
              rw [hN] at ht
              obtain ⟨p, hp, ep⟩ := hs_ix (by omega) ht.1
              obtain ⟨q, hq, eq⟩ := hs_ix (by omega) ht.2
              have ep2 := nI_clamp (show p < 2 ^ 31 by omega)
              have eq2 := nI_clamp (show q < 2 ^ 31 by omega)
              refine go_aload_n dX10_choir_63 rfl ?_
              refine gs_gr dX10_choir_64 flX10_10 (gg_0 b) rfl ?_
              refine go_iload dX10_choir_67 rfl ?_
              refine gs_callSi dX10_choir_69 csX10_choir_99 (cX10_firstPart_ok κ b σ _) rfl rfl rfl ⟨rfl, rfl⟩ rfl ?_
              refine go_topI ep ?_
              refine go_iload dX10_choir_72 rfl ?_
              refine gs_callSi dX10_choir_74 csX10_choir_103 (cX10_secondPart_ok κ b σ _) rfl rfl rfl ⟨rfl, rfl⟩ rfl ?_
              refine go_topI eq ?_
              refine gs_callVi dX10_choir_77 cvX10_choir_106 (cX0_join_ok κ b σ n hlt hN p q (by omega) (by omega)) rfl (gg_1 b) rfl rfl rfl ⟨rfl, rfl⟩ rfl ?_
              refine go_iret dX10_choir_80 rfl rfl ?_
              rw [K_choir, if_neg hA, if_neg hB, if_neg hD, if_neg (fun z => z c52), if_pos c60, ep, eq, ep2, eq2]
              exact ⟨rfl, rfl⟩
          · refine go_bipush (v := -4) dX10_choir_55 (by decide) ?_
            refine go_iret dX10_choir_57 rfl rfl ?_
            rw [K_choir, if_neg hA, if_neg hB, if_neg hD, if_pos c52]
            exact ⟨rfl, rfl⟩
        · refine go_bipush (v := -2) dX10_choir_40 (by decide) ?_
          refine go_iret dX10_choir_42 rfl rfl ?_
          rw [K_choir, if_neg hA, if_neg hB, if_pos c37]
          exact ⟨rfl, rfl⟩
      · refine go_iconst (v := -1) dX10_choir_24 (by decide) ?_
        refine go_iret dX10_choir_25 rfl rfl ?_
        rw [K_choir, if_neg hA, if_pos ⟨c9, c21⟩]; exact ⟨rfl, rfl⟩
def K_day (σ : wg_S) (d : Int32) : Int32 × wg_S := if d < σ 0 10 then (-2, σ) else if d < nI 4 then (σ 0 10, us σ 0 10 d) else (-2, σ)
theorem cX10_day_ok (κ : gm_K) (b : Bool) (σ : wg_S) (d : Int32) : Fn κ mX10_day [.ref 0, .int d] (gg b) σ (some (.int ((K_day σ d).1))) (gg b) (K_day σ d).2 := by
  refine go_start (by decide) (Nat.le_of_ble_eq_true rfl) ?_
  refine go_iload_n dX10_day_0 rfl ?_
  refine go_aload_n dX10_day_1 rfl ?_
  refine gs_gi dX10_day_2 flX10_81 (gg_0 b) rfl (rfl) ?_
  refine go_icmp_lt 13 dX10_day_5 (by decide) (fun c5 => ?_) (fun c5 => ?_)
  · refine go_bipush (v := -2) dX10_day_13 (by decide) ?_
    refine go_iret dX10_day_15 rfl rfl ?_
    refine ⟨?_, ?_⟩ <;> simp +decide [c5, K_day]
  · refine go_iload_n dX10_day_8 rfl ?_
    refine go_iconst (v := nI 4) dX10_day_9 (by decide) ?_
    refine go_icmp_lt 16 dX10_day_10 (by decide) (fun c10 => ?_) (fun c10 => ?_)
    · refine go_aload_n dX10_day_16 rfl ?_
      refine gs_gi dX10_day_17 flX10_81 (gg_0 b) rfl (rfl) ?_
      refine go_istore_n (lv' := [_, _, _]) dX10_day_20 rfl rfl rfl ?_
      refine go_aload_n dX10_day_21 rfl ?_
      refine go_iload_n dX10_day_22 rfl ?_
      refine gs_pi dX10_day_23 flX10_81 (gg_0 b) rfl (fun q hq => by cases hq; exact ⟨rfl, rfl⟩) ?_
      refine go_iload_n dX10_day_26 rfl ?_
      refine go_iret dX10_day_27 rfl rfl ?_
      refine ⟨?_, ?_⟩ <;> simp +decide [c5, c10, K_day]
    · refine go_bipush (v := -2) dX10_day_13 (by decide) ?_
      refine go_iret dX10_day_15 rfl rfl ?_
      refine ⟨?_, ?_⟩ <;> simp +decide [c5, c10, K_day]
def K_song (σ : wg_S) (m : Nat) (k v h q : Int32) : Int32 × wg_S := if wi k (nI 1) (nI 63) = false then (-2, σ) else if wi v (nI 1) (nI 15) = false then (-2, σ) else if wi h (nI 0) (nI 9) = false then (-2, σ) else if wi q (nI 1) (nI 30) = false then (-2, σ) else if σ 9 0 < nI 9 then (nI m, s_song σ m k v h) else (-4, σ)
theorem cX10_song_ok (κ : gm_K) (b : Bool) (σ : wg_S) (n m j r : Nat) (C : CI σ n m j r) (k v h q : Int32) : Fn κ mX10_song [.ref 0, .int k, .int v, .int h, .int q] (gg b) σ (some (.int ((K_song σ m k v h q).1))) (gg b) (K_song σ m k v h q).2 := by
  refine go_start (by decide) (Nat.le_of_ble_eq_true rfl) ?_
  obtain ⟨⟨hN, hn⟩, ⟨hM, hm⟩, ⟨hJ, hj⟩, ⟨hR, hr⟩, hT⟩ := id C
  refine go_iload_n dX10_song_0 rfl ?_
  refine go_iconst (v := nI 1) dX10_song_1 (by decide) ?_
  refine go_bipush (v := nI 63) dX10_song_2 (by decide) ?_
  refine gs_callSi dX10_song_4 csX10_song_114 (cX10_isWithin_ok κ b σ _ _ _) rfl rfl rfl ⟨rfl, rfl⟩ rfl ?_
  refine go_if_eqB 41 dX10_song_7 (by decide) (fun c7 => ?_) (fun c7 => ?_)
  · refine go_bipush (v := -2) dX10_song_41 (by decide) ?_
    refine go_iret dX10_song_43 rfl rfl ?_
    refine ⟨?_, ?_⟩ <;> simp +decide [c7, K_song]
  · refine go_iload_n dX10_song_10 rfl ?_
    refine go_iconst (v := nI 1) dX10_song_11 (by decide) ?_
    refine go_bipush (v := nI 15) dX10_song_12 (by decide) ?_
    refine gs_callSi dX10_song_14 csX10_song_114 (cX10_isWithin_ok κ b σ _ _ _) rfl rfl rfl ⟨rfl, rfl⟩ rfl ?_
    refine go_if_eqB 41 dX10_song_17 (by decide) (fun c17 => ?_) (fun c17 => ?_)
    · refine go_bipush (v := -2) dX10_song_41 (by decide) ?_
      refine go_iret dX10_song_43 rfl rfl ?_
      refine ⟨?_, ?_⟩ <;> simp +decide [c7, c17, K_song]
    · refine go_iload_n dX10_song_20 rfl ?_
      refine go_iconst (v := nI 0) dX10_song_21 (by decide) ?_
      refine go_bipush (v := nI 9) dX10_song_22 (by decide) ?_
      refine gs_callSi dX10_song_24 csX10_song_114 (cX10_isWithin_ok κ b σ _ _ _) rfl rfl rfl ⟨rfl, rfl⟩ rfl ?_
      refine go_if_eqB 41 dX10_song_27 (by decide) (fun c27 => ?_) (fun c27 => ?_)
      · refine go_bipush (v := -2) dX10_song_41 (by decide) ?_
        refine go_iret dX10_song_43 rfl rfl ?_
        refine ⟨?_, ?_⟩ <;> simp +decide [c7, c17, c27, K_song]
      · refine go_iload dX10_song_30 rfl ?_
        refine go_iconst (v := nI 1) dX10_song_32 (by decide) ?_
        refine go_bipush (v := nI 30) dX10_song_33 (by decide) ?_
        refine gs_callSi dX10_song_35 csX10_song_114 (cX10_isWithin_ok κ b σ _ _ _) rfl rfl rfl ⟨rfl, rfl⟩ rfl ?_
        refine go_if_neB 44 dX10_song_38 (by decide) (fun c38 => ?_) (fun c38 => ?_)
        · refine go_aload_n dX10_song_44 rfl ?_
          refine gs_gr dX10_song_45 flX10_19 (gg_0 b) rfl ?_
          refine gs_gi dX10_song_48 flX10_117 (gg_9 b) rfl (rfl) ?_
          refine go_bipush (v := nI 9) dX10_song_51 (by decide) ?_
          refine go_icmp_lt 59 dX10_song_53 (by decide) (fun c53 => ?_) (fun c53 => ?_)
          · have hlt : m < 9 := by rw [hM] at c53; exact (nI_ltI (by omega) (by decide)).mp c53
            refine go_aload_n dX10_song_59 rfl ?_
            refine gs_gr dX10_song_60 flX10_19 (gg_0 b) rfl ?_
            refine go_iload_n dX10_song_63 rfl ?_
            refine go_iload_n dX10_song_64 rfl ?_
            refine go_iload_n dX10_song_65 rfl ?_
            refine gs_callVi dX10_song_66 cvX10_song_118 (cX7_add_ok κ b σ m hlt hM _ _ _) rfl (gg_9 b) rfl rfl rfl ⟨rfl, rfl⟩ rfl ?_
            refine go_iret dX10_song_69 rfl rfl ?_
            refine ⟨?_, ?_⟩ <;> simp +decide [c7, c17, c27, c38, c53, K_song]
          · refine go_bipush (v := -4) dX10_song_56 (by decide) ?_
            refine go_iret dX10_song_58 rfl rfl ?_
            refine ⟨?_, ?_⟩ <;> simp +decide [c7, c17, c27, c38, c53, K_song]
        · refine go_bipush (v := -2) dX10_song_41 (by decide) ?_
          refine go_iret dX10_song_43 rfl rfl ?_
          refine ⟨?_, ?_⟩ <;> simp +decide [c7, c17, c27, c38, K_song]
def K_judge (σ : wg_S) (j : Nat) (t : Int32) : Int32 × wg_S := if hs (nI 8) t = false then (-1, σ) else if σ 14 0 < nI 6 then (nI j, s_judge σ j t) else (-4, σ)
theorem cX10_judge_ok (κ : gm_K) (b : Bool) (σ : wg_S) (n m j r : Nat) (C : CI σ n m j r) (t : Int32) : Fn κ mX10_judge [.ref 0, .int t] (gg b) σ (some (.int ((K_judge σ j t).1))) (gg b) (K_judge σ j t).2 := by
  refine go_start (by decide) (Nat.le_of_ble_eq_true rfl) ?_
  obtain ⟨⟨hN, hn⟩, ⟨hM, hm⟩, ⟨hJ, hj⟩, ⟨hR, hr⟩, hT⟩ := id C
  refine go_iload_n dX10_judge_0 rfl ?_
  refine gs_callSi dX10_judge_1 csX10_judge_85 (cX10_isTown_ok κ b σ _) rfl rfl rfl ⟨rfl, rfl⟩ rfl ?_
  refine go_if_neB 9 dX10_judge_4 (by decide) (fun c4 => ?_) (fun c4 => ?_)
  · refine go_aload_n dX10_judge_9 rfl ?_
    refine gs_gr dX10_judge_10 flX10_26 (gg_0 b) rfl ?_
    refine gs_gi dX10_judge_13 flX10_121 (gg_14 b) rfl (rfl) ?_
    refine go_bipush (v := nI 6) dX10_judge_16 (by decide) ?_
    refine go_icmp_lt 24 dX10_judge_18 (by decide) (fun c18 => ?_) (fun c18 => ?_)
    · have hlt : j < 6 := by rw [hJ] at c18; exact (nI_ltI (by omega) (by decide)).mp c18
      refine go_aload_n dX10_judge_24 rfl ?_
      refine gs_gr dX10_judge_25 flX10_26 (gg_0 b) rfl ?_
      refine go_iload_n dX10_judge_28 rfl ?_
      refine gs_callVi dX10_judge_29 cvX10_judge_122 (cX2_add_ok κ b σ j hlt hJ _) rfl (gg_14 b) rfl rfl rfl ⟨rfl, rfl⟩ rfl ?_
      refine go_iret dX10_judge_32 rfl rfl ?_
      refine ⟨?_, ?_⟩ <;> simp +decide [c4, c18, K_judge]
    · refine go_bipush (v := -4) dX10_judge_21 (by decide) ?_
      refine go_iret dX10_judge_23 rfl rfl ?_
      refine ⟨?_, ?_⟩ <;> simp +decide [c4, c18, K_judge]
  · refine go_iconst (v := -1) dX10_judge_7 (by decide) ?_
    refine go_iret dX10_judge_8 rfl rfl ?_
    refine ⟨?_, ?_⟩ <;> simp +decide [c4, K_judge]
def K_mark (σ : wg_S) (q c v : Int32) : Int32 × wg_S := if hs (σ 14 0) q = false then (-5, σ) else if hs (σ 1 0) c = false then (-5, σ) else if wi v (nI 0) (nI 100) = false then (-2, σ) else if σ 15 q.toNatClampNeg = σ 3 c.toNatClampNeg then (-3, σ) else (σ 16 (q.toNatClampNeg * 16 + c.toNatClampNeg), us σ 16 (q.toNatClampNeg * 16 + c.toNatClampNeg) v)
theorem cX10_mark_ok (κ : gm_K) (b : Bool) (σ : wg_S) (n m j r : Nat) (C : CI σ n m j r) (q c v : Int32) : Fn κ mX10_mark [.ref 0, .int q, .int c, .int v] (gg b) σ (some (.int ((K_mark σ q c v).1))) (gg b) (K_mark σ q c v).2 := by
  refine go_start (by decide) (Nat.le_of_ble_eq_true rfl) ?_
  obtain ⟨⟨hN, hn⟩, ⟨hM, hm⟩, ⟨hJ, hj⟩, ⟨hR, hr⟩, hT⟩ := id C
  refine go_aload_n dX10_mark_0 rfl ?_
  refine gs_gr dX10_mark_1 flX10_26 (gg_0 b) rfl ?_
  refine go_iload_n dX10_mark_4 rfl ?_
  refine gs_callVi dX10_mark_5 cvX10_mark_124 (cX2_has_ok κ b σ _) rfl (gg_14 b) rfl rfl rfl ⟨rfl, rfl⟩ rfl ?_
  refine go_if_eqB 22 dX10_mark_8 (by decide) (fun c8 => ?_) (fun c8 => ?_)
  · refine go_bipush (v := -5) dX10_mark_22 (by decide) ?_
    refine go_iret dX10_mark_24 rfl rfl ?_
    refine ⟨?_, ?_⟩ <;> simp +decide [c8, K_mark]
  · obtain ⟨y, hy, rfl⟩ := hs_ix (by omega) (hJ ▸ c8)
    have ey := nI_clamp (show y < 2 ^ 31 by omega)
    refine go_aload_n dX10_mark_11 rfl ?_
    refine gs_gr dX10_mark_12 flX10_10 (gg_0 b) rfl ?_
    refine go_iload_n dX10_mark_15 rfl ?_
    refine gs_callVi dX10_mark_16 cvX10_mark_127 (cX0_has_ok κ b σ _) rfl (gg_1 b) rfl rfl rfl ⟨rfl, rfl⟩ rfl ?_
    refine go_if_neB 25 dX10_mark_19 (by decide) (fun c19 => ?_) (fun c19 => ?_)
    · obtain ⟨x, hx, rfl⟩ := hs_ix (by omega) (hN ▸ c19)
      have ex := nI_clamp (show x < 2 ^ 31 by omega)
      refine go_iload_n dX10_mark_25 rfl ?_
      refine go_iconst (v := nI 0) dX10_mark_26 (by decide) ?_
      refine go_bipush (v := nI 100) dX10_mark_27 (by decide) ?_
      refine gs_callSi dX10_mark_29 csX10_mark_114 (cX10_isWithin_ok κ b σ _ _ _) rfl rfl rfl ⟨rfl, rfl⟩ rfl ?_
      refine go_if_neB 38 dX10_mark_32 (by decide) (fun c32 => ?_) (fun c32 => ?_)
      · refine go_aload_n dX10_mark_38 rfl ?_
        refine gs_gr dX10_mark_39 flX10_26 (gg_0 b) rfl ?_
        refine gs_gr dX10_mark_42 flX10_128 (gg_14 b) rfl ?_
        refine go_iload_n dX10_mark_45 rfl ?_
        refine gs_iald (_) dX10_mark_46 (gg_15 b) (rfl) (by omega) rfl (rfl) ?_
        refine go_aload_n dX10_mark_47 rfl ?_
        refine gs_gr dX10_mark_48 flX10_10 (gg_0 b) rfl ?_
        refine gs_gr dX10_mark_51 flX10_132 (gg_1 b) rfl ?_
        refine go_iload_n dX10_mark_54 rfl ?_
        refine gs_iald (_) dX10_mark_55 (gg_3 b) (rfl) (by omega) rfl (rfl) ?_
        refine go_icmp_ne 62 dX10_mark_56 (by decide) (fun c56 => ?_) (fun c56 => ?_)
        · refine go_aload_n dX10_mark_62 rfl ?_
          refine gs_gr dX10_mark_63 flX10_26 (gg_0 b) rfl ?_
          refine go_iload_n dX10_mark_66 rfl ?_
          refine go_iload_n dX10_mark_67 rfl ?_
          refine go_iload_n dX10_mark_68 rfl ?_
          refine gs_callVi dX10_mark_69 cvX10_mark_133 (cX2_give_ok κ b σ y x (by omega) (by omega) _) rfl (gg_14 b) rfl rfl rfl ⟨rfl, rfl⟩ rfl ?_
          refine go_iret dX10_mark_72 rfl rfl ?_
          refine ⟨?_, ?_⟩ <;> simp +decide [c8, ey, c19, ex, c32, c56, K_mark]
        · refine go_bipush (v := -3) dX10_mark_59 (by decide) ?_
          refine go_iret dX10_mark_61 rfl rfl ?_
          refine ⟨?_, ?_⟩ <;> simp +decide [c8, ey, c19, ex, c32, c56, K_mark]
      · refine go_bipush (v := -2) dX10_mark_35 (by decide) ?_
        refine go_iret dX10_mark_37 rfl rfl ?_
        refine ⟨?_, ?_⟩ <;> simp +decide [c8, ey, c19, ex, c32, K_mark]
    · refine go_bipush (v := -5) dX10_mark_22 (by decide) ?_
      refine go_iret dX10_mark_24 rfl rfl ?_
      refine ⟨?_, ?_⟩ <;> simp +decide [c8, ey, c19, K_mark]
def K_mean (σ : wg_S) (j : Nat) (c : Int32) : Int32 := if hs (σ 1 0) c = false then -1 else mnc σ j c.toNatClampNeg
theorem cX10_mean_ok (κ : gm_K) (b : Bool) (σ : wg_S) (n m j r : Nat) (C : CI σ n m j r) (c : Int32) : Fn κ mX10_mean [.ref 0, .int c] (gg b) σ (some (.int (K_mean σ j c))) (gg b) σ := by
  refine go_start (by decide) (Nat.le_of_ble_eq_true rfl) ?_
  obtain ⟨⟨hN, hn⟩, ⟨hM, hm⟩, ⟨hJ, hj⟩, ⟨hR, hr⟩, hT⟩ := id C
  refine go_aload_n dX10_mean_0 rfl ?_
  refine gs_gr dX10_mean_1 flX10_10 (gg_0 b) rfl ?_
  refine go_iload_n dX10_mean_4 rfl ?_
  refine gs_callVi dX10_mean_5 cvX10_mean_127 (cX0_has_ok κ b σ _) rfl (gg_1 b) rfl rfl rfl ⟨rfl, rfl⟩ rfl ?_
  refine go_if_eqB 22 dX10_mean_8 (by decide) (fun c8 => ?_) (fun c8 => ?_)
  · refine go_iconst (v := -1) dX10_mean_22 (by decide) ?_
    refine go_iret dX10_mean_23 rfl rfl ?_
    exact ⟨by simp +decide [c8, K_mean]; try rfl, rfl⟩
  · obtain ⟨x, hx, rfl⟩ := hs_ix (by omega) (hN ▸ c8)
    have ex := nI_clamp (show x < 2 ^ 31 by omega)
    refine go_aload_n dX10_mean_11 rfl ?_
    refine gs_gr dX10_mean_12 flX10_26 (gg_0 b) rfl ?_
    refine go_iload_n dX10_mean_15 rfl ?_
    refine gs_callVi dX10_mean_16 cvX10_mean_136 (cX2_meanOf_ok κ b σ j hj hJ x (by omega)) rfl (gg_14 b) rfl rfl rfl ⟨rfl, rfl⟩ rfl ?_
    refine go_goto 23 dX10_mean_19 (by decide) ?_
    refine go_iret dX10_mean_23 rfl rfl ?_
    exact ⟨by simp +decide [c8, ex, K_mean]; try rfl, rfl⟩
def K_scale (σ : wg_S) (p q : Int32) : Int32 := if hs (σ 14 0) p = false then -200 else if hs (σ 14 0) q = false then -200 else if p = q then -200 else scv (fun c => σ 16 (p.toNatClampNeg * 16 + c)) (fun c => σ 16 (q.toNatClampNeg * 16 + c)) 16
theorem cX10_scale_ok (κ : gm_K) (b : Bool) (σ : wg_S) (n m j r : Nat) (C : CI σ n m j r) (p q : Int32) : Fn κ mX10_scale [.ref 0, .int p, .int q] (gg b) σ (some (.int (K_scale σ p q))) (gg b) σ := by
  refine go_start (by decide) (Nat.le_of_ble_eq_true rfl) ?_
  obtain ⟨⟨hN, hn⟩, ⟨hM, hm⟩, ⟨hJ, hj⟩, ⟨hR, hr⟩, hT⟩ := id C
  refine go_aload_n dX10_scale_0 rfl ?_
  refine gs_gr dX10_scale_1 flX10_26 (gg_0 b) rfl ?_
  refine go_iload_n dX10_scale_4 rfl ?_
  refine gs_callVi dX10_scale_5 cvX10_scale_124 (cX2_has_ok κ b σ _) rfl (gg_14 b) rfl rfl rfl ⟨rfl, rfl⟩ rfl ?_
  refine go_if_eqB 27 dX10_scale_8 (by decide) (fun c8 => ?_) (fun c8 => ?_)
  · refine go_sipush (v := -200) dX10_scale_27 (by decide) ?_
    refine go_iret dX10_scale_30 rfl rfl ?_
    exact ⟨by simp +decide [c8, K_scale], rfl⟩
  · refine go_aload_n dX10_scale_11 rfl ?_
    refine gs_gr dX10_scale_12 flX10_26 (gg_0 b) rfl ?_
    refine go_iload_n dX10_scale_15 rfl ?_
    refine gs_callVi dX10_scale_16 cvX10_scale_124 (cX2_has_ok κ b σ _) rfl (gg_14 b) rfl rfl rfl ⟨rfl, rfl⟩ rfl ?_
    refine go_if_eqB 27 dX10_scale_19 (by decide) (fun c19 => ?_) (fun c19 => ?_)
    · refine go_sipush (v := -200) dX10_scale_27 (by decide) ?_
      refine go_iret dX10_scale_30 rfl rfl ?_
      exact ⟨by simp +decide [c8, c19, K_scale], rfl⟩
    · refine go_iload_n dX10_scale_22 rfl ?_
      refine go_iload_n dX10_scale_23 rfl ?_
      refine go_icmp_ne 31 dX10_scale_24 (by decide) (fun c24 => ?_) (fun c24 => ?_)
      · obtain ⟨x, hx, rfl⟩ := hs_ix (by omega) (hJ ▸ c8)
        obtain ⟨y, hy, rfl⟩ := hs_ix (by omega) (hJ ▸ c19)
        have ex := nI_clamp (show x < 2 ^ 31 by omega)
        have ey := nI_clamp (show y < 2 ^ 31 by omega)
        refine go_aload_n dX10_scale_31 rfl ?_
        refine gs_gr dX10_scale_32 flX10_26 (gg_0 b) rfl ?_
        refine go_iload_n dX10_scale_35 rfl ?_
        refine go_iload_n dX10_scale_36 rfl ?_
        refine gs_callVi dX10_scale_37 cvX10_scale_139 (cX2_scaleOf_ok κ b σ x y (by omega) (by omega)) rfl (gg_14 b) rfl rfl rfl ⟨rfl, rfl⟩ rfl ?_
        refine go_iret dX10_scale_40 rfl rfl ?_
        exact ⟨by simp +decide [c8, c19, c24, ex, ey, K_scale], rfl⟩
      · refine go_sipush (v := -200) dX10_scale_27 (by decide) ?_
        refine go_iret dX10_scale_30 rfl rfl ?_
        exact ⟨by simp +decide [c8, c19, c24, K_scale], rfl⟩
def K_about (σ : wg_S) (c w : Int32) : Int32 := if hs (σ 1 0) c = false then -1 else
  if w = nI 0 then σ 2 c.toNatClampNeg else if w = nI 1 then σ 3 c.toNatClampNeg else if w = nI 2 then σ 6 c.toNatClampNeg
  else if w = nI 3 then bi (there σ c.toNatClampNeg) else if w = nI 4 then σ 7 c.toNatClampNeg else if w = nI 5 then σ 45 c.toNatClampNeg
  else if w = nI 6 then σ 30 c.toNatClampNeg else if w = nI 7 then σ 31 c.toNatClampNeg else if w = nI 8 then σ 8 c.toNatClampNeg else -1
theorem cX10_about_ok (κ : gm_K) (b : Bool) (σ : wg_S) (n m j r : Nat) (C : CI σ n m j r) (c w : Int32) : Fn κ mX10_about [.ref 0, .int c, .int w] (gg b) σ (some (.int (K_about σ c w))) (gg b) σ := by
  refine go_start (by decide) (Nat.le_of_ble_eq_true rfl) ?_
  obtain ⟨⟨hN, hn⟩, ⟨hM, hm⟩, ⟨hJ, hj⟩, ⟨hR, hr⟩, hT⟩ := id C
  refine go_aload_n dX10_about_0 rfl ?_
  refine gs_gr dX10_about_1 flX10_10 (gg_0 b) rfl ?_
  refine go_iload_n dX10_about_4 rfl ?_
  refine gs_callVi dX10_about_5 cvX10_about_127 (cX0_has_ok κ b σ _) rfl (gg_1 b) rfl rfl rfl ⟨rfl, rfl⟩ rfl ?_
  refine go_if_neB 13 dX10_about_8 (by decide) (fun c8 => ?_) (fun c8 => ?_)
  · obtain ⟨x, hx, rfl⟩ := hs_ix (by omega) (hN ▸ c8)
    have ex := nI_clamp (show x < 2 ^ 31 by omega)
    refine go_iload_n dX10_about_13 rfl ?_
    refine go_tsw 8 [64, 74, 84, 94, 108, 118, 128, 138, 148] 158 dX10_about_14 (by decide) (by decide) (fun c14 => ?_) (fun k hk c14 => ?_)
    · refine go_iconst (v := -1) dX10_about_158 (by decide) ?_
      refine go_iret dX10_about_159 rfl rfl ?_
      exact ⟨by simp [K_about, c8, c14 0 (by decide), c14 1 (by decide), c14 2 (by decide), c14 3 (by decide), c14 4 (by decide), c14 5 (by decide), c14 6 (by decide), c14 7 (by decide), c14 8 (by decide)], rfl⟩
    · match k, hk, c14 with
      | 0, _, c14 =>
        show Go κ mX10_about 64 _ _ _ _ _
        refine go_aload_n dX10_about_64 rfl ?_
        refine gs_gr dX10_about_65 flX10_10 (gg_0 b) rfl ?_
        refine gs_gr dX10_about_68 flX10_142 (gg_1 b) rfl ?_
        refine go_iload_n dX10_about_71 rfl ?_
        refine gs_iald (_) dX10_about_72 (gg_2 b) (rfl) (by omega) rfl (rfl) ?_
        refine go_iret dX10_about_73 rfl rfl ?_
        exact ⟨by simp +decide [c8, ex, c14, K_about, bi], rfl⟩
      | 1, _, c14 =>
        show Go κ mX10_about 74 _ _ _ _ _
        refine go_aload_n dX10_about_74 rfl ?_
        refine gs_gr dX10_about_75 flX10_10 (gg_0 b) rfl ?_
        refine gs_gr dX10_about_78 flX10_132 (gg_1 b) rfl ?_
        refine go_iload_n dX10_about_81 rfl ?_
        refine gs_iald (_) dX10_about_82 (gg_3 b) (rfl) (by omega) rfl (rfl) ?_
        refine go_iret dX10_about_83 rfl rfl ?_
        exact ⟨by simp +decide [c8, ex, c14, K_about, bi], rfl⟩
      | 2, _, c14 =>
        show Go κ mX10_about 84 _ _ _ _ _
        refine go_aload_n dX10_about_84 rfl ?_
        refine gs_gr dX10_about_85 flX10_10 (gg_0 b) rfl ?_
        refine gs_gr dX10_about_88 flX10_145 (gg_1 b) rfl ?_
        refine go_iload_n dX10_about_91 rfl ?_
        refine gs_iald (_) dX10_about_92 (gg_6 b) (rfl) (by omega) rfl (rfl) ?_
        refine go_iret dX10_about_93 rfl rfl ?_
        exact ⟨by simp +decide [c8, ex, c14, K_about, bi], rfl⟩
      | 3, _, c14 =>
        show Go κ mX10_about 94 _ _ _ _ _
        refine go_aload_n dX10_about_94 rfl ?_
        refine go_iload_n dX10_about_95 rfl ?_
        refine gs_callVi dX10_about_96 cvX10_about_148 (cX10_isThere_ok κ b σ x (by omega)) rfl (gg_0 b) rfl rfl rfl ⟨rfl, rfl⟩ rfl ?_
        refine go_if_eqB 106 dX10_about_99 (by decide) (fun c99 => ?_) (fun c99 => ?_)
        · refine go_iconst (v := nI 0) dX10_about_106 (by decide) ?_
          refine go_iret dX10_about_107 rfl rfl ?_
          exact ⟨by simp +decide [c8, ex, c14, c99, K_about, bi], rfl⟩
        · refine go_iconst (v := nI 1) dX10_about_102 (by decide) ?_
          refine go_goto 107 dX10_about_103 (by decide) ?_
          refine go_iret dX10_about_107 rfl rfl ?_
          exact ⟨by simp +decide [c8, ex, c14, c99, K_about, bi], rfl⟩
      | 4, _, c14 =>
        show Go κ mX10_about 108 _ _ _ _ _
        refine go_aload_n dX10_about_108 rfl ?_
        refine gs_gr dX10_about_109 flX10_10 (gg_0 b) rfl ?_
        refine gs_gr dX10_about_112 flX10_151 (gg_1 b) rfl ?_
        refine go_iload_n dX10_about_115 rfl ?_
        refine gs_iald (_) dX10_about_116 (gg_7 b) (rfl) (by omega) rfl (rfl) ?_
        refine go_iret dX10_about_117 rfl rfl ?_
        exact ⟨by simp +decide [c8, ex, c14, K_about, bi], rfl⟩
      | 5, _, c14 =>
        show Go κ mX10_about 118 _ _ _ _ _
        refine go_aload_n dX10_about_118 rfl ?_
        refine gs_gr dX10_about_119 flX10_70 (gg_0 b) rfl ?_
        refine gs_gr dX10_about_122 flX10_154 (gg_43 b) rfl ?_
        refine go_iload_n dX10_about_125 rfl ?_
        refine gs_iald (_) dX10_about_126 (gg_45 b) (rfl) (by omega) rfl (rfl) ?_
        refine go_iret dX10_about_127 rfl rfl ?_
        exact ⟨by simp +decide [c8, ex, c14, K_about, bi], rfl⟩
      | 6, _, c14 =>
        show Go κ mX10_about 128 _ _ _ _ _
        refine go_aload_n dX10_about_128 rfl ?_
        refine gs_gr dX10_about_129 flX10_49 (gg_0 b) rfl ?_
        refine gs_gr dX10_about_132 flX10_157 (gg_29 b) rfl ?_
        refine go_iload_n dX10_about_135 rfl ?_
        refine gs_iald (_) dX10_about_136 (gg_30 b) (rfl) (by omega) rfl (rfl) ?_
        refine go_iret dX10_about_137 rfl rfl ?_
        exact ⟨by simp +decide [c8, ex, c14, K_about, bi], rfl⟩
      | 7, _, c14 =>
        show Go κ mX10_about 138 _ _ _ _ _
        refine go_aload_n dX10_about_138 rfl ?_
        refine gs_gr dX10_about_139 flX10_49 (gg_0 b) rfl ?_
        refine gs_gr dX10_about_142 flX10_160 (gg_29 b) rfl ?_
        refine go_iload_n dX10_about_145 rfl ?_
        refine gs_iald (_) dX10_about_146 (gg_31 b) (rfl) (by omega) rfl (rfl) ?_
        refine go_iret dX10_about_147 rfl rfl ?_
        exact ⟨by simp +decide [c8, ex, c14, K_about, bi], rfl⟩
      | 8, _, c14 =>
        show Go κ mX10_about 148 _ _ _ _ _
        refine go_aload_n dX10_about_148 rfl ?_
        refine gs_gr dX10_about_149 flX10_10 (gg_0 b) rfl ?_
        refine gs_gr dX10_about_152 flX10_163 (gg_1 b) rfl ?_
        refine go_iload_n dX10_about_155 rfl ?_
        refine gs_iald (_) dX10_about_156 (gg_8 b) (rfl) (by omega) rfl (rfl) ?_
        refine go_iret dX10_about_157 rfl rfl ?_
        exact ⟨by simp +decide [c8, ex, c14, K_about, bi], rfl⟩
      | k + 9, hk, _ => exact absurd hk (by omega)
  · refine go_iconst (v := -1) dX10_about_11 (by decide) ?_
    refine go_iret dX10_about_12 rfl rfl ?_
    exact ⟨by simp +decide [c8, K_about, bi], rfl⟩
def K_voice (σ : wg_S) (c v : Int32) : Int32 := if hs (σ 1 0) c = false then -1 else if v < 0 then -1 else if v < nI 4 then σ 5 (c.toNatClampNeg * 4 + v.toNatClampNeg) else -1
theorem cX10_voice_ok (κ : gm_K) (b : Bool) (σ : wg_S) (n m j r : Nat) (C : CI σ n m j r) (c v : Int32) : Fn κ mX10_voice [.ref 0, .int c, .int v] (gg b) σ (some (.int (K_voice σ c v))) (gg b) σ := by
  refine go_start (by decide) (Nat.le_of_ble_eq_true rfl) ?_
  obtain ⟨⟨hN, hn⟩, ⟨hM, hm⟩, ⟨hJ, hj⟩, ⟨hR, hr⟩, hT⟩ := id C
  refine go_aload_n dX10_voice_0 rfl ?_
  refine gs_gr dX10_voice_1 flX10_10 (gg_0 b) rfl ?_
  refine go_iload_n dX10_voice_4 rfl ?_
  refine gs_callVi dX10_voice_5 cvX10_voice_127 (cX0_has_ok κ b σ _) rfl (gg_1 b) rfl rfl rfl ⟨rfl, rfl⟩ rfl ?_
  refine go_if_eqB 20 dX10_voice_8 (by decide) (fun c8 => ?_) (fun c8 => ?_)
  · refine go_iconst (v := -1) dX10_voice_20 (by decide) ?_
    refine go_iret dX10_voice_21 rfl rfl ?_
    exact ⟨by simp +decide [c8, K_voice], rfl⟩
  · obtain ⟨x, hx, rfl⟩ := hs_ix (by omega) (hN ▸ c8)
    have ex := nI_clamp (show x < 2 ^ 31 by omega)
    refine go_iload_n dX10_voice_11 rfl ?_
    refine go_if_lt 20 dX10_voice_12 (by decide) (fun c12 => ?_) (fun c12 => ?_)
    · refine go_iconst (v := -1) dX10_voice_20 (by decide) ?_
      refine go_iret dX10_voice_21 rfl rfl ?_
      exact ⟨by simp +decide [c8, ex, c12, K_voice], rfl⟩
    · refine go_iload_n dX10_voice_15 rfl ?_
      refine go_iconst (v := nI 4) dX10_voice_16 (by decide) ?_
      refine go_icmp_lt 22 dX10_voice_17 (by decide) (fun c17 => ?_) (fun c17 => ?_)
      · obtain ⟨y, hy, rfl⟩ : ∃ y, y < 4 ∧ v = nI y := by
          rcases pk_ix v (n := 4) (by decide) with h | h | h
          · exact absurd h c12
          · exact absurd c17 (Int32.not_lt.mpr h)
          · exact h
        have ey := nI_clamp (show y < 2 ^ 31 by omega)
        refine go_aload_n dX10_voice_22 rfl ?_
        refine gs_gr dX10_voice_23 flX10_10 (gg_0 b) rfl ?_
        refine gs_gr dX10_voice_26 flX10_166 (gg_1 b) rfl ?_
        refine go_iload_n dX10_voice_29 rfl ?_
        refine go_iconst (v := nI 4) dX10_voice_30 (by decide) ?_
        refine go_imulN dX10_voice_31 ?_
        refine go_iload_n dX10_voice_32 rfl ?_
        refine go_iaddN dX10_voice_33 ?_
        refine gs_iald (_) dX10_voice_34 (gg_5 b) (rfl) (by omega) rfl (rfl) ?_
        refine go_iret dX10_voice_35 rfl rfl ?_
        exact ⟨by simp +decide [c8, ex, c12, c17, ey, K_voice], rfl⟩
      · refine go_iconst (v := -1) dX10_voice_20 (by decide) ?_
        refine go_iret dX10_voice_21 rfl rfl ?_
        exact ⟨by simp +decide [c8, ex, c12, c17, K_voice], rfl⟩
def K_may (σ : wg_S) (j r : Nat) (c s : Int32) : Int32 := if hs (σ 1 0) c = false then -1 else if hs (σ 9 0) s = false then -1 else vdt σ j r c.toNatClampNeg s.toNatClampNeg
def K_why (σ : wg_S) (j r : Nat) (c s : Int32) : Int32 := if hs (σ 1 0) c = false then -1 else if hs (σ 9 0) s = false then -1 else oI (lrl σ j c.toNatClampNeg s.toNatClampNeg r)
theorem cX10_may_ok (κ : gm_K) (b : Bool) (σ : wg_S) (n m j r : Nat) (C : CI σ n m j r) (c s : Int32) : Fn κ mX10_may [.ref 0, .int c, .int s] (gg b) σ (some (.int (K_may σ j r c s))) (gg b) σ := by
  refine go_start (by decide) (Nat.le_of_ble_eq_true rfl) ?_
  obtain ⟨⟨hN, hn⟩, ⟨hM, hm⟩, ⟨hJ, hj⟩, ⟨hR, hr⟩, hT⟩ := id C
  refine go_aload_n dX10_may_0 rfl ?_
  refine gs_gr dX10_may_1 flX10_10 (gg_0 b) rfl ?_
  refine go_iload_n dX10_may_4 rfl ?_
  refine gs_callVi dX10_may_5 cvX10_may_127 (cX0_has_ok κ b σ _) rfl (gg_1 b) rfl rfl rfl ⟨rfl, rfl⟩ rfl ?_
  refine go_if_eqB 31 dX10_may_8 (by decide) (fun c8 => ?_) (fun c8 => ?_)
  · refine go_iconst (v := -1) dX10_may_31 (by decide) ?_
    refine go_iret dX10_may_32 rfl rfl ?_
    exact ⟨by simp +decide [c8, K_may], rfl⟩
  · obtain ⟨x, hx, rfl⟩ := hs_ix (by omega) (hN ▸ c8)
    have ex := nI_clamp (show x < 2 ^ 31 by omega)
    refine go_aload_n dX10_may_11 rfl ?_
    refine gs_gr dX10_may_12 flX10_19 (gg_0 b) rfl ?_
    refine go_iload_n dX10_may_15 rfl ?_
    refine gs_callVi dX10_may_16 cvX10_may_187 (cX7_has_ok κ b σ _) rfl (gg_9 b) rfl rfl rfl ⟨rfl, rfl⟩ rfl ?_
    refine go_if_eqB 31 dX10_may_19 (by decide) (fun c19 => ?_) (fun c19 => ?_)
    · refine go_iconst (v := -1) dX10_may_31 (by decide) ?_
      refine go_iret dX10_may_32 rfl rfl ?_
      exact ⟨by simp +decide [c8, ex, c19, K_may], rfl⟩
    · obtain ⟨y, hy, rfl⟩ := hs_ix (by omega) (hM ▸ c19)
      have ey := nI_clamp (show y < 2 ^ 31 by omega)
      refine go_aload_n dX10_may_22 rfl ?_
      refine go_iload_n dX10_may_23 rfl ?_
      refine go_iload_n dX10_may_24 rfl ?_
      refine gs_callVi dX10_may_25 cvX10_may_188 (cX10_verdict_ok κ b σ n m j r C x y (by omega) (by omega)) rfl (gg_0 b) rfl rfl rfl ⟨rfl, rfl⟩ rfl ?_
      refine go_goto 32 dX10_may_28 (by decide) ?_
      refine go_iret dX10_may_32 rfl rfl ?_
      exact ⟨by simp +decide [c8, ex, c19, ey, K_may], rfl⟩
theorem cX10_why_ok (κ : gm_K) (b : Bool) (σ : wg_S) (n m j r : Nat) (C : CI σ n m j r) (c s : Int32) : Fn κ mX10_why [.ref 0, .int c, .int s] (gg b) σ (some (.int (K_why σ j r c s))) (gg b) σ := by
  refine go_start (by decide) (Nat.le_of_ble_eq_true rfl) ?_
  obtain ⟨⟨hN, hn⟩, ⟨hM, hm⟩, ⟨hJ, hj⟩, ⟨hR, hr⟩, hT⟩ := id C
  refine go_aload_n dX10_why_0 rfl ?_
  refine gs_gr dX10_why_1 flX10_10 (gg_0 b) rfl ?_
  refine go_iload_n dX10_why_4 rfl ?_
  refine gs_callVi dX10_why_5 cvX10_why_127 (cX0_has_ok κ b σ _) rfl (gg_1 b) rfl rfl rfl ⟨rfl, rfl⟩ rfl ?_
  refine go_if_eqB 31 dX10_why_8 (by decide) (fun c8 => ?_) (fun c8 => ?_)
  · refine go_iconst (v := -1) dX10_why_31 (by decide) ?_
    refine go_iret dX10_why_32 rfl rfl ?_
    exact ⟨by simp +decide [c8, K_why], rfl⟩
  · obtain ⟨x, hx, rfl⟩ := hs_ix (by omega) (hN ▸ c8)
    have ex := nI_clamp (show x < 2 ^ 31 by omega)
    refine go_aload_n dX10_why_11 rfl ?_
    refine gs_gr dX10_why_12 flX10_19 (gg_0 b) rfl ?_
    refine go_iload_n dX10_why_15 rfl ?_
    refine gs_callVi dX10_why_16 cvX10_why_187 (cX7_has_ok κ b σ _) rfl (gg_9 b) rfl rfl rfl ⟨rfl, rfl⟩ rfl ?_
    refine go_if_eqB 31 dX10_why_19 (by decide) (fun c19 => ?_) (fun c19 => ?_)
    · refine go_iconst (v := -1) dX10_why_31 (by decide) ?_
      refine go_iret dX10_why_32 rfl rfl ?_
      exact ⟨by simp +decide [c8, ex, c19, K_why], rfl⟩
    · obtain ⟨y, hy, rfl⟩ := hs_ix (by omega) (hM ▸ c19)
      have ey := nI_clamp (show y < 2 ^ 31 by omega)
      refine go_aload_n dX10_why_22 rfl ?_
      refine go_iload_n dX10_why_23 rfl ?_
      refine go_iload_n dX10_why_24 rfl ?_
      refine gs_callVi dX10_why_25 cvX10_why_191 (cX10_lastRuleThatHolds_ok κ b σ n m j r C x y (by omega) (by omega)) rfl (gg_0 b) rfl rfl rfl ⟨rfl, rfl⟩ rfl ?_
      refine go_goto 32 dX10_why_28 (by decide) ?_
      refine go_iret dX10_why_32 rfl rfl ?_
      exact ⟨by simp +decide [c8, ex, c19, ey, K_why], rfl⟩
def K_vote (σ : wg_S) (c w : Int32) : Int32 × wg_S := if hs (σ 1 0) c = false then (-5, σ) else if wi w (-1) (nI 7) = false then (-5, σ) else (σ 8 c.toNatClampNeg, us σ 8 c.toNatClampNeg w)
theorem cX10_vote_ok (κ : gm_K) (b : Bool) (σ : wg_S) (n m j r : Nat) (C : CI σ n m j r) (c w : Int32) : Fn κ mX10_vote [.ref 0, .int c, .int w] (gg b) σ (some (.int ((K_vote σ c w).1))) (gg b) (K_vote σ c w).2 := by
  refine go_start (by decide) (Nat.le_of_ble_eq_true rfl) ?_
  obtain ⟨⟨hN, hn⟩, ⟨hM, hm⟩, ⟨hJ, hj⟩, ⟨hR, hr⟩, hT⟩ := id C
  refine go_aload_n dX10_vote_0 rfl ?_
  refine gs_gr dX10_vote_1 flX10_10 (gg_0 b) rfl ?_
  refine go_iload_n dX10_vote_4 rfl ?_
  refine gs_callVi dX10_vote_5 cvX10_vote_127 (cX0_has_ok κ b σ _) rfl (gg_1 b) rfl rfl rfl ⟨rfl, rfl⟩ rfl ?_
  refine go_if_eqB 21 dX10_vote_8 (by decide) (fun c8 => ?_) (fun c8 => ?_)
  · refine go_bipush (v := -5) dX10_vote_21 (by decide) ?_
    refine go_iret dX10_vote_23 rfl rfl ?_
    refine ⟨?_, ?_⟩ <;> simp +decide [c8, K_vote]
  · obtain ⟨x, hx, rfl⟩ := hs_ix (by omega) (hN ▸ c8)
    have ex := nI_clamp (show x < 2 ^ 31 by omega)
    refine go_iload_n dX10_vote_11 rfl ?_
    refine go_iconst (v := -1) dX10_vote_12 (by decide) ?_
    refine go_bipush (v := nI 7) dX10_vote_13 (by decide) ?_
    refine gs_callSi dX10_vote_15 csX10_vote_114 (cX10_isWithin_ok κ b σ _ _ _) rfl rfl rfl ⟨rfl, rfl⟩ rfl ?_
    refine go_if_neB 24 dX10_vote_18 (by decide) (fun c18 => ?_) (fun c18 => ?_)
    · refine go_aload_n dX10_vote_24 rfl ?_
      refine gs_gr dX10_vote_25 flX10_10 (gg_0 b) rfl ?_
      refine gs_gr dX10_vote_28 flX10_163 (gg_1 b) rfl ?_
      refine go_iload_n dX10_vote_31 rfl ?_
      refine gs_iald (_) dX10_vote_32 (gg_8 b) (rfl) (by omega) rfl (rfl) ?_
      refine go_istore_n (lv' := [_, _, _, _]) dX10_vote_33 rfl rfl rfl ?_
      refine go_aload_n dX10_vote_34 rfl ?_
      refine gs_gr dX10_vote_35 flX10_10 (gg_0 b) rfl ?_
      refine gs_gr dX10_vote_38 flX10_163 (gg_1 b) rfl ?_
      refine go_iload_n dX10_vote_41 rfl ?_
      refine go_iload_n dX10_vote_42 rfl ?_
      refine gs_iast (_) dX10_vote_43 (gg_8 b) (rfl) (by omega) rfl ?_
      refine go_iload_n dX10_vote_44 rfl ?_
      refine go_iret dX10_vote_45 rfl rfl ?_
      refine ⟨?_, ?_⟩ <;> simp +decide [c8, ex, c18, K_vote]
    · refine go_bipush (v := -5) dX10_vote_21 (by decide) ?_
      refine go_iret dX10_vote_23 rfl rfl ?_
      refine ⟨?_, ?_⟩ <;> simp +decide [c8, ex, c18, K_vote]
def vts (σ : wg_S) (n : Nat) (w set : Int32) : Int32 := sm (fun i => if bv set i = nI 1 ∧ σ 8 i = w then po (σ 6 i) (nI 10) else 0) n
def ldr (σ : wg_S) (n : Nat) (set : Int32) : Nat → Option Nat × Int32
  | 0 => (none, nI 0)
  | k + 1 => if vts σ n (nI k) set ≤ (ldr σ n set k).2 then ldr σ n set k else (some k, vts σ n (nI k) set)
def ctm (σ : wg_S) (n j r s : Nat) : Int32 := om (fun c => decide (vdt σ j r c s = 0)) n
def K_leader (σ : wg_S) (n j r : Nat) (s : Int32) : Int32 := if hs (σ 9 0) s = false then -1 else oI (ldr σ n (ctm σ n j r s.toNatClampNeg) 8).1
theorem cX10_leader_ok (κ : gm_K) (b : Bool) (σ : wg_S) (n m j r : Nat) (C : CI σ n m j r) (s : Int32) : Fn κ mX10_leader [.ref 0, .int s] (gg b) σ (some (.int (K_leader σ n j r s))) (gg b) σ := by
  refine go_start (by decide) (Nat.le_of_ble_eq_true rfl) ?_
  obtain ⟨⟨hN, hn⟩, ⟨hM, hm⟩, ⟨hJ, hj⟩, ⟨hR, hr⟩, hT⟩ := id C
  refine go_aload_n dX10_leader_0 rfl ?_
  refine gs_gr dX10_leader_1 flX10_19 (gg_0 b) rfl ?_
  refine go_iload_n dX10_leader_4 rfl ?_
  refine gs_callVi dX10_leader_5 cvX10_leader_187 (cX7_has_ok κ b σ _) rfl (gg_9 b) rfl rfl rfl ⟨rfl, rfl⟩ rfl ?_
  refine go_if_neB 13 dX10_leader_8 (by decide) (fun c8 => ?_) (fun c8 => ?_)
  · obtain ⟨x, hx, rfl⟩ := hs_ix (by omega) (hM ▸ c8)
    have ex := nI_clamp (show x < 2 ^ 31 by omega)
    refine go_aload_n dX10_leader_13 rfl ?_
    refine go_iload_n dX10_leader_14 rfl ?_
    refine gs_callVi dX10_leader_15 cvX10_leader_194 (cX10_choirsThatMay_ok κ b σ n m j r C x (by omega)) rfl (gg_0 b) rfl rfl rfl ⟨rfl, rfl⟩ rfl ?_
    refine go_istore_n (lv' := [_, _, _, _, _, _, _]) dX10_leader_18 rfl rfl rfl ?_
    refine go_iconst (v := -1) dX10_leader_19 (by decide) ?_
    refine go_istore_n (lv' := [_, _, _, _, _, _, _]) dX10_leader_20 rfl rfl rfl ?_
    refine go_iconst (v := nI 0) dX10_leader_21 (by decide) ?_
    refine go_istore (lv' := [_, _, _, _, _, _, _]) dX10_leader_22 rfl rfl rfl ?_
    refine go_iconst (v := nI 0) dX10_leader_24 (by decide) ?_
    refine go_istore (lv' := [_, _, _, _, _, _, _]) dX10_leader_25 rfl rfl rfl ?_
    refine go_wk (by exact ⟨rfl, rfl, rfl, rfl, rfl, rfl, trivial⟩) (?_ : Go κ mX10_leader 27 [some (.ref 0), some (.int (nI x)), some (.int (ctm σ n j r x)), some (.int (oI (ldr σ n (ctm σ n j r x) 0).1)), some (.int (ldr σ n (ctm σ n j r x) 0).2), some (.int (nI 0)), none] [] (wd (gg b) σ) (0, 0) _)
    refine lo_up 8 (P := fun i => Go κ mX10_leader 27 [some (.ref 0), some (.int (nI x)), some (.int (ctm σ n j r x)), some (.int (oI (ldr σ n (ctm σ n j r x) i).1)), some (.int (ldr σ n (ctm σ n j r x) i).2), some (.int (nI i)), none] [] (wd (gg b) σ) (0, 0) _) (fun i hi ih => ?_) 0 (Nat.zero_le _)
    have hs' : ldr σ n (ctm σ n j r x) (i + 1) = if vts σ n (nI i) (ctm σ n j r x) ≤ (ldr σ n (ctm σ n j r x) i).2 then ldr σ n (ctm σ n j r x) i else (some i, vts σ n (nI i) (ctm σ n j r x)) := rfl
    have hv := cX0_votesFor_ok κ b σ n hn hN (nI i) (ctm σ n j r x)
    change Fn _ _ _ _ _ (some (.int (vts σ n (nI i) (ctm σ n j r x)))) _ _ at hv
    refine go_iload dX10_leader_27 rfl ?_
    refine go_bipush (v := nI 8) dX10_leader_29 (by decide) ?_
    refine go_icmp_geN 66 dX10_leader_31 (by decide) (by omega) (by omega) (fun c31 => ?_) (fun c31 => ?_)
    · refine go_iload_n dX10_leader_66 rfl ?_
      refine go_iret dX10_leader_67 rfl rfl ?_
      have e : i = 8 := by omega
      subst e
      exact ⟨by simp [K_leader, c8, ex], rfl⟩
    · refine go_aload_n dX10_leader_34 rfl ?_
      refine gs_gr dX10_leader_35 flX10_10 (gg_0 b) rfl ?_
      refine go_iload dX10_leader_38 rfl ?_
      refine go_iload_n dX10_leader_40 rfl ?_
      refine gs_callVi dX10_leader_41 cvX10_leader_197 (hv) rfl (gg_1 b) rfl rfl rfl ⟨rfl, rfl⟩ rfl ?_
      refine go_istore (lv' := [_, _, _, _, _, _, _]) dX10_leader_44 rfl rfl rfl ?_
      refine go_iload dX10_leader_46 rfl ?_
      refine go_iload dX10_leader_48 rfl ?_
      refine go_icmp_le 60 dX10_leader_50 (by decide) (fun c50 => ?_) (fun c50 => ?_)
      · rw [if_pos c50] at hs'
        refine go_iincN (lv' := [_, _, _, _, _, _, _]) 1 dX10_leader_60 (by decide) rfl rfl rfl rfl ?_
        refine go_goto 27 dX10_leader_63 (by decide) ?_
        exact go_wk (by rw [hs']; exact ⟨rfl, rfl, rfl, rfl, rfl, rfl, trivial⟩) (ih c31)
      · rw [if_neg c50] at hs'
        refine go_iload dX10_leader_53 rfl ?_
        refine go_istore (lv' := [_, _, _, _, _, _, _]) dX10_leader_55 rfl rfl rfl ?_
        refine go_iload dX10_leader_57 rfl ?_
        refine go_istore_n (lv' := [_, _, _, _, _, _, _]) dX10_leader_59 rfl rfl rfl ?_
        refine go_iincN (lv' := [_, _, _, _, _, _, _]) 1 dX10_leader_60 (by decide) rfl rfl rfl rfl ?_
        refine go_goto 27 dX10_leader_63 (by decide) ?_
        exact go_wk (by rw [hs']; exact ⟨rfl, rfl, rfl, rfl, rfl, rfl, trivial⟩) (ih c31)
  · refine go_iconst (v := -1) dX10_leader_11 (by decide) ?_
    refine go_iret dX10_leader_12 rfl rfl ?_
    exact ⟨by simp +decide [c8, K_leader], rfl⟩
def K_stage (σ : wg_S) (n : Nat) (p w : Int32) : Int32 × wg_S := if wi p (nI 1) (nI 8) = false then (-2, σ) else if wi w (nI 1) (nI 60) = false then (-2, σ) else if sm (fun i => if σ 30 i = -1 then nI 0 else nI 1) n ≤ 0 then (nI 0, us (us σ 29 0 p) 29 1 w) else (-3, σ)
theorem cX10_stage_ok (κ : gm_K) (b : Bool) (σ : wg_S) (n m j r : Nat) (C : CI σ n m j r) (p w : Int32) : Fn κ mX10_stage [.ref 0, .int p, .int w] (gg b) σ (some (.int ((K_stage σ n p w).1))) (gg b) (K_stage σ n p w).2 := by
  refine go_start (by decide) (Nat.le_of_ble_eq_true rfl) ?_
  obtain ⟨⟨hN, hn⟩, ⟨hM, hm⟩, ⟨hJ, hj⟩, ⟨hR, hr⟩, hT⟩ := id C
  refine go_iload_n dX10_stage_0 rfl ?_
  refine go_iconst (v := nI 1) dX10_stage_1 (by decide) ?_
  refine go_bipush (v := nI 8) dX10_stage_2 (by decide) ?_
  refine gs_callSi dX10_stage_4 csX10_stage_114 (cX10_isWithin_ok κ b σ _ _ _) rfl rfl rfl ⟨rfl, rfl⟩ rfl ?_
  refine go_if_eqB 20 dX10_stage_7 (by decide) (fun c7 => ?_) (fun c7 => ?_)
  · refine go_bipush (v := -2) dX10_stage_20 (by decide) ?_
    refine go_iret dX10_stage_22 rfl rfl ?_
    refine ⟨?_, ?_⟩ <;> simp +decide [c7, K_stage]
  · refine go_iload_n dX10_stage_10 rfl ?_
    refine go_iconst (v := nI 1) dX10_stage_11 (by decide) ?_
    refine go_bipush (v := nI 60) dX10_stage_12 (by decide) ?_
    refine gs_callSi dX10_stage_14 csX10_stage_114 (cX10_isWithin_ok κ b σ _ _ _) rfl rfl rfl ⟨rfl, rfl⟩ rfl ?_
    refine go_if_neB 23 dX10_stage_17 (by decide) (fun c17 => ?_) (fun c17 => ?_)
    · refine go_aload_n dX10_stage_23 rfl ?_
      refine gs_gr dX10_stage_24 flX10_49 (gg_0 b) rfl ?_
      refine gs_callVi dX10_stage_27 cvX10_stage_200 (cX8_blocks_ok κ b σ n hn hN) rfl (gg_29 b) rfl rfl rfl ⟨rfl, rfl⟩ rfl ?_
      refine go_if_le 36 dX10_stage_30 (by decide) (fun c30 => ?_) (fun c30 => ?_)
      · refine go_aload_n dX10_stage_36 rfl ?_
        refine gs_gr dX10_stage_37 flX10_49 (gg_0 b) rfl ?_
        refine go_iload_n dX10_stage_40 rfl ?_
        refine gs_pi dX10_stage_41 flX10_204 (gg_29 b) rfl (fun q hq => by cases hq; exact ⟨rfl, rfl⟩) ?_
        refine go_aload_n dX10_stage_44 rfl ?_
        refine gs_gr dX10_stage_45 flX10_49 (gg_0 b) rfl ?_
        refine go_iload_n dX10_stage_48 rfl ?_
        refine gs_pi dX10_stage_49 flX10_207 (gg_29 b) rfl (fun q hq => by cases hq; exact ⟨rfl, rfl⟩) ?_
        refine go_iconst (v := nI 0) dX10_stage_52 (by decide) ?_
        refine go_iret dX10_stage_53 rfl rfl ?_
        refine ⟨?_, ?_⟩ <;> simp +decide [c7, c17, c30, K_stage]
      · refine go_bipush (v := -3) dX10_stage_33 (by decide) ?_
        refine go_iret dX10_stage_35 rfl rfl ?_
        refine ⟨?_, ?_⟩ <;> simp +decide [c7, c17, c30, K_stage]
    · refine go_bipush (v := -2) dX10_stage_20 (by decide) ?_
      refine go_iret dX10_stage_22 rfl rfl ?_
      refine ⟨?_, ?_⟩ <;> simp +decide [c7, c17, K_stage]
def K_tall (σ : wg_S) (c t : Int32) : Int32 × wg_S := if hs (σ 1 0) c = false then (-1, σ) else if wi t (nI 0) (nI 9) = false then (-2, σ) else (σ 7 c.toNatClampNeg, us σ 7 c.toNatClampNeg t)
theorem cX10_tall_ok (κ : gm_K) (b : Bool) (σ : wg_S) (n m j r : Nat) (C : CI σ n m j r) (c t : Int32) : Fn κ mX10_tall [.ref 0, .int c, .int t] (gg b) σ (some (.int ((K_tall σ c t).1))) (gg b) (K_tall σ c t).2 := by
  refine go_start (by decide) (Nat.le_of_ble_eq_true rfl) ?_
  obtain ⟨⟨hN, hn⟩, ⟨hM, hm⟩, ⟨hJ, hj⟩, ⟨hR, hr⟩, hT⟩ := id C
  refine go_aload_n dX10_tall_0 rfl ?_
  refine gs_gr dX10_tall_1 flX10_10 (gg_0 b) rfl ?_
  refine go_iload_n dX10_tall_4 rfl ?_
  refine gs_callVi dX10_tall_5 cvX10_tall_127 (cX0_has_ok κ b σ _) rfl (gg_1 b) rfl rfl rfl ⟨rfl, rfl⟩ rfl ?_
  refine go_if_neB 13 dX10_tall_8 (by decide) (fun c8 => ?_) (fun c8 => ?_)
  · obtain ⟨x, hx, rfl⟩ := hs_ix (by omega) (hN ▸ c8)
    have ex := nI_clamp (show x < 2 ^ 31 by omega)
    refine go_iload_n dX10_tall_13 rfl ?_
    refine go_iconst (v := nI 0) dX10_tall_14 (by decide) ?_
    refine go_bipush (v := nI 9) dX10_tall_15 (by decide) ?_
    refine gs_callSi dX10_tall_17 csX10_tall_114 (cX10_isWithin_ok κ b σ _ _ _) rfl rfl rfl ⟨rfl, rfl⟩ rfl ?_
    refine go_if_neB 26 dX10_tall_20 (by decide) (fun c20 => ?_) (fun c20 => ?_)
    · refine go_aload_n dX10_tall_26 rfl ?_
      refine gs_gr dX10_tall_27 flX10_10 (gg_0 b) rfl ?_
      refine gs_gr dX10_tall_30 flX10_151 (gg_1 b) rfl ?_
      refine go_iload_n dX10_tall_33 rfl ?_
      refine gs_iald (_) dX10_tall_34 (gg_7 b) (rfl) (by omega) rfl (rfl) ?_
      refine go_istore_n (lv' := [_, _, _, _]) dX10_tall_35 rfl rfl rfl ?_
      refine go_aload_n dX10_tall_36 rfl ?_
      refine gs_gr dX10_tall_37 flX10_10 (gg_0 b) rfl ?_
      refine gs_gr dX10_tall_40 flX10_151 (gg_1 b) rfl ?_
      refine go_iload_n dX10_tall_43 rfl ?_
      refine go_iload_n dX10_tall_44 rfl ?_
      refine gs_iast (_) dX10_tall_45 (gg_7 b) (rfl) (by omega) rfl ?_
      refine go_iload_n dX10_tall_46 rfl ?_
      refine go_iret dX10_tall_47 rfl rfl ?_
      refine ⟨?_, ?_⟩ <;> simp +decide [c8, ex, c20, K_tall]
    · refine go_bipush (v := -2) dX10_tall_23 (by decide) ?_
      refine go_iret dX10_tall_25 rfl rfl ?_
      refine ⟨?_, ?_⟩ <;> simp +decide [c8, ex, c20, K_tall]
  · refine go_iconst (v := -1) dX10_tall_11 (by decide) ?_
    refine go_iret dX10_tall_12 rfl rfl ?_
    refine ⟨?_, ?_⟩ <;> simp +decide [c8, K_tall]
def K_stand (σ : wg_S) (n : Nat) (c p q : Int32) : Int32 × wg_S := if hs (σ 1 0) c = false then (-1, σ) else if hs (σ 29 0) p = false then (-1, σ) else if q < 0 then (-1, σ) else if ¬ q < σ 29 1 then (-1, σ)
  else if ¬ σ 30 c.toNatClampNeg = -1 then (-3, σ) else if there σ c.toNatClampNeg = false then (-3, σ) else if hrm σ n p q (σ 6 c.toNatClampNeg) = false then (-3, σ) else (nI 0, s_put σ c.toNatClampNeg p q)
theorem cX10_stand_ok (κ : gm_K) (b : Bool) (σ : wg_S) (n m j r : Nat) (C : CI σ n m j r) (c p q : Int32) : Fn κ mX10_stand [.ref 0, .int c, .int p, .int q] (gg b) σ (some (.int ((K_stand σ n c p q).1))) (gg b) (K_stand σ n c p q).2 := by
  refine go_start (by decide) (Nat.le_of_ble_eq_true rfl) ?_
  obtain ⟨⟨hN, hn⟩, ⟨hM, hm⟩, ⟨hJ, hj⟩, ⟨hR, hr⟩, hT⟩ := id C
  refine go_aload_n dX10_stand_0 rfl ?_
  refine gs_gr dX10_stand_1 flX10_10 (gg_0 b) rfl ?_
  refine go_iload_n dX10_stand_4 rfl ?_
  refine gs_callVi dX10_stand_5 cvX10_stand_127 (cX0_has_ok κ b σ _) rfl (gg_1 b) rfl rfl rfl ⟨rfl, rfl⟩ rfl ?_
  refine go_if_eqB 37 dX10_stand_8 (by decide) (fun c8 => ?_) (fun c8 => ?_)
  · refine go_iconst (v := -1) dX10_stand_37 (by decide) ?_
    refine go_iret dX10_stand_38 rfl rfl ?_
    refine ⟨?_, ?_⟩ <;> simp +decide [c8, K_stand]
  · obtain ⟨x, hx, rfl⟩ := hs_ix (by omega) (hN ▸ c8)
    have ex := nI_clamp (show x < 2 ^ 31 by omega)
    refine go_aload_n dX10_stand_11 rfl ?_
    refine gs_gr dX10_stand_12 flX10_49 (gg_0 b) rfl ?_
    refine go_iload_n dX10_stand_15 rfl ?_
    refine gs_callVi dX10_stand_16 cvX10_stand_210 (cX8_hasRow_ok κ b σ _) rfl (gg_29 b) rfl rfl rfl ⟨rfl, rfl⟩ rfl ?_
    refine go_if_eqB 37 dX10_stand_19 (by decide) (fun c19 => ?_) (fun c19 => ?_)
    · refine go_iconst (v := -1) dX10_stand_37 (by decide) ?_
      refine go_iret dX10_stand_38 rfl rfl ?_
      refine ⟨?_, ?_⟩ <;> simp +decide [c8, ex, c19, K_stand]
    · refine go_iload_n dX10_stand_22 rfl ?_
      refine go_if_lt 37 dX10_stand_23 (by decide) (fun c23 => ?_) (fun c23 => ?_)
      · refine go_iconst (v := -1) dX10_stand_37 (by decide) ?_
        refine go_iret dX10_stand_38 rfl rfl ?_
        refine ⟨?_, ?_⟩ <;> simp +decide [c8, ex, c19, c23, K_stand]
      · refine go_iload_n dX10_stand_26 rfl ?_
        refine go_aload_n dX10_stand_27 rfl ?_
        refine gs_gr dX10_stand_28 flX10_49 (gg_0 b) rfl ?_
        refine gs_gi dX10_stand_31 flX10_207 (gg_29 b) rfl (rfl) ?_
        refine go_icmp_lt 39 dX10_stand_34 (by decide) (fun c34 => ?_) (fun c34 => ?_)
        · refine go_aload_n dX10_stand_39 rfl ?_
          refine gs_gr dX10_stand_40 flX10_49 (gg_0 b) rfl ?_
          refine go_iload_n dX10_stand_43 rfl ?_
          refine gs_callVi dX10_stand_44 cvX10_stand_213 (cX8_holds_ok κ b σ x (by omega)) rfl (gg_29 b) rfl rfl rfl ⟨rfl, rfl⟩ rfl ?_
          refine go_if_neB 79 dX10_stand_47 (by decide) (fun c47 => ?_) (fun c47 => ?_)
          · simp at c47
            refine go_bipush (v := -3) dX10_stand_79 (by decide) ?_
            refine go_iret dX10_stand_81 rfl rfl ?_
            refine ⟨?_, ?_⟩ <;> simp +decide [c8, ex, c19, c23, c34, c47, K_stand]
          · simp at c47
            refine go_aload_n dX10_stand_50 rfl ?_
            refine go_iload_n dX10_stand_51 rfl ?_
            refine gs_callVi dX10_stand_52 cvX10_stand_148 (cX10_isThere_ok κ b σ x (by omega)) rfl (gg_0 b) rfl rfl rfl ⟨rfl, rfl⟩ rfl ?_
            refine go_if_eqB 79 dX10_stand_55 (by decide) (fun c55 => ?_) (fun c55 => ?_)
            · refine go_bipush (v := -3) dX10_stand_79 (by decide) ?_
              refine go_iret dX10_stand_81 rfl rfl ?_
              refine ⟨?_, ?_⟩ <;> simp +decide [c8, ex, c19, c23, c34, c47, c55, K_stand]
            · refine go_aload_n dX10_stand_58 rfl ?_
              refine gs_gr dX10_stand_59 flX10_49 (gg_0 b) rfl ?_
              refine go_iload_n dX10_stand_62 rfl ?_
              refine go_iload_n dX10_stand_63 rfl ?_
              refine go_aload_n dX10_stand_64 rfl ?_
              refine gs_gr dX10_stand_65 flX10_10 (gg_0 b) rfl ?_
              refine gs_gr dX10_stand_68 flX10_145 (gg_1 b) rfl ?_
              refine go_iload_n dX10_stand_71 rfl ?_
              refine gs_iald (_) dX10_stand_72 (gg_6 b) (rfl) (by omega) rfl (rfl) ?_
              refine gs_callVi dX10_stand_73 cvX10_stand_216 (cX8_hasRoom_ok κ b σ n hn hN _ _ _) rfl (gg_29 b) rfl rfl rfl ⟨rfl, rfl⟩ rfl ?_
              refine go_if_neB 82 dX10_stand_76 (by decide) (fun c76 => ?_) (fun c76 => ?_)
              · refine go_aload_n dX10_stand_82 rfl ?_
                refine gs_gr dX10_stand_83 flX10_49 (gg_0 b) rfl ?_
                refine go_iload_n dX10_stand_86 rfl ?_
                refine go_iload_n dX10_stand_87 rfl ?_
                refine go_iload_n dX10_stand_88 rfl ?_
                refine gs_callVv dX10_stand_89 cvX10_stand_219 (cX8_put_ok κ b σ x (by omega) _ _) rfl (gg_29 b) rfl rfl rfl ⟨rfl, rfl⟩ rfl ?_
                refine go_iconst (v := nI 0) dX10_stand_92 (by decide) ?_
                refine go_iret dX10_stand_93 rfl rfl ?_
                refine ⟨?_, ?_⟩ <;> simp +decide [c8, ex, c19, c23, c34, c47, c55, c76, K_stand]
              · refine go_bipush (v := -3) dX10_stand_79 (by decide) ?_
                refine go_iret dX10_stand_81 rfl rfl ?_
                refine ⟨?_, ?_⟩ <;> simp +decide [c8, ex, c19, c23, c34, c47, c55, c76, K_stand]
        · refine go_iconst (v := -1) dX10_stand_37 (by decide) ?_
          refine go_iret dX10_stand_38 rfl rfl ?_
          refine ⟨?_, ?_⟩ <;> simp +decide [c8, ex, c19, c23, c34, K_stand]
def K_off (σ : wg_S) (c : Int32) : Int32 × wg_S := if hs (σ 1 0) c = false then (-1, σ) else if σ 30 c.toNatClampNeg = -1 then (-3, σ) else (sec (σ 29 1) (σ 31 c.toNatClampNeg) (σ 6 c.toNatClampNeg), s_put σ c.toNatClampNeg (-1) (-1))
theorem cX10_off_ok (κ : gm_K) (b : Bool) (σ : wg_S) (n m j r : Nat) (C : CI σ n m j r) (c : Int32) : Fn κ mX10_off [.ref 0, .int c] (gg b) σ (some (.int ((K_off σ c).1))) (gg b) (K_off σ c).2 := by
  refine go_start (by decide) (Nat.le_of_ble_eq_true rfl) ?_
  obtain ⟨⟨hN, hn⟩, ⟨hM, hm⟩, ⟨hJ, hj⟩, ⟨hR, hr⟩, hT⟩ := id C
  refine go_aload_n dX10_off_0 rfl ?_
  refine gs_gr dX10_off_1 flX10_10 (gg_0 b) rfl ?_
  refine go_iload_n dX10_off_4 rfl ?_
  refine gs_callVi dX10_off_5 cvX10_off_127 (cX0_has_ok κ b σ _) rfl (gg_1 b) rfl rfl rfl ⟨rfl, rfl⟩ rfl ?_
  refine go_if_neB 13 dX10_off_8 (by decide) (fun c8 => ?_) (fun c8 => ?_)
  · obtain ⟨x, hx, rfl⟩ := hs_ix (by omega) (hN ▸ c8)
    have ex := nI_clamp (show x < 2 ^ 31 by omega)
    refine go_aload_n dX10_off_13 rfl ?_
    refine gs_gr dX10_off_14 flX10_49 (gg_0 b) rfl ?_
    refine go_iload_n dX10_off_17 rfl ?_
    refine gs_callVi dX10_off_18 cvX10_off_213 (cX8_holds_ok κ b σ x (by omega)) rfl (gg_29 b) rfl rfl rfl ⟨rfl, rfl⟩ rfl ?_
    refine go_if_neB 27 dX10_off_21 (by decide) (fun c21 => ?_) (fun c21 => ?_)
    · simp at c21
      refine go_aload_n dX10_off_27 rfl ?_
      refine gs_gr dX10_off_28 flX10_49 (gg_0 b) rfl ?_
      refine go_aload_n dX10_off_31 rfl ?_
      refine gs_gr dX10_off_32 flX10_49 (gg_0 b) rfl ?_
      refine gs_gr dX10_off_35 flX10_160 (gg_29 b) rfl ?_
      refine go_iload_n dX10_off_38 rfl ?_
      refine gs_iald (_) dX10_off_39 (gg_31 b) (rfl) (by omega) rfl (rfl) ?_
      refine go_aload_n dX10_off_40 rfl ?_
      refine gs_gr dX10_off_41 flX10_10 (gg_0 b) rfl ?_
      refine gs_gr dX10_off_44 flX10_145 (gg_1 b) rfl ?_
      refine go_iload_n dX10_off_47 rfl ?_
      refine gs_iald (_) dX10_off_48 (gg_6 b) (rfl) (by omega) rfl (rfl) ?_
      refine gs_callVi dX10_off_49 cvX10_off_223 (cX8_seconds_ok κ b σ _ _) rfl (gg_29 b) rfl rfl rfl ⟨rfl, rfl⟩ rfl ?_
      refine go_istore_n (lv' := [_, _, _]) dX10_off_52 rfl rfl rfl ?_
      refine go_aload_n dX10_off_53 rfl ?_
      refine gs_gr dX10_off_54 flX10_49 (gg_0 b) rfl ?_
      refine go_iload_n dX10_off_57 rfl ?_
      refine go_iconst (v := -1) dX10_off_58 (by decide) ?_
      refine go_iconst (v := -1) dX10_off_59 (by decide) ?_
      refine gs_callVv dX10_off_60 cvX10_off_219 (cX8_put_ok κ b σ x (by omega) _ _) rfl (gg_29 b) rfl rfl rfl ⟨rfl, rfl⟩ rfl ?_
      refine go_iload_n dX10_off_63 rfl ?_
      refine go_iret dX10_off_64 rfl rfl ?_
      refine ⟨?_, ?_⟩ <;> simp +decide [c8, ex, c21, K_off]
    · simp at c21
      refine go_bipush (v := -3) dX10_off_24 (by decide) ?_
      refine go_iret dX10_off_26 rfl rfl ?_
      refine ⟨?_, ?_⟩ <;> simp +decide [c8, ex, c21, K_off]
  · refine go_iconst (v := -1) dX10_off_11 (by decide) ?_
    refine go_iret dX10_off_12 rfl rfl ?_
    refine ⟨?_, ?_⟩ <;> simp +decide [c8, K_off]
def K_well (σ : wg_S) (n : Nat) (c : Int32) : Int32 := if hs (σ 1 0) c = false then -1 else if σ 30 c.toNatClampNeg = -1 then -3 else bi (alb (nhd σ c.toNatClampNeg) n)
theorem cX10_well_ok (κ : gm_K) (b : Bool) (σ : wg_S) (n m j r : Nat) (C : CI σ n m j r) (c : Int32) : Fn κ mX10_well [.ref 0, .int c] (gg b) σ (some (.int (K_well σ n c))) (gg b) σ := by
  refine go_start (by decide) (Nat.le_of_ble_eq_true rfl) ?_
  obtain ⟨⟨hN, hn⟩, ⟨hM, hm⟩, ⟨hJ, hj⟩, ⟨hR, hr⟩, hT⟩ := id C
  refine go_aload_n dX10_well_0 rfl ?_
  refine gs_gr dX10_well_1 flX10_10 (gg_0 b) rfl ?_
  refine go_iload_n dX10_well_4 rfl ?_
  refine gs_callVi dX10_well_5 cvX10_well_127 (cX0_has_ok κ b σ _) rfl (gg_1 b) rfl rfl rfl ⟨rfl, rfl⟩ rfl ?_
  refine go_if_neB 13 dX10_well_8 (by decide) (fun c8 => ?_) (fun c8 => ?_)
  · obtain ⟨x, hx, rfl⟩ := hs_ix (by omega) (hN ▸ c8)
    have ex := nI_clamp (show x < 2 ^ 31 by omega)
    refine go_aload_n dX10_well_13 rfl ?_
    refine gs_gr dX10_well_14 flX10_49 (gg_0 b) rfl ?_
    refine go_iload_n dX10_well_17 rfl ?_
    refine gs_callVi dX10_well_18 cvX10_well_213 (cX8_holds_ok κ b σ x (by omega)) rfl (gg_29 b) rfl rfl rfl ⟨rfl, rfl⟩ rfl ?_
    refine go_if_neB 27 dX10_well_21 (by decide) (fun c21 => ?_) (fun c21 => ?_)
    · simp at c21
      refine go_aload_n dX10_well_27 rfl ?_
      refine gs_gr dX10_well_28 flX10_49 (gg_0 b) rfl ?_
      refine go_iload_n dX10_well_31 rfl ?_
      refine gs_callVi dX10_well_32 cvX10_well_226 (cX8_isHidden_ok κ b σ n hn hN x (by omega)) rfl (gg_29 b) rfl rfl rfl ⟨rfl, rfl⟩ rfl ?_
      refine go_if_eqB 42 dX10_well_35 (by decide) (fun c35 => ?_) (fun c35 => ?_)
      · simp at c35
        refine go_iconst (v := nI 1) dX10_well_42 (by decide) ?_
        refine go_iret dX10_well_43 rfl rfl ?_
        exact ⟨by simp +decide [c8, ex, c21, c35, K_well, bi], rfl⟩
      · simp at c35
        refine go_iconst (v := nI 0) dX10_well_38 (by decide) ?_
        refine go_goto 43 dX10_well_39 (by decide) ?_
        refine go_iret dX10_well_43 rfl rfl ?_
        exact ⟨by simp +decide [c8, ex, c21, c35, K_well, bi], rfl⟩
    · simp at c21
      refine go_bipush (v := -3) dX10_well_24 (by decide) ?_
      refine go_iret dX10_well_26 rfl rfl ?_
      exact ⟨by simp +decide [c8, ex, c21, K_well, bi], rfl⟩
  · refine go_iconst (v := -1) dX10_well_11 (by decide) ?_
    refine go_iret dX10_well_12 rfl rfl ?_
    exact ⟨by simp +decide [c8, K_well, bi], rfl⟩
def K_clL (σ : wg_S) (n : Nat) : Int32 := sm (fun i => if σ 30 i = -1 then 0 else gol (σ 29 1) (σ 31 i) (σ 6 i)) n
def K_clR (σ : wg_S) (n : Nat) : Int32 := sm (fun i => if σ 30 i = -1 then 0 else gor (σ 29 1) (σ 31 i) (σ 6 i)) n
def K_clear (σ : wg_S) (n : Nat) : Int32 × wg_S := (if K_clL σ n < K_clR σ n then K_clR σ n else K_clL σ n, sdo σ (K_clL σ n) (K_clR σ n))
theorem cX10_clear_ok (κ : gm_K) (b : Bool) (σ : wg_S) (n m j r : Nat) (C : CI σ n m j r) : Fn κ mX10_clear [.ref 0] (gg b) σ (some (.int ((K_clear σ n).1))) (gg b) (K_clear σ n).2 := by
  refine go_start (by decide) (Nat.le_of_ble_eq_true rfl) ?_
  obtain ⟨⟨hN, hn⟩, ⟨hM, hm⟩, ⟨hJ, hj⟩, ⟨hR, hr⟩, hT⟩ := id C
  refine go_aload_n dX10_clear_0 rfl ?_
  refine gs_gr dX10_clear_1 flX10_49 (gg_0 b) rfl ?_
  refine gs_callVi dX10_clear_4 cvX10_clear_229 (cX8_clearOfAll_ok κ b σ n hn hN) rfl (gg_29 b) rfl rfl rfl ⟨rfl, rfl⟩ rfl ?_
  refine go_iret dX10_clear_7 rfl rfl ?_
  exact ⟨rfl, rfl⟩
