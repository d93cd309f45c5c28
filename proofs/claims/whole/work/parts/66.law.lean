/-! the law's loop -/
theorem lw_loop (κ : gm_K) (T : TXT κ) {L : Nat} {xs : Nat → Int32} (hX : SCR κ L xs) (hL : L ≤ 2560) : ∀ t, t ≤ L / 5 → ∀ b σ, zS σ → Go κ mL_law 18 (lwv t) [] (wd (gg b) σ) (lwn t) (fun r _ => r = some (.int 1)) := by
  refine lo_up (L / 5) (P := fun t => ∀ b σ, zS σ → Go κ mL_law 18 (lwv t) [] (wd (gg b) σ) (lwn t) (fun r _ => r = some (.int 1))) (fun t ht ih b σ hz => ?_)
  have ht0 : 5 * t ≤ L := by omega
  refine go_iload_n dL_law_18 rfl ?_
  refine go_aload_o dL_law_19 rfl ?_
  refine go_slen hX dL_law_20 ?_
  refine go_iconst (v := nI 5) dL_law_21 (by decide) ?_
  refine go_isub dL_law_22 ?_
  have hi : (nI L - nI 5).toInt = (L : Int) - (5 : Nat) := pk_sub_toInt (by omega) (by omega)
  have hx : (nI (5 * t)).toInt = ((5 * t : Nat) : Int) := nI_toInt (by omega)
  refine go_icmp_gt 1279 dL_law_23 (by decide) (fun c23 => ?_) (fun c23 => ?_)
  · refine go_iconst (v := 1) dL_law_1279 (by decide) ?_
    exact go_zret (ty := .boolean) dL_law_1280 rfl (by rw [Bool.and_eq_true, Nat.ble_eq, Nat.ble_eq]; unfold lwn; dsimp only; omega) (by decide) rfl
  · rw [fa_lt, hi, hx] at c23
    have ht5 : 5 * t + 5 ≤ L := by omega
    have htl : t < L / 5 := by omega
    have E : ∀ b σ, zS σ → Go κ mL_law 1273 (lwv t) [] (wd (gg b) σ) (lwn (t + 1)) (fun r _ => r = some (.int 1)) := fun b σ hz => by
      refine go_iincN (lv' := lwv (t + 1)) 5 dL_law_1273 (by decide) (x := 5 * t) rfl rfl rfl ?_ ?_
      · show [some (.retAddr 1000), some (.ref 0), some (.ref 47), some (.int (nI (5 * t + 5)))] = lwv (t + 1)
        rw [lwv, show 5 * (t + 1) = 5 * t + 5 by omega]
      · exact go_goto 18 dL_law_1276 (by decide) (ih htl b σ hz)
    have ht : t < 512 := by omega
    refine go_aload_o dL_law_26 rfl ?_
    refine go_iload_n dL_law_27 rfl ?_
    refine go_sld hX dL_law_28 (by omega) hL ?_
    refine go_bipush (v := nI 63) dL_law_29 (by decide) ?_
    refine go_iand dL_law_31 ?_
    refine go_tsw 34 [188, 241, 264, 317, 340, 383, 406, 439, 472, 505, 568, 581, 614, 647, 680, 703, 736, 769, 812, 835, 858, 871, 904, 937, 960, 983, 1036, 1069, 1092, 1125, 1158, 1181, 1204, 1227, 1250] 1273 dL_law_32 (by decide) (by decide) (fun _ => go_widen (m := lwn (t + 1)) (by unfold lwn; dsimp only; omega) (by unfold lwn; dsimp only; omega) (E b σ hz)) (fun k hk _ => ?_)
    match k, hk with
    | 0, _ => exact lwc_0 κ hX hL ht5 b σ hz E
    | 1, _ => exact lwc_1 κ hX hL ht5 b σ hz E
    | 2, _ => exact lwc_2 κ hX hL ht5 b σ hz E
    | 3, _ => exact lwc_3 κ hX hL ht5 b σ hz E
    | 4, _ => exact lwc_4 κ hX hL ht5 b σ hz E
    | 5, _ => exact lwc_5 κ hX hL ht5 b σ hz E
    | 6, _ => exact lwc_6 κ hX hL ht5 b σ hz E
    | 7, _ => exact lwc_7 κ hX hL ht5 b σ hz E
    | 8, _ => exact lwc_8 κ hX hL ht5 b σ hz E
    | 9, _ => exact lwc_9 κ hX hL ht5 b σ hz E
    | 10, _ => exact lwc_10 κ T hX hL ht5 b σ hz E
    | 11, _ => exact lwc_11 κ hX hL ht5 b σ hz E
    | 12, _ => exact lwc_12 κ hX hL ht5 b σ hz E
    | 13, _ => exact lwc_13 κ hX hL ht5 b σ hz E
    | 14, _ => exact lwc_14 κ hX hL ht5 b σ hz E
    | 15, _ => exact lwc_15 κ hX hL ht5 b σ hz E
    | 16, _ => exact lwc_16 κ hX hL ht5 b σ hz E
    | 17, _ => exact lwc_17 κ hX hL ht5 b σ hz E
    | 18, _ => exact lwc_18 κ hX hL ht5 b σ hz E
    | 19, _ => exact lwc_19 κ hX hL ht5 b σ hz E
    | 20, _ => exact lwc_20 κ hX hL ht5 b σ hz E
    | 21, _ => exact lwc_21 κ hX hL ht5 b σ hz E
    | 22, _ => exact lwc_22 κ hX hL ht5 b σ hz E
    | 23, _ => exact lwc_23 κ hX hL ht5 b σ hz E
    | 24, _ => exact lwc_24 κ hX hL ht5 b σ hz E
    | 25, _ => exact lwc_25 κ hX hL ht5 b σ hz E
    | 26, _ => exact lwc_26 κ hX hL ht5 b σ hz E
    | 27, _ => exact lwc_27 κ hX hL ht5 b σ hz E
    | 28, _ => exact lwc_28 κ hX hL ht5 b σ hz E
    | 29, _ => exact lwc_29 κ hX hL ht5 b σ hz E
    | 30, _ => exact lwc_30 κ hX hL ht5 b σ hz E
    | 31, _ => exact lwc_31 κ hX hL ht5 b σ hz E
    | 32, _ => exact lwc_32 κ hX hL ht5 b σ hz E
    | 33, _ => exact lwc_33 κ hX hL ht5 b σ hz E
    | 34, _ => exact lwc_34 κ hX hL ht5 b σ hz E
    | k + 35, hk => exact absurd hk (by omega)
