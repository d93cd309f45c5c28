def s_padd (σ : wg_S) (n : Nat) (s set : Int32) : wg_S := us (us (us σ 36 n s) 37 n set) 34 2 (nI (n + 1))
theorem cX5_add_ok (κ : gm_K) (b : Bool) (σ : wg_S) (n : Nat) (hn : n < 9) (hN : σ 34 2 = nI n) (s set : Int32) : Fn κ mX5_add [.ref 34, .int s, .int set] (gg b) σ none (gg b) (s_padd σ n s set) := by
  refine go_start (by decide) (Nat.le_of_ble_eq_true rfl) ?_
  refine go_aload_n dX5_add_0 rfl ?_
  refine gs_gi dX5_add_1 flX5_19 (gg_34 b) rfl (hN) ?_
  refine go_bipush (v := nI 9) dX5_add_4 (by decide) ?_
  refine go_icmp_geN 39 dX5_add_6 (by decide) (by omega) (by omega) (fun c6 => ?_) (fun c6 => ?_)
  · exact absurd c6 (by omega)
  · refine go_aload_n dX5_add_9 rfl ?_
    refine gs_gr dX5_add_10 flX5_22 (gg_34 b) rfl ?_
    refine go_aload_n dX5_add_13 rfl ?_
    refine gs_gi dX5_add_14 flX5_19 (gg_34 b) rfl (hN) ?_
    refine go_iload_n dX5_add_17 rfl ?_
    refine gs_iast (_) dX5_add_18 (gg_36 b) (rfl) (by omega) rfl ?_
    refine go_aload_n dX5_add_19 rfl ?_
    refine gs_gr dX5_add_20 flX5_25 (gg_34 b) rfl ?_
    refine go_aload_n dX5_add_23 rfl ?_
    refine gs_gi dX5_add_24 flX5_19 (gg_34 b) rfl (show _ = nI n by simpa [us] using hN) ?_
    refine go_iload_n dX5_add_27 rfl ?_
    refine gs_iast (_) dX5_add_28 (gg_37 b) (rfl) (by omega) rfl ?_
    refine go_aload_n dX5_add_29 rfl ?_
    refine go_dup dX5_add_30 rfl ?_
    refine gs_gi dX5_add_31 flX5_19 (gg_34 b) rfl (show _ = nI n by simpa [us] using hN) ?_
    refine go_iconst (v := nI 1) dX5_add_34 (by decide) ?_
    refine go_iaddN dX5_add_35 ?_
    refine gs_pi dX5_add_36 flX5_19 (gg_34 b) rfl (fun q hq => by cases hq; exact ⟨rfl, rfl⟩) ?_
    refine go_vret dX5_add_39 rfl rfl ?_
    exact ⟨rfl, rfl⟩
def swt (σ : wg_S) (u : Nat) (l : Option Nat) (x : Nat) : Int32 := (match l with | none => nI 0 | some l => σ 38 (l * 9 + x)) + σ 85 ((u ||| 2 ^ x) * 9 + x)
/-- the least sum if x comes next, at most NEVER -/
def swh (σ : wg_S) (u : Nat) (l : Option Nat) (x : Nat) : Int32 := if swt σ u l x < 1000000 then swt σ u l x else 1000000
theorem cX5_sumWith_n (κ : gm_K) (σ : wg_S) (u x : Nat) (hu : u < 512) (hx : x < 9) : Fn κ mX5_sumWith [.ref 34, .int (nI u), .int (-1), .int (nI x)] (gg true) σ (some (.int (swh σ u none x))) (gg true) σ := by
  refine go_start (by decide) (Nat.le_of_ble_eq_true rfl) ?_
  have hor := or_lt9 hu hx
  refine go_iload_n dX5_sumWith_0 rfl ?_
  refine go_iconst (v := -1) dX5_sumWith_1 (by decide) ?_
  refine go_icmp_ne 9 dX5_sumWith_2 (by decide) (fun z => absurd z (by decide)) (fun _ => ?_)
  refine go_iconst (v := nI 0) dX5_sumWith_5 (by decide) ?_
  refine go_goto 20 dX5_sumWith_6 (by decide) ?_
  refine go_istore (lv' := [_, _, _, _, _]) dX5_sumWith_20 rfl rfl rfl ?_
  refine go_ldc dX5_sumWith_22 kiX5_40 ?_
  refine go_iload dX5_sumWith_24 rfl ?_
  refine go_aload_n dX5_sumWith_26 rfl ?_
  refine gs_gr (q := 85) dX5_sumWith_27 flX5_31 (gg_34 true) rfl ?_
  refine go_iload_n dX5_sumWith_30 rfl ?_
  refine go_iconst (v := nI 1) dX5_sumWith_31 (by decide) ?_
  refine go_iload_n dX5_sumWith_32 rfl ?_
  refine go_ishl dX5_sumWith_33 ?_
  refine go_ior dX5_sumWith_34 ?_
  refine go_topI (by rw [shl1 _ (by omega), nI_or]) ?_
  refine go_bipush (v := nI 9) dX5_sumWith_35 (by decide) ?_
  refine go_imulN dX5_sumWith_37 ?_
  refine go_iload_n dX5_sumWith_38 rfl ?_
  refine go_iaddN dX5_sumWith_39 ?_
  refine gs_iald (_) dX5_sumWith_40 (gg_85 true) (rfl) (by omega) rfl (rfl) ?_
  refine go_iadd dX5_sumWith_41 ?_
  refine gs_callSi dX5_sumWith_42 csX5_sumWith_52 (cJ9_min_ok κ true σ _ _) rfl rfl rfl ⟨rfl, rfl⟩ rfl ?_
  refine go_iret dX5_sumWith_45 rfl rfl ?_
  exact ⟨rfl, rfl⟩
theorem cX5_sumWith_s (κ : gm_K) (σ : wg_S) (u x : Nat) (hu : u < 512) (hx : x < 9) (l : Nat) (hl : l < 9) : Fn κ mX5_sumWith [.ref 34, .int (nI u), .int (nI l), .int (nI x)] (gg true) σ (some (.int (swh σ u (some l) x))) (gg true) σ := by
  refine go_start (by decide) (Nat.le_of_ble_eq_true rfl) ?_
  have hor := or_lt9 hu hx
  refine go_iload_n dX5_sumWith_0 rfl ?_
  refine go_iconst (v := -1) dX5_sumWith_1 (by decide) ?_
  refine go_icmp_ne 9 dX5_sumWith_2 (by decide) (fun c2 => ?_) (fun c2 => ?_)
  · refine go_aload_n dX5_sumWith_9 rfl ?_
    refine gs_gr dX5_sumWith_10 flX5_28 (gg_34 true) rfl ?_
    refine go_iload_n dX5_sumWith_13 rfl ?_
    refine go_bipush (v := nI 9) dX5_sumWith_14 (by decide) ?_
    refine go_imulN dX5_sumWith_16 ?_
    refine go_iload_n dX5_sumWith_17 rfl ?_
    refine go_iaddN dX5_sumWith_18 ?_
    refine gs_iald (_) dX5_sumWith_19 (gg_38 true) (rfl) (by omega) rfl (rfl) ?_
    refine go_istore (lv' := [_, _, _, _, _]) dX5_sumWith_20 rfl rfl rfl ?_
    refine go_ldc dX5_sumWith_22 kiX5_40 ?_
    refine go_iload dX5_sumWith_24 rfl ?_
    refine go_aload_n dX5_sumWith_26 rfl ?_
    refine gs_gr (q := 85) dX5_sumWith_27 flX5_31 (gg_34 true) rfl ?_
    refine go_iload_n dX5_sumWith_30 rfl ?_
    refine go_iconst (v := nI 1) dX5_sumWith_31 (by decide) ?_
    refine go_iload_n dX5_sumWith_32 rfl ?_
    refine go_ishl dX5_sumWith_33 ?_
    refine go_ior dX5_sumWith_34 ?_
    refine go_topI (by rw [shl1 _ (by omega), nI_or]) ?_
    refine go_bipush (v := nI 9) dX5_sumWith_35 (by decide) ?_
    refine go_imulN dX5_sumWith_37 ?_
    refine go_iload_n dX5_sumWith_38 rfl ?_
    refine go_iaddN dX5_sumWith_39 ?_
    refine gs_iald (_) dX5_sumWith_40 (gg_85 true) (rfl) (by omega) rfl (rfl) ?_
    refine go_iadd dX5_sumWith_41 ?_
    refine gs_callSi dX5_sumWith_42 csX5_sumWith_52 (cJ9_min_ok κ true σ _ _) rfl rfl rfl ⟨rfl, rfl⟩ rfl ?_
    refine go_iret dX5_sumWith_45 rfl rfl ?_
    exact ⟨rfl, rfl⟩
  · exact absurd c2 (nI_m1 (by omega))
def mnr (σ : wg_S) (u : Nat) (l : Option Nat) : Nat → Int32
  | 0 => 1000000
  | k + 1 => if u / 2 ^ k % 2 = 0 then (if swh σ u l k < mnr σ u l k then swh σ u l k else mnr σ u l k) else mnr σ u l k
/-- the least sum still to come behind u sung, l last -/
def lrs (σ : wg_S) (n u l : Nat) : Int32 := if u = 2 ^ n - 1 then nI 0 else mnr σ u (some l) n
theorem cX5_leastRest_ok (κ : gm_K) (σ : wg_S) (n : Nat) (hn : n ≤ 9) (hN : σ 34 2 = nI n) (u l : Nat) (hu : u < 512) (hl : l < 9) : Fn κ mX5_leastRest [.ref 34, .int (nI u), .int (nI l)] (gg true) σ (some (.int (lrs σ n u l))) (gg true) σ := by
  refine go_start (by decide) (Nat.le_of_ble_eq_true rfl) ?_
  have hp := p2_9 n hn
  refine go_iload_n dX5_leastRest_0 rfl ?_
  refine go_iconst (v := nI 1) dX5_leastRest_1 (by decide) ?_
  refine go_aload_n dX5_leastRest_2 rfl ?_
  refine gs_gi dX5_leastRest_3 flX5_19 (gg_34 true) rfl (hN) ?_
  refine go_ishl dX5_leastRest_6 ?_
  refine go_iconst (v := nI 1) dX5_leastRest_7 (by decide) ?_
  refine go_isub dX5_leastRest_8 ?_
  refine go_topI (shlm n (by omega)) ?_
  refine go_icmp_neN 14 dX5_leastRest_9 (by decide) (by omega) (by omega) (fun c9 => ?_) (fun c9 => ?_)
  · refine go_ldc dX5_leastRest_14 kiX5_40 ?_
    refine go_istore_n (lv' := [_, _, _, _, _]) dX5_leastRest_16 rfl rfl rfl ?_
    refine go_iconst (v := nI 0) dX5_leastRest_17 (by decide) ?_
    refine go_istore (lv' := [_, _, _, _, _]) dX5_leastRest_18 rfl rfl rfl ?_
    have hr : lrs σ n u l = mnr σ u (some l) n := if_neg c9
    refine lo_up n (P := fun i => Go κ mX5_leastRest 20 [some (.ref 34), some (.int (nI u)), some (.int (nI l)), some (.int (mnr σ u (some l) i)), some (.int (nI i))] [] (wd (gg true) σ) (0, 0) _) (fun i hi ih => ?_) 0 (Nat.zero_le _)
    refine go_iload dX5_leastRest_20 rfl ?_
    refine go_aload_n dX5_leastRest_22 rfl ?_
    refine gs_gi dX5_leastRest_23 flX5_19 (gg_34 true) rfl (hN) ?_
    refine go_icmp_geN 57 dX5_leastRest_26 (by decide) (by omega) (by omega) (fun c26 => ?_) (fun c26 => ?_)
    · refine go_iload_n dX5_leastRest_57 rfl ?_
      refine go_iret dX5_leastRest_58 rfl rfl ?_
      have e : i = n := by omega
      subst e
      exact ⟨by rw [hr], rfl⟩
    · refine go_iload_n dX5_leastRest_29 rfl ?_
      refine go_iload dX5_leastRest_30 rfl ?_
      refine go_ishr dX5_leastRest_32 ?_
      refine go_iconst (v := nI 1) dX5_leastRest_33 (by decide) ?_
      refine go_iand dX5_leastRest_34 ?_
      refine go_topI (bv_nI (by omega) (by omega)) ?_
      refine go_if_neN 51 dX5_leastRest_35 (by decide) (by omega) (fun c35 => ?_) (fun c35 => ?_)
      · refine go_iincN (lv' := [_, _, _, _, _]) 1 dX5_leastRest_51 (by decide) rfl rfl rfl rfl ?_
        refine go_goto 20 dX5_leastRest_54 (by decide) ?_
        exact go_wk (by simp [lvle, mnr, c35]) (ih c26)
      · refine go_iload_n dX5_leastRest_38 rfl ?_
        refine go_aload_n dX5_leastRest_39 rfl ?_
        refine go_iload_n dX5_leastRest_40 rfl ?_
        refine go_iload_n dX5_leastRest_41 rfl ?_
        refine go_iload dX5_leastRest_42 rfl ?_
        refine gs_callVi dX5_leastRest_44 cvX5_leastRest_48 (cX5_sumWith_s κ σ u _ hu (by omega) l hl) rfl (gg_34 true) rfl rfl rfl ⟨rfl, rfl⟩ rfl ?_
        refine gs_callSi dX5_leastRest_47 csX5_leastRest_52 (cJ9_min_ok κ true σ _ _) rfl rfl rfl ⟨rfl, rfl⟩ rfl ?_
        refine go_istore_n (lv' := [_, _, _, _, _]) dX5_leastRest_50 rfl rfl rfl ?_
        refine go_iincN (lv' := [_, _, _, _, _]) 1 dX5_leastRest_51 (by decide) rfl rfl rfl rfl ?_
        refine go_goto 20 dX5_leastRest_54 (by decide) ?_
        exact go_wk (by simp [lvle, mnr, c35]) (ih c26)
  · refine go_iconst (v := nI 0) dX5_leastRest_12 (by decide) ?_
    refine go_iret dX5_leastRest_13 rfl rfl ?_
    exact ⟨by rw [lrs, if_pos c9], rfl⟩
def lsi (σ : wg_S) (n u : Nat) : Nat → wg_S
  | 0 => σ
  | l + 1 => if u / 2 ^ l % 2 = 1 then us (lsi σ n u l) 85 (u * 9 + l) (lrs (lsi σ n u l) n u l) else lsi σ n u l
def lso (σ : wg_S) (n : Nat) : Nat → wg_S
  | 0 => σ
  | k + 1 => lsi (lso σ n k) n (2 ^ n - 1 - k) n
theorem lsi_p {σ : wg_S} {n u p : Nat} (h : p ≠ 85) : ∀ l, lsi σ n u l p = σ p
  | 0 => rfl
  | l + 1 => by
    rw [show lsi σ n u (l + 1) = if u / 2 ^ l % 2 = 1 then us (lsi σ n u l) 85 (u * 9 + l) (lrs (lsi σ n u l) n u l) else lsi σ n u l from rfl]
    split
    · rw [us_p h]; exact lsi_p h l
    · exact lsi_p h l
theorem lso_p {σ : wg_S} {n p : Nat} (h : p ≠ 85) : ∀ k, lso σ n k p = σ p
  | 0 => rfl
  | k + 1 => by rw [lso, lsi_p h]; exact lso_p h k
def lsm (σ : wg_S) : Nat → Int32
  | 0 => 1000000
  | k + 1 => if swh σ 0 none k < lsm σ k then swh σ 0 none k else lsm σ k
theorem cX5_leastSum_ok (κ : gm_K) (σ : wg_S) (n : Nat) (hn : n ≤ 9) (hN : σ 34 2 = nI n) : Fn κ mX5_leastSum [.ref 34] (gg true) σ (some (.int (lsm (lso σ n (2 ^ n - 1)) n))) (gg true) (lso σ n (2 ^ n - 1)) := by
  refine go_start (by decide) (Nat.le_of_ble_eq_true rfl) ?_
  have hp := p2_9 n hn
  have hp1 : 1 ≤ 2 ^ n := Nat.one_le_two_pow
  have inner : ∀ (u : Nat) (τ : wg_S), u < 512 → τ 34 2 = nI n → ∀ Φ, Go κ mX5_leastSum 55 [some (.ref 34), some (.int (nI u)), none] [] (wd (gg true) (lsi τ n u n)) (0, 0) Φ → Go κ mX5_leastSum 13 [some (.ref 34), some (.int (nI u)), none] [] (wd (gg true) τ) (0, 0) Φ := by
    intro u τ hu hN Φ hend
    refine go_iconst (v := nI 0) dX5_leastSum_13 (by decide) ?_
    refine go_istore_n (lv' := [_, _, _]) dX5_leastSum_14 rfl rfl rfl ?_
    skip
    refine lo_up n (P := fun i => Go κ mX5_leastSum 15 [some (.ref 34), some (.int (nI u)), some (.int (nI i))] [] (wd (gg true) (lsi τ n u i)) (0, 0) _) (fun i hi ih => ?_) 0 (Nat.zero_le _)
    have hN' : lsi τ n u i 34 2 = nI n := (congrFun (lsi_p (by decide) i) 2).trans hN
    refine go_iload_n dX5_leastSum_15 rfl ?_
    refine go_aload_n dX5_leastSum_16 rfl ?_
    refine gs_gi dX5_leastSum_17 flX5_19 (gg_34 true) rfl (hN') ?_
    refine go_icmp_geN 55 dX5_leastSum_20 (by decide) (by omega) (by omega) (fun c20 => ?_) (fun c20 => ?_)
    · have e : i = n := by omega
      subst e
      exact go_wk (by exact ⟨rfl, rfl, trivial⟩) hend
    · refine go_iload_n dX5_leastSum_23 rfl ?_
      refine go_iload_n dX5_leastSum_24 rfl ?_
      refine go_ishr dX5_leastSum_25 ?_
      refine go_iconst (v := nI 1) dX5_leastSum_26 (by decide) ?_
      refine go_iand dX5_leastSum_27 ?_
      refine go_topI (bv_nI (by omega) (by omega)) ?_
      refine go_iconst (v := nI 1) dX5_leastSum_28 (by decide) ?_
      refine go_icmp_neN 49 dX5_leastSum_29 (by decide) (by omega) (by omega) (fun c29 => ?_) (fun c29 => ?_)
      · have hs : lsi τ n u (i + 1) = lsi τ n u i := if_neg c29
        refine go_iincN (lv' := [_, _, _]) 1 dX5_leastSum_49 (by decide) rfl rfl rfl rfl ?_
        refine go_goto 15 dX5_leastSum_52 (by decide) ?_
        exact go_wkh (by simp [lvle]) (by rw [hs]) (ih c20)
      · have hs : lsi τ n u (i + 1) = us (lsi τ n u i) 85 (u * 9 + i) (lrs (lsi τ n u i) n u i) := if_pos c29
        refine go_aload_n dX5_leastSum_32 rfl ?_
        refine gs_gr (q := 85) dX5_leastSum_33 flX5_31 (gg_34 true) rfl ?_
        refine go_iload_n dX5_leastSum_36 rfl ?_
        refine go_bipush (v := nI 9) dX5_leastSum_37 (by decide) ?_
        refine go_imulN dX5_leastSum_39 ?_
        refine go_iload_n dX5_leastSum_40 rfl ?_
        refine go_iaddN dX5_leastSum_41 ?_
        refine go_aload_n dX5_leastSum_42 rfl ?_
        refine go_iload_n dX5_leastSum_43 rfl ?_
        refine go_iload_n dX5_leastSum_44 rfl ?_
        refine gs_callVi dX5_leastSum_45 cvX5_leastSum_44 (cX5_leastRest_ok κ (lsi τ n u i) n hn hN' u i hu (by omega)) rfl (gg_34 true) rfl rfl rfl ⟨rfl, rfl⟩ rfl ?_
        refine gs_iast (_) dX5_leastSum_48 (gg_85 true) (rfl) (by omega) rfl ?_
        refine go_iincN (lv' := [_, _, _]) 1 dX5_leastSum_49 (by decide) rfl rfl rfl rfl ?_
        refine go_goto 15 dX5_leastSum_52 (by decide) ?_
        exact go_wkh (by simp [lvle]) (by rw [hs]) (ih c20)
  have last : ∀ (τ : wg_S), τ 34 2 = nI n → Go κ mX5_leastSum 61 [some (.ref 34), none, none] [] (wd (gg true) τ) (0, 0) (fun r h' => r = some (.int (lsm τ n)) ∧ h' = wd (gg true) τ) := by
    intro τ hN
    refine go_ldc dX5_leastSum_61 kiX5_40 ?_
    refine go_istore_n (lv' := [_, _, _]) dX5_leastSum_63 rfl rfl rfl ?_
    refine go_iconst (v := nI 0) dX5_leastSum_64 (by decide) ?_
    refine go_istore_n (lv' := [_, _, _]) dX5_leastSum_65 rfl rfl rfl ?_
    skip
    refine lo_up n (P := fun i => Go κ mX5_leastSum 66 [some (.ref 34), some (.int (lsm τ i)), some (.int (nI i))] [] (wd (gg true) τ) (0, 0) _) (fun i hi ih => ?_) 0 (Nat.zero_le _)
    refine go_iload_n dX5_leastSum_66 rfl ?_
    refine go_aload_n dX5_leastSum_67 rfl ?_
    refine gs_gi dX5_leastSum_68 flX5_19 (gg_34 true) rfl (hN) ?_
    refine go_icmp_geN 92 dX5_leastSum_71 (by decide) (by omega) (by omega) (fun c71 => ?_) (fun c71 => ?_)
    · refine go_iload_n dX5_leastSum_92 rfl ?_
      refine go_iret dX5_leastSum_93 rfl rfl ?_
      have e : i = n := by omega
      subst e
      exact ⟨rfl, rfl⟩
    · refine go_iload_n dX5_leastSum_74 rfl ?_
      refine go_aload_n dX5_leastSum_75 rfl ?_
      refine go_iconst (v := nI 0) dX5_leastSum_76 (by decide) ?_
      refine go_iconst (v := -1) dX5_leastSum_77 (by decide) ?_
      refine go_iload_n dX5_leastSum_78 rfl ?_
      refine gs_callVi dX5_leastSum_79 cvX5_leastSum_48 (cX5_sumWith_n κ τ 0 i (by decide) (by omega)) rfl (gg_34 true) rfl rfl rfl ⟨rfl, rfl⟩ rfl ?_
      refine gs_callSi dX5_leastSum_82 csX5_leastSum_52 (cJ9_min_ok κ true τ _ _) rfl rfl rfl ⟨rfl, rfl⟩ rfl ?_
      refine go_istore_n (lv' := [_, _, _]) dX5_leastSum_85 rfl rfl rfl ?_
      refine go_iincN (lv' := [_, _, _]) 1 dX5_leastSum_86 (by decide) rfl rfl rfl rfl ?_
      refine go_goto 66 dX5_leastSum_89 (by decide) ?_
      exact ih c71
  have outer : ∀ (u k : Nat), u + k = 2 ^ n - 1 → Go κ mX5_leastSum 9 [some (.ref 34), some (.int (nI u)), none] [] (wd (gg true) (lso σ n k)) (0, 0) (fun r h' => r = some (.int (lsm (lso σ n (2 ^ n - 1)) n)) ∧ h' = wd (gg true) (lso σ n (2 ^ n - 1))) := by
    intro u
    induction u with
    | zero =>
      intro k hk
      obtain rfl : k = 2 ^ n - 1 := by omega
      refine go_iload_n dX5_leastSum_9 rfl ?_
      refine go_if_le 61 dX5_leastSum_10 (by decide) (fun _ => ?_) (fun z => absurd z (by decide))
      exact go_wk (by exact ⟨rfl, trivial⟩) (last _ ((congrFun (lso_p (by decide) _) 2).trans hN))
    | succ u ih =>
      intro k hk
      refine go_iload_n dX5_leastSum_9 rfl ?_
      refine go_if_le 61 dX5_leastSum_10 (by decide) (fun c10 => ?_) (fun c10 => ?_)
      · exact absurd c10 (nI_nle (by omega) (by omega))
      · refine go_wk (by exact ⟨rfl, rfl, trivial⟩) (inner (u + 1) (lso σ n k) (by omega) ((congrFun (lso_p (by decide) _) 2).trans hN) _ ?_)
        refine go_iinc (lv' := [_, _, _]) dX5_leastSum_55 rfl (nI_dec u) rfl rfl rfl ?_
        refine go_goto 9 dX5_leastSum_58 (by decide) ?_
        have e : 2 ^ n - 1 - k = u + 1 := by omega
        have h2 : lso σ n (k + 1) = lsi (lso σ n k) n (u + 1) n := by rw [lso, e]
        exact go_wkh (by exact ⟨rfl, rfl, trivial⟩) (by rw [h2]) (ih (k + 1) (by omega))
  refine go_iconst (v := nI 1) dX5_leastSum_0 (by decide) ?_
  refine go_aload_n dX5_leastSum_1 rfl ?_
  refine gs_gi dX5_leastSum_2 flX5_19 (gg_34 true) rfl (hN) ?_
  refine go_ishl dX5_leastSum_5 ?_
  refine go_iconst (v := nI 1) dX5_leastSum_6 (by decide) ?_
  refine go_isub dX5_leastSum_7 ?_
  refine go_topI (shlm n (by omega)) ?_
  refine go_istore_n (lv' := [_, _, _]) dX5_leastSum_8 rfl rfl rfl ?_
  skip
  exact go_wk (by exact ⟨rfl, rfl, trivial⟩) (outer (2 ^ n - 1) 0 (by omega))
def lnb (σ : wg_S) (u : Nat) (l : Option Nat) (left : Int32) (x : Nat) : Bool := decide (u / 2 ^ x % 2 = 0) && decide (swh σ u l x = left)
def lnx (σ : wg_S) (n u : Nat) (l : Option Nat) (left : Int32) : Nat := (fnd (lnb σ u l left) n).getD 0
theorem lnx_lt {σ : wg_S} {n u : Nat} {l : Option Nat} {left : Int32} (hn : n ≤ 9) : lnx σ n u l left < 9 := by
  unfold lnx
  cases h : fnd (lnb σ u l left) n with
  | none => decide
  | some x => have := (fnd_lt h).1; show x < 9; omega
theorem cX5_leastNext_n (κ : gm_K) (σ : wg_S) (n : Nat) (hn : n ≤ 9) (hN : σ 34 2 = nI n) (u : Nat) (hu : u < 512) (left : Int32) : Fn κ mX5_leastNext [.ref 34, .int (nI u), .int (-1), .int left] (gg true) σ (some (.int (nI (lnx σ n u none left)))) (gg true) σ := by
  refine go_start (by decide) (Nat.le_of_ble_eq_true rfl) ?_
  refine go_iconst (v := nI 0) dX5_leastNext_0 (by decide) ?_
  refine go_istore (lv' := [_, _, _, _, _]) dX5_leastNext_1 rfl rfl rfl ?_
  skip
  have loop : ∀ (i : Nat), i ≤ n → fnd (lnb σ u none left) i = none → Go κ mX5_leastNext 3 [some (.ref 34), some (.int (nI u)), some (.int (-1)), some (.int left), some (.int (nI i))] [] (wd (gg true) σ) (0, 0) (fun r h' => r = some (.int (nI (lnx σ n u none left))) ∧ h' = wd (gg true) σ) := by
    refine lo_up n (fun i hi ih ha => ?_)
    refine go_iload dX5_leastNext_3 rfl ?_
    refine go_aload_n dX5_leastNext_5 rfl ?_
    refine gs_gi dX5_leastNext_6 flX5_19 (gg_34 true) rfl (hN) ?_
    refine go_icmp_geN 42 dX5_leastNext_9 (by decide) (by omega) (by omega) (fun c9 => ?_) (fun c9 => ?_)
    · refine go_iconst (v := nI 0) dX5_leastNext_42 (by decide) ?_
      refine go_iret dX5_leastNext_43 rfl rfl ?_
      have e : i = n := by omega
      subst e
      exact ⟨by rw [lnx, ha]; rfl, rfl⟩
    · refine go_iload_n dX5_leastNext_12 rfl ?_
      refine go_iload dX5_leastNext_13 rfl ?_
      refine go_ishr dX5_leastNext_15 ?_
      refine go_iconst (v := nI 1) dX5_leastNext_16 (by decide) ?_
      refine go_iand dX5_leastNext_17 ?_
      refine go_topI (bv_nI (by omega) (by omega)) ?_
      refine go_if_neN 36 dX5_leastNext_18 (by decide) (by omega) (fun c18 => ?_) (fun c18 => ?_)
      · refine go_iincN (lv' := [_, _, _, _, _]) 1 dX5_leastNext_36 (by decide) rfl rfl rfl rfl ?_
        refine go_goto 3 dX5_leastNext_39 (by decide) ?_
        exact ih c9 (by simp [fnd, ha, lnb, c9, c18])
      · refine go_aload_n dX5_leastNext_21 rfl ?_
        refine go_iload_n dX5_leastNext_22 rfl ?_
        refine go_iload_n dX5_leastNext_23 rfl ?_
        refine go_iload dX5_leastNext_24 rfl ?_
        refine gs_callVi dX5_leastNext_26 cvX5_leastNext_48 (cX5_sumWith_n κ σ u i hu (by omega)) rfl (gg_34 true) rfl rfl rfl ⟨rfl, rfl⟩ rfl ?_
        refine go_iload_n dX5_leastNext_29 rfl ?_
        refine go_icmp_ne 36 dX5_leastNext_30 (by decide) (fun c30 => ?_) (fun c30 => ?_)
        · refine go_iincN (lv' := [_, _, _, _, _]) 1 dX5_leastNext_36 (by decide) rfl rfl rfl rfl ?_
          refine go_goto 3 dX5_leastNext_39 (by decide) ?_
          exact ih c9 (by simp [fnd, ha, lnb, c9, c18, c30])
        · refine go_iload dX5_leastNext_33 rfl ?_
          refine go_iret dX5_leastNext_35 rfl rfl ?_
          exact ⟨by rw [lnx, fnd_hit ha (by simp [lnb, c9, c18, c30]) n c9]; rfl, rfl⟩
  exact loop 0 (Nat.zero_le _) rfl
theorem cX5_leastNext_s (κ : gm_K) (σ : wg_S) (n : Nat) (hn : n ≤ 9) (hN : σ 34 2 = nI n) (u : Nat) (hu : u < 512) (left : Int32) (l : Nat) (hl : l < 9) : Fn κ mX5_leastNext [.ref 34, .int (nI u), .int (nI l), .int left] (gg true) σ (some (.int (nI (lnx σ n u (some l) left)))) (gg true) σ := by
  refine go_start (by decide) (Nat.le_of_ble_eq_true rfl) ?_
  refine go_iconst (v := nI 0) dX5_leastNext_0 (by decide) ?_
  refine go_istore (lv' := [_, _, _, _, _]) dX5_leastNext_1 rfl rfl rfl ?_
  skip
  have loop : ∀ (i : Nat), i ≤ n → fnd (lnb σ u (some l) left) i = none → Go κ mX5_leastNext 3 [some (.ref 34), some (.int (nI u)), some (.int (nI l)), some (.int left), some (.int (nI i))] [] (wd (gg true) σ) (0, 0) (fun r h' => r = some (.int (nI (lnx σ n u (some l) left))) ∧ h' = wd (gg true) σ) := by
    refine lo_up n (fun i hi ih ha => ?_)
    refine go_iload dX5_leastNext_3 rfl ?_
    refine go_aload_n dX5_leastNext_5 rfl ?_
    refine gs_gi dX5_leastNext_6 flX5_19 (gg_34 true) rfl (hN) ?_
    refine go_icmp_geN 42 dX5_leastNext_9 (by decide) (by omega) (by omega) (fun c9 => ?_) (fun c9 => ?_)
    · refine go_iconst (v := nI 0) dX5_leastNext_42 (by decide) ?_
      refine go_iret dX5_leastNext_43 rfl rfl ?_
      have e : i = n := by omega
      subst e
      exact ⟨by rw [lnx, ha]; rfl, rfl⟩
    · refine go_iload_n dX5_leastNext_12 rfl ?_
      refine go_iload dX5_leastNext_13 rfl ?_
      refine go_ishr dX5_leastNext_15 ?_
      refine go_iconst (v := nI 1) dX5_leastNext_16 (by decide) ?_
      refine go_iand dX5_leastNext_17 ?_
      refine go_topI (bv_nI (by omega) (by omega)) ?_
      refine go_if_neN 36 dX5_leastNext_18 (by decide) (by omega) (fun c18 => ?_) (fun c18 => ?_)
      · refine go_iincN (lv' := [_, _, _, _, _]) 1 dX5_leastNext_36 (by decide) rfl rfl rfl rfl ?_
        refine go_goto 3 dX5_leastNext_39 (by decide) ?_
        exact ih c9 (by simp [fnd, ha, lnb, c9, c18])
      · refine go_aload_n dX5_leastNext_21 rfl ?_
        refine go_iload_n dX5_leastNext_22 rfl ?_
        refine go_iload_n dX5_leastNext_23 rfl ?_
        refine go_iload dX5_leastNext_24 rfl ?_
        refine gs_callVi dX5_leastNext_26 cvX5_leastNext_48 (cX5_sumWith_s κ σ u i hu (by omega) l hl) rfl (gg_34 true) rfl rfl rfl ⟨rfl, rfl⟩ rfl ?_
        refine go_iload_n dX5_leastNext_29 rfl ?_
        refine go_icmp_ne 36 dX5_leastNext_30 (by decide) (fun c30 => ?_) (fun c30 => ?_)
        · refine go_iincN (lv' := [_, _, _, _, _]) 1 dX5_leastNext_36 (by decide) rfl rfl rfl rfl ?_
          refine go_goto 3 dX5_leastNext_39 (by decide) ?_
          exact ih c9 (by simp [fnd, ha, lnb, c9, c18, c30])
        · refine go_iload dX5_leastNext_33 rfl ?_
          refine go_iret dX5_leastNext_35 rfl rfl ?_
          exact ⟨by rw [lnx, fnd_hit ha (by simp [lnb, c9, c18, c30]) n c9]; rfl, rfl⟩
  exact loop 0 (Nat.zero_le _) rfl
/-- the order kept, place by place: the set sung, the last one, what is left, the cells -/
def kor (σ : wg_S) (n : Nat) (left : Int32) : Nat → Nat × Option Nat × Int32 × wg_S
  | 0 => (0, none, left, σ)
  | k + 1 => match kor σ n left k with
    | (u, l, lf, τ) => (u ||| 2 ^ lnx τ n u l lf, some (lnx τ n u l lf), us τ 35 k (τ 36 (lnx τ n u l lf)) 85 ((u ||| 2 ^ lnx τ n u l lf) * 9 + lnx τ n u l lf), us τ 35 k (τ 36 (lnx τ n u l lf)))
theorem kor_s (σ : wg_S) (n : Nat) (left : Int32) (k u : Nat) (l : Option Nat) (lf : Int32) (τ : wg_S) (h : kor σ n left k = (u, l, lf, τ)) : kor σ n left (k + 1) = (u ||| 2 ^ lnx τ n u l lf, some (lnx τ n u l lf), us τ 35 k (τ 36 (lnx τ n u l lf)) 85 ((u ||| 2 ^ lnx τ n u l lf) * 9 + lnx τ n u l lf), us τ 35 k (τ 36 (lnx τ n u l lf))) := by
  rw [show kor σ n left (k + 1) = match kor σ n left k with
    | (u, l, lf, τ) => (u ||| 2 ^ lnx τ n u l lf, some (lnx τ n u l lf), us τ 35 k (τ 36 (lnx τ n u l lf)) 85 ((u ||| 2 ^ lnx τ n u l lf) * 9 + lnx τ n u l lf), us τ 35 k (τ 36 (lnx τ n u l lf))) from rfl, h]
theorem cX5_keepOrder_ok (κ : gm_K) (σ : wg_S) (n : Nat) (hn : n ≤ 9) (hN : σ 34 2 = nI n) (left : Int32) : Fn κ mX5_keepOrder [.ref 34, .int left] (gg true) σ none (gg true) (us (kor σ n left n).2.2.2 34 0 (nI n)) := by
  refine go_start (by decide) (Nat.le_of_ble_eq_true rfl) ?_
  refine go_iconst (v := nI 0) dX5_keepOrder_0 (by decide) ?_
  refine go_istore_n (lv' := [_, _, _, _, _, _, _]) dX5_keepOrder_1 rfl rfl rfl ?_
  refine go_iconst (v := -1) dX5_keepOrder_2 (by decide) ?_
  refine go_istore_n (lv' := [_, _, _, _, _, _, _]) dX5_keepOrder_3 rfl rfl rfl ?_
  refine go_iload_n dX5_keepOrder_4 rfl ?_
  refine go_istore (lv' := [_, _, _, _, _, _, _]) dX5_keepOrder_5 rfl rfl rfl ?_
  refine go_iconst (v := nI 0) dX5_keepOrder_7 (by decide) ?_
  refine go_istore (lv' := [_, _, _, _, _, _, _]) dX5_keepOrder_8 rfl rfl rfl ?_
  skip
  have loop : ∀ (i : Nat), i ≤ n → ∀ (u : Nat) (l : Option Nat) (lf : Int32) (τ : wg_S), kor σ n left i = (u, l, lf, τ) → u < 512 → (∀ x, l = some x → x < 9) → τ 34 2 = nI n → Go κ mX5_keepOrder 10 [some (.ref 34), some (.int left), some (.int (nI u)), some (.int (oI l)), some (.int lf), some (.int (nI i)), none] [] (wd (gg true) τ) (0, 0) (fun r h' => r = none ∧ h' = wd (gg true) (us (kor σ n left n).2.2.2 34 0 (nI n))) := by
    refine lo_up n (fun i hi ih u l lf τ hk hu hl hN => ?_)
    have hlx := lnx_lt (σ := τ) (u := u) (l := l) (left := lf) hn
    have hor := or_lt9 hu hlx
    have hks := kor_s σ n left i u l lf τ hk
    have hcall : Fn κ mX5_leastNext [.ref 34, .int (nI u), .int (oI l), .int lf] (gg true) τ (some (.int (nI (lnx τ n u l lf)))) (gg true) τ := by
      cases l with
      | none => exact cX5_leastNext_n κ τ n hn hN u hu lf
      | some x => exact cX5_leastNext_s κ τ n hn hN u hu lf x (hl x rfl)
    generalize hX : lnx τ n u l lf = X at hlx hor hks hcall
    refine go_iload dX5_keepOrder_10 rfl ?_
    refine go_aload_n dX5_keepOrder_12 rfl ?_
    refine gs_gi dX5_keepOrder_13 flX5_19 (gg_34 true) rfl (hN) ?_
    refine go_icmp_geN 72 dX5_keepOrder_16 (by decide) (by omega) (by omega) (fun c16 => ?_) (fun c16 => ?_)
    · refine go_aload_n dX5_keepOrder_72 rfl ?_
      refine go_aload_n dX5_keepOrder_73 rfl ?_
      refine gs_gi dX5_keepOrder_74 flX5_19 (gg_34 true) rfl (hN) ?_
      refine gs_pi dX5_keepOrder_77 flX5_9 (gg_34 true) rfl (fun q hq => by cases hq; exact ⟨rfl, rfl⟩) ?_
      refine go_vret dX5_keepOrder_80 rfl rfl ?_
      have e : i = n := by omega
      subst e
      rw [hk]
      exact ⟨rfl, rfl⟩
    · refine go_aload_n dX5_keepOrder_19 rfl ?_
      refine go_iload_n dX5_keepOrder_20 rfl ?_
      refine go_iload_n dX5_keepOrder_21 rfl ?_
      refine go_iload dX5_keepOrder_22 rfl ?_
      refine gs_callVi dX5_keepOrder_24 cvX5_keepOrder_57 (hcall) rfl (gg_34 true) rfl rfl rfl ⟨rfl, rfl⟩ rfl ?_
      refine go_istore (lv' := [_, _, _, _, _, _, _]) dX5_keepOrder_27 rfl rfl rfl ?_
      refine go_aload_n dX5_keepOrder_29 rfl ?_
      refine gs_gr dX5_keepOrder_30 flX5_15 (gg_34 true) rfl ?_
      refine go_iload dX5_keepOrder_33 rfl ?_
      refine go_aload_n dX5_keepOrder_35 rfl ?_
      refine gs_gr dX5_keepOrder_36 flX5_22 (gg_34 true) rfl ?_
      refine go_iload dX5_keepOrder_39 rfl ?_
      refine gs_iald (_) dX5_keepOrder_41 (gg_36 true) (rfl) (by omega) rfl (rfl) ?_
      refine gs_iast (_) dX5_keepOrder_42 (gg_35 true) (rfl) (by omega) rfl ?_
      refine go_iload_n dX5_keepOrder_43 rfl ?_
      refine go_iconst (v := nI 1) dX5_keepOrder_44 (by decide) ?_
      refine go_iload dX5_keepOrder_45 rfl ?_
      refine go_ishl dX5_keepOrder_47 ?_
      refine go_ior dX5_keepOrder_48 ?_
      refine go_topI (by rw [shl1 _ (by omega), nI_or]) ?_
      refine go_istore_n (lv' := [_, _, _, _, _, _, _]) dX5_keepOrder_49 rfl rfl rfl ?_
      refine go_iload dX5_keepOrder_50 rfl ?_
      refine go_istore_n (lv' := [_, _, _, _, _, _, _]) dX5_keepOrder_52 rfl rfl rfl ?_
      refine go_aload_n dX5_keepOrder_53 rfl ?_
      refine gs_gr (q := 85) dX5_keepOrder_54 flX5_31 (gg_34 true) rfl ?_
      refine go_iload_n dX5_keepOrder_57 rfl ?_
      refine go_bipush (v := nI 9) dX5_keepOrder_58 (by decide) ?_
      refine go_imulN dX5_keepOrder_60 ?_
      refine go_iload_n dX5_keepOrder_61 rfl ?_
      refine go_iaddN dX5_keepOrder_62 ?_
      refine gs_iald (_) dX5_keepOrder_63 (gg_85 true) (rfl) (by omega) rfl (rfl) ?_
      refine go_istore (lv' := [_, _, _, _, _, _, _]) dX5_keepOrder_64 rfl rfl rfl ?_
      refine go_iincN (lv' := [_, _, _, _, _, _, _]) 1 dX5_keepOrder_66 (by decide) rfl rfl rfl rfl ?_
      refine go_goto 10 dX5_keepOrder_69 (by decide) ?_
      exact go_wk (by simp [lvle, oI]) (ih c16 _ _ _ _ hks hor (fun x h => by cases h; exact hlx) (by rw [us_p (by decide)]; exact hN))
  exact go_wk (by exact ⟨rfl, rfl, rfl, rfl, rfl, rfl, trivial⟩) (loop 0 (Nat.zero_le _) 0 none left σ rfl (by decide) (fun x h => by cases h) hN)
/-- the costs: NEVER where two songs tire the young -/
def cst (σ : wg_S) (n y : Nat) (x z : Nat) : Int32 := 0
def cab (σ : wg_S) (n : Nat) (yg : Int32) (x z : Nat) : Int32 := if ¬ σ 37 x &&& yg = 0 ∧ ¬ σ 37 z &&& yg = 0 then 1000000 else sm (fun i => bv (σ 37 x ^^^ σ 37 z) i * po (σ 6 i) (nI 5)) n
def csr (σ : wg_S) (m n : Nat) (yg : Int32) (x z : Nat) : Nat → Int32 := fun k => if (k / 9 < x ∨ (k / 9 = x ∧ k % 9 < z)) ∧ k % 9 < m then cab σ n yg (k / 9) (k % 9) else σ 38 k
theorem csr_0 (σ : wg_S) (m n : Nat) (yg : Int32) : csr σ m n yg 0 0 = σ 38 := by
  funext k
  unfold csr
  rw [if_neg]
  omega
theorem csr_r (σ : wg_S) (m n : Nat) (hm : m ≤ 9) (yg : Int32) (x : Nat) : csr σ m n yg x m = csr σ m n yg (x + 1) 0 := by
  funext k
  unfold csr
  by_cases h : (k / 9 < x ∨ (k / 9 = x ∧ k % 9 < m)) ∧ k % 9 < m
  · rw [if_pos h, if_pos (by omega)]
  · rw [if_neg h, if_neg (by omega)]
theorem csr_u (σ : wg_S) (m n : Nat) (hm : m ≤ 9) (yg : Int32) (x z : Nat) (hz : z < m) : upd (csr σ m n yg x z) (x * 9 + z) (cab σ n yg x z) = csr σ m n yg x (z + 1) := by
  funext k
  by_cases hk : k = x * 9 + z
  · subst hk
    rw [pk_us]
    unfold csr
    rw [show (x * 9 + z) / 9 = x by omega, show (x * 9 + z) % 9 = z by omega, if_pos (by omega)]
  · rw [pk_un hk]
    unfold csr
    by_cases h : (k / 9 < x ∨ (k / 9 = x ∧ k % 9 < z)) ∧ k % 9 < m
    · rw [if_pos h, if_pos (by omega)]
    · rw [if_neg h, if_neg (by omega)]
theorem cX5_price_ok (κ : gm_K) (σ : wg_S) (n : Nat) (hn : n ≤ 16) (hN : σ 1 0 = nI n) (m : Nat) (hm : m ≤ 9) (hM : σ 34 2 = nI m) : Fn κ mX5_price [.ref 34, .ref 1] (gg true) σ none (gg true) (ua σ 38 (csr σ m n (om (fun i => decide (σ 2 i = nI 3)) n) m 0)) := by
  refine go_start (by decide) (Nat.le_of_ble_eq_true rfl) ?_
  refine go_aload_n dX5_price_0 rfl ?_
  refine go_iconst (v := nI 3) dX5_price_1 (by decide) ?_
  refine gs_callVi dX5_price_2 cvX5_price_34 (cX0_setOfKind_ok κ true σ n hn hN _) rfl (gg_1 true) rfl rfl rfl ⟨rfl, rfl⟩ rfl ?_
  refine go_istore_n (lv' := [_, _, _, _, _, _]) dX5_price_5 rfl rfl rfl ?_
  refine go_iconst (v := nI 0) dX5_price_6 (by decide) ?_
  refine go_istore_n (lv' := [_, _, _, _, _, _]) dX5_price_7 rfl rfl rfl ?_
  skip
  have inner : ∀ (x : Nat), x < m → ∀ Φ, Go κ mX5_price 104 [some (.ref 34), some (.ref 1), some (.int (om (fun i => decide (σ 2 i = nI 3)) n)), some (.int (nI x)), none, none] [] (wd (gg true) (ua σ 38 (csr σ m n (om (fun i => decide (σ 2 i = nI 3)) n) (x + 1) 0))) (0, 0) Φ → Go κ mX5_price 16 [some (.ref 34), some (.ref 1), some (.int (om (fun i => decide (σ 2 i = nI 3)) n)), some (.int (nI x)), none, none] [] (wd (gg true) (ua σ 38 (csr σ m n (om (fun i => decide (σ 2 i = nI 3)) n) x 0))) (0, 0) Φ := by
    intro x hx Φ hend
    refine go_iconst (v := nI 0) dX5_price_16 (by decide) ?_
    refine go_istore (lv' := [_, _, _, _, _, _]) dX5_price_17 rfl rfl rfl ?_
    skip
    refine go_wk (by exact ⟨rfl, rfl, rfl, rfl, rfl, trivial⟩) (?_ : Go κ mX5_price 19 [some (.ref 34), some (.ref 1), some (.int (om (fun i => decide (σ 2 i = nI 3)) n)), some (.int (nI x)), some (.int (nI 0)), none] [] (wd (gg true) (ua σ 38 (csr σ m n (om (fun i => decide (σ 2 i = nI 3)) n) x 0))) (0, 0) _)
    refine lo_up m (P := fun i => Go κ mX5_price 19 [some (.ref 34), some (.ref 1), some (.int (om (fun i => decide (σ 2 i = nI 3)) n)), some (.int (nI x)), some (.int (nI i)), none] [] (wd (gg true) (ua σ 38 (csr σ m n (om (fun i => decide (σ 2 i = nI 3)) n) x i))) (0, 0) _) (fun i hi ih => ?_) 0 (Nat.zero_le _)
    have hch := cX0_changeOf_ok κ true (ua σ 38 (csr σ m n (om (fun i => decide (σ 2 i = nI 3)) n) x i)) n hn ((congrFun (ua_p (by decide)) 0).trans hN) (σ 37 x ^^^ σ 37 i)
    rw [ua_p (show (6 : Nat) ≠ 38 by decide)] at hch
    have hup := csr_u σ m n hm (om (fun i => decide (σ 2 i = nI 3)) n) x i
    refine go_iload dX5_price_19 rfl ?_
    refine go_aload_n dX5_price_21 rfl ?_
    refine gs_gi dX5_price_22 flX5_19 (gg_34 true) rfl ((congrFun (ua_p (by decide)) 2).trans hM) ?_
    refine go_icmp_geN 104 dX5_price_25 (by decide) (by omega) (by omega) (fun c25 => ?_) (fun c25 => ?_)
    · have e : i = m := by omega
      subst e
      rw [csr_r σ i n hm]
      exact go_wk (by exact ⟨rfl, rfl, rfl, rfl, trivial⟩) hend
    · refine go_aload_n dX5_price_28 rfl ?_
      refine gs_gr dX5_price_29 flX5_25 (gg_34 true) rfl ?_
      refine go_iload_n dX5_price_32 rfl ?_
      refine gs_iald (_) dX5_price_33 (gg_37 true) (rfl) (by omega) rfl (congrFun (ua_p (by decide)) x) ?_
      refine go_iload_n dX5_price_34 rfl ?_
      refine go_iand dX5_price_35 ?_
      refine go_if_eq 55 dX5_price_36 (by decide) (fun c36 => ?_) (fun c36 => ?_)
      · refine go_iconst (v := nI 0) dX5_price_55 (by decide) ?_
        refine go_istore (lv' := [_, _, _, _, _, _]) dX5_price_56 rfl rfl rfl ?_
        refine go_aload_n dX5_price_58 rfl ?_
        refine gs_gr dX5_price_59 flX5_28 (gg_34 true) rfl ?_
        refine go_iload_n dX5_price_62 rfl ?_
        refine go_bipush (v := nI 9) dX5_price_63 (by decide) ?_
        refine go_imulN dX5_price_65 ?_
        refine go_iload dX5_price_66 rfl ?_
        refine go_iaddN dX5_price_68 ?_
        refine go_iload dX5_price_69 rfl ?_
        refine go_if_eq 79 dX5_price_71 (by decide) (fun _ => ?_) (fun z => absurd z (by decide))
        refine go_aload_n dX5_price_79 rfl ?_
        refine go_aload_n dX5_price_80 rfl ?_
        refine gs_gr dX5_price_81 flX5_25 (gg_34 true) rfl ?_
        refine go_iload_n dX5_price_84 rfl ?_
        refine gs_iald (_) dX5_price_85 (gg_37 true) (rfl) (by omega) rfl (congrFun (ua_p (by decide)) x) ?_
        refine go_aload_n dX5_price_86 rfl ?_
        refine gs_gr dX5_price_87 flX5_25 (gg_34 true) rfl ?_
        refine go_iload dX5_price_90 rfl ?_
        refine gs_iald (_) dX5_price_92 (gg_37 true) (rfl) (by omega) rfl (congrFun (ua_p (by decide)) i) ?_
        refine go_ixor dX5_price_93 ?_
        refine gs_callVi dX5_price_94 cvX5_price_41 (hch) rfl (gg_1 true) rfl rfl rfl ⟨rfl, rfl⟩ rfl ?_
        refine gs_iast (_) dX5_price_97 (gg_38 true) (rfl) (by omega) rfl ?_
        refine go_iincN (lv' := [_, _, _, _, _, _]) 1 dX5_price_98 (by decide) rfl rfl rfl rfl ?_
        refine go_goto 19 dX5_price_101 (by decide) ?_
        refine go_wkh (by simp [lvle]) (congrArg (wd (gg true)) ?_) (ih c25)
        rw [ua_u, ← hup c25]
        simp [cab, c25, c36]
      · refine go_aload_n dX5_price_39 rfl ?_
        refine gs_gr dX5_price_40 flX5_25 (gg_34 true) rfl ?_
        refine go_iload dX5_price_43 rfl ?_
        refine gs_iald (_) dX5_price_45 (gg_37 true) (rfl) (by omega) rfl (congrFun (ua_p (by decide)) i) ?_
        refine go_iload_n dX5_price_46 rfl ?_
        refine go_iand dX5_price_47 ?_
        refine go_if_eq 55 dX5_price_48 (by decide) (fun c48 => ?_) (fun c48 => ?_)
        · refine go_iconst (v := nI 0) dX5_price_55 (by decide) ?_
          refine go_istore (lv' := [_, _, _, _, _, _]) dX5_price_56 rfl rfl rfl ?_
          refine go_aload_n dX5_price_58 rfl ?_
          refine gs_gr dX5_price_59 flX5_28 (gg_34 true) rfl ?_
          refine go_iload_n dX5_price_62 rfl ?_
          refine go_bipush (v := nI 9) dX5_price_63 (by decide) ?_
          refine go_imulN dX5_price_65 ?_
          refine go_iload dX5_price_66 rfl ?_
          refine go_iaddN dX5_price_68 ?_
          refine go_iload dX5_price_69 rfl ?_
          refine go_if_eq 79 dX5_price_71 (by decide) (fun _ => ?_) (fun z => absurd z (by decide))
          refine go_aload_n dX5_price_79 rfl ?_
          refine go_aload_n dX5_price_80 rfl ?_
          refine gs_gr dX5_price_81 flX5_25 (gg_34 true) rfl ?_
          refine go_iload_n dX5_price_84 rfl ?_
          refine gs_iald (_) dX5_price_85 (gg_37 true) (rfl) (by omega) rfl (congrFun (ua_p (by decide)) x) ?_
          refine go_aload_n dX5_price_86 rfl ?_
          refine gs_gr dX5_price_87 flX5_25 (gg_34 true) rfl ?_
          refine go_iload dX5_price_90 rfl ?_
          refine gs_iald (_) dX5_price_92 (gg_37 true) (rfl) (by omega) rfl (congrFun (ua_p (by decide)) i) ?_
          refine go_ixor dX5_price_93 ?_
          refine gs_callVi dX5_price_94 cvX5_price_41 (hch) rfl (gg_1 true) rfl rfl rfl ⟨rfl, rfl⟩ rfl ?_
          refine gs_iast (_) dX5_price_97 (gg_38 true) (rfl) (by omega) rfl ?_
          refine go_iincN (lv' := [_, _, _, _, _, _]) 1 dX5_price_98 (by decide) rfl rfl rfl rfl ?_
          refine go_goto 19 dX5_price_101 (by decide) ?_
          refine go_wkh (by simp [lvle]) (congrArg (wd (gg true)) ?_) (ih c25)
          rw [ua_u, ← hup c25]
          simp [cab, c25, c36, c48]
        · refine go_iconst (v := nI 1) dX5_price_51 (by decide) ?_
          refine go_goto 56 dX5_price_52 (by decide) ?_
          refine go_istore (lv' := [_, _, _, _, _, _]) dX5_price_56 rfl rfl rfl ?_
          refine go_aload_n dX5_price_58 rfl ?_
          refine gs_gr dX5_price_59 flX5_28 (gg_34 true) rfl ?_
          refine go_iload_n dX5_price_62 rfl ?_
          refine go_bipush (v := nI 9) dX5_price_63 (by decide) ?_
          refine go_imulN dX5_price_65 ?_
          refine go_iload dX5_price_66 rfl ?_
          refine go_iaddN dX5_price_68 ?_
          refine go_iload dX5_price_69 rfl ?_
          refine go_if_eq 79 dX5_price_71 (by decide) (fun z => absurd z (by decide)) (fun _ => ?_)
          refine go_ldc dX5_price_74 kiX5_40 ?_
          refine go_goto 97 dX5_price_76 (by decide) ?_
          refine gs_iast (_) dX5_price_97 (gg_38 true) (rfl) (by omega) rfl ?_
          refine go_iincN (lv' := [_, _, _, _, _, _]) 1 dX5_price_98 (by decide) rfl rfl rfl rfl ?_
          refine go_goto 19 dX5_price_101 (by decide) ?_
          refine go_wkh (by simp [lvle]) (congrArg (wd (gg true)) ?_) (ih c25)
          rw [ua_u, ← hup c25]
          simp [cab, c25, c36, c48]
  refine go_wkh (by exact ⟨rfl, rfl, rfl, rfl, trivial⟩) (congrArg (wd (gg true)) (by rw [csr_0, ua_id])) (?_ : Go κ mX5_price 8 [some (.ref 34), some (.ref 1), some (.int (om (fun i => decide (σ 2 i = nI 3)) n)), some (.int (nI 0)), none, none] [] (wd (gg true) (ua σ 38 (csr σ m n (om (fun i => decide (σ 2 i = nI 3)) n) 0 0))) (0, 0) _)
  refine lo_up m (P := fun i => Go κ mX5_price 8 [some (.ref 34), some (.ref 1), some (.int (om (fun i => decide (σ 2 i = nI 3)) n)), some (.int (nI i)), none, none] [] (wd (gg true) (ua σ 38 (csr σ m n (om (fun i => decide (σ 2 i = nI 3)) n) i 0))) (0, 0) _) (fun i hi ih => ?_) 0 (Nat.zero_le _)
  refine go_iload_n dX5_price_8 rfl ?_
  refine go_aload_n dX5_price_9 rfl ?_
  refine gs_gi dX5_price_10 flX5_19 (gg_34 true) rfl ((congrFun (ua_p (by decide)) 2).trans hM) ?_
  refine go_icmp_geN 110 dX5_price_13 (by decide) (by omega) (by omega) (fun c13 => ?_) (fun c13 => ?_)
  · refine go_vret dX5_price_110 rfl rfl ?_
    have e : i = m := by omega
    subst e
    exact ⟨rfl, rfl⟩
  · refine go_wk (by exact ⟨rfl, rfl, rfl, rfl, trivial⟩) (inner i c13 _ ?_)
    refine go_iincN (lv' := [_, _, _, _, _, _]) 1 dX5_price_104 (by decide) rfl rfl rfl rfl ?_
    refine go_goto 8 dX5_price_107 (by decide) ?_
    exact ih c13
