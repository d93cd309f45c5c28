theorem fln_in (σ : wg_S) (set : Int32) : ∀ i k, k < (fln σ set i).1 → ∃ c, c < i ∧ (fln σ set i).2 32 k = nI c
  | 0, k, h => by simp [fln] at h
  | i + 1, k, h => by
    rw [show fln σ set (i + 1) = if (fln σ set i).1 < 4 ∧ bv set i = nI 1 then ((fln σ set i).1 + 1, us (fln σ set i).2 32 (fln σ set i).1 (nI i)) else fln σ set i from rfl] at h ⊢
    by_cases hc : (fln σ set i).1 < 4 ∧ bv set i = nI 1
    · rw [if_pos hc] at h ⊢
      by_cases hk : k = (fln σ set i).1
      · subst hk
        exact ⟨i, by omega, (show us (fln σ set i).2 32 (fln σ set i).1 (nI i) 32 (fln σ set i).1 = nI i from us_s)⟩
      · obtain ⟨c, h1, h2⟩ := fln_in σ set i k (by have h : k < (fln σ set i).1 + 1 := h; omega)
        exact ⟨c, by omega, by show us _ 32 _ _ 32 k = _; rw [us_k hk]; exact h2⟩
    · rw [if_neg hc] at h ⊢
      obtain ⟨c, h1, h2⟩ := fln_in σ set i k h
      exact ⟨c, by omega, h2⟩
theorem lst_id (τ : wg_S) : lst τ (τ 32) (τ 33) (τ 29 7) (τ 29 8) = τ := by
  rw [lst, ua_id, ua_id, sdo, us_id rfl, us_id rfl]
/-- what the tries give: the line tried last, the best one, its seconds -/
def bst (σ : wg_S) (set : Int32) (n : Nat) : (Nat → Int32) × (Nat → Int32) × Int32 := pbs (fun a => clv (σ 6) (σ 29 1) a (fln σ set n).1) (fln σ set n).1 24 ((fln σ set n).2 32) (σ 33) 1000000
theorem cX8_putBestLine_ok (κ : gm_K) (b : Bool) (σ : wg_S) (n : Nat) (hn : n ≤ 16) (hN : σ 1 0 = nI n) (row set : Int32) (h1 : 1 ≤ (fln σ set n).1) (hm : ¬ 1000000 ≤ clv (σ 6) (σ 29 1) ((fln σ set n).2 32) (fln σ set n).1) : Ct κ mX8_putBestLine [.ref 29, .int row, .int set] (wd (gg b) σ) (fun q h' => ∃ l r, q = some (.int (bst σ set n).2.2) ∧ h' = wd (gg b) (spl (lst (fln σ set n).2 (bst σ set n).1 (bst σ set n).2.1 l r) (bst σ set n).2.1 row (fln σ set n).1)) := by
  refine go_start (by decide) (Nat.le_of_ble_eq_true rfl) ?_
  refine go_aload_n dX8_putBestLine_0 rfl ?_
  refine go_iload_n dX8_putBestLine_1 rfl ?_
  refine gs_callVi dX8_putBestLine_2 cvX8_putBestLine_88 (cX8_firstLine_ok κ b σ n hn hN _) rfl (gg_29 b) rfl rfl rfl ⟨rfl, rfl⟩ rfl ?_
  refine go_istore_n (lv' := [_, _, _, _, _, _, _, _]) dX8_putBestLine_5 rfl rfl rfl ?_
  refine go_ldc dX8_putBestLine_6 kiX8_92 ?_
  refine go_istore (lv' := [_, _, _, _, _, _, _, _]) dX8_putBestLine_8 rfl rfl rfl ?_
  refine go_iconst (v := nI 1) dX8_putBestLine_10 (by decide) ?_
  refine go_istore (lv' := [_, _, _, _, _, _, _, _]) dX8_putBestLine_11 rfl rfl rfl ?_
  refine go_iconst (v := nI 0) dX8_putBestLine_13 (by decide) ?_
  refine go_istore (lv' := [_, _, _, _, _, _, _, _]) dX8_putBestLine_14 rfl rfl rfl ?_
  skip
  have h4 := fln_4 σ set n
  have e6 : (fln σ set n).2 6 = σ 6 := fln_p σ set (by decide) n
  have e29 : (fln σ set n).2 29 = σ 29 := fln_p σ set (by decide) n
  have e33 : (fln σ set n).2 33 = σ 33 := fln_p σ set (by decide) n
  refine go_wkh (by exact ⟨rfl, rfl, rfl, rfl, rfl, rfl, trivial⟩) (congrArg (wd (gg b)) (lst_id _).symm) (cX8_try_ok κ b (fln σ set n).2 (fln σ set n).1 h1 h4 row _ 24 0 ((fln σ set n).2 32) ((fln σ set n).2 33) 1000000 _ _ (by omega) (fun k hk => ?_) (Or.inl rfl) (fun _ => ?_) (by decide) (fun l r => ?_))
  · obtain ⟨c, h1, h2⟩ := fln_in σ set n k hk
    exact ⟨c, by omega, h2⟩
  · rw [e6, e29]; exact hm
  · rw [e6, e29, e33]; exact ⟨l, r, rfl, rfl⟩
/-- the row of the orders is made at the first order -/
def s_beg (b : Bool) (σ : wg_S) : wg_S := if b then us σ 34 2 (nI 0) else ua (us σ 34 2 (nI 0)) 85 (fun _ => 0)
theorem wd_out {g : wg_G} {σ : wg_S} {p : Nat} {f : Nat → Int32} (h : g.length ≤ p) : wd g (ua σ p f) = wd g σ := by
  apply List.ext_getElem?
  intro i
  simp only [wd, List.getElem?_mapIdx]
  by_cases hi : i < g.length
  · have h1 : ua σ p f i = σ i := ua_p (by omega)
    have h2 : wg_f (ua σ p f) i = wg_f σ i := by
      funext k' d
      cases d <;> simp [wg_f, h1]
    cases g[i]? with
    | none => rfl
    | some e => cases e <;> simp [wg_e, h1, h2]
  · rw [List.getElem?_eq_none (by omega)]; rfl
theorem beg_wd (σ : wg_S) : (wd (gg false) σ ++ [(.inl (0, 4608, fun _ => 0) : gm_E)]).set 34 (.inr (5, ([none, some 35, none, some 36, some 37, some 38, some 39].mapIdx (wg_f σ 34)).set 6 (.ref 85))) = wd (gg true) (ua σ 85 (fun _ => 0)) := by
  have hg : gg true = (gg false).set 34 (.inl (5, [none, some 35, none, some 36, some 37, some 38, some 85])) ++ [.inr (0, 4608)] := by decide +kernel
  have hl : (gg false).length = 85 := by decide
  have hw : wd (gg false) (ua σ 85 (fun _ => 0)) = wd (gg false) σ := wd_out (by rw [hl]; exact Nat.le_refl _)
  have h1 : wd ((gg false).set 34 (.inl (5, [none, some 35, none, some 36, some 37, some 38, some 85]))) (ua σ 85 (fun _ => 0)) = (wd (gg false) σ).set 34 (.inr (5, [none, some 35, none, some 36, some 37, some 38, some 85].mapIdx (wg_f (ua σ 85 (fun _ => 0)) 34))) := by
    rw [← hw]
    simp [wd, List.mapIdx_set, wg_e]
  have h2 : wd (gg true) (ua σ 85 (fun _ => 0)) = wd ((gg false).set 34 (.inl (5, [none, some 35, none, some 36, some 37, some 38, some 85]))) (ua σ 85 (fun _ => 0)) ++ [(.inl (0, 4608, fun _ => 0) : gm_E)] := by
    rw [hg, wd, List.mapIdx_append]
    simp [wd, wg_e, hl, ua]
  have h3 : ([none, some 35, none, some 36, some 37, some 38, some 39].mapIdx (wg_f σ 34)).set 6 (.ref 85) = [none, some 35, none, some 36, some 37, some 38, some 85].mapIdx (wg_f (ua σ 85 (fun _ => 0)) 34) := rfl
  rw [h2, h1, List.set_append_left _ _ (by simp [wd, hl]), h3]
theorem beg_at (σ : wg_S) : (wd (gg false) (us σ 34 2 (nI 0)) ++ [(.inl (0, 4608, fun _ => 0) : gm_E)])[34]? = some (.inr (5, [none, some 35, none, some 36, some 37, some 38, some 39].mapIdx (wg_f (us σ 34 2 (nI 0)) 34))) := by
  rw [List.getElem?_append_left (by simp [wd]; decide)]
  exact wd_o (gg_34 false)
theorem cX5_begin_ok (κ : gm_K) (b : Bool) (σ : wg_S) : Fn κ mX5_begin [.ref 34] (gg b) σ none (gg true) (s_beg b σ) := by
  refine go_start (by decide) (Nat.le_of_ble_eq_true rfl) ?_
  cases b with
  | true =>
    refine go_aload_n dX5_begin_0 rfl ?_
    refine go_iconst (v := nI 0) dX5_begin_1 (by decide) ?_
    refine gs_pi dX5_begin_2 flX5_19 (gg_34 true) rfl (fun q hq => by cases hq; exact ⟨rfl, rfl⟩) ?_
    refine go_aload_n dX5_begin_5 rfl ?_
    refine gs_gr dX5_begin_6 flX5_31 (gg_34 true) rfl ?_
    refine gs_len dX5_begin_9 rfl (by decide) rfl ?_
    refine go_if_neN 22 dX5_begin_10 (by decide) (by omega) (fun c10 => ?_) (fun c10 => ?_)
    · refine go_vret dX5_begin_22 rfl rfl ?_
      exact ⟨rfl, rfl⟩
    · exact absurd c10 (by decide)
  | false =>
    refine go_aload_n dX5_begin_0 rfl ?_
    refine go_iconst (v := nI 0) dX5_begin_1 (by decide) ?_
    refine gs_pi dX5_begin_2 flX5_19 (gg_34 false) rfl (fun q hq => by cases hq; exact ⟨rfl, rfl⟩) ?_
    refine go_aload_n dX5_begin_5 rfl ?_
    refine gs_gr dX5_begin_6 flX5_31 (gg_34 false) rfl ?_
    refine gs_len dX5_begin_9 rfl (by decide) rfl ?_
    refine go_if_neN 22 dX5_begin_10 (by decide) (by omega) (fun c10 => ?_) (fun c10 => ?_)
    · exact absurd c10 (by decide)
    · refine go_aload_n dX5_begin_13 rfl ?_
      refine go_sipush (v := nI 4608) dX5_begin_14 (by decide) ?_
      refine go_newa0 4608 dX5_begin_17 ac_int (by decide) (by decide) (by decide) rfl ?_
      rw [show (wd (gg false) (us σ 34 2 (nI 0))).length = 85 by simp [wd]; decide]
      refine go_put (ty := .array .int) (fs := [none, some 35, none, some 36, some 37, some 38, some 39].mapIdx (wg_f (us σ 34 2 (nI 0)) 34)) dX5_begin_19 flX5_31 (beg_at σ) (fun q hq => by cases hq; exact ⟨rfl, rfl⟩) rfl rfl rfl ?_
      refine go_heap (beg_wd (us σ 34 2 (nI 0))) ?_
      refine go_vret dX5_begin_22 rfl rfl ?_
      exact ⟨rfl, rfl⟩
