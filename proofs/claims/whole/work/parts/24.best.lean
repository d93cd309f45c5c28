/-- the lines tried: the line, the best one, its seconds -/
def pbs (cl : (Nat → Int32) → Int32) (n : Nat) : Nat → (Nat → Int32) → (Nat → Int32) → Int32 → (Nat → Int32) × (Nat → Int32) × Int32
  | 0, a, t, l => (a, t, l)
  | f + 1, a, t, l => match nxt a n with
    | none => (a, if l ≤ cl a then t else va_cpy a t 0 0 n, if l ≤ cl a then l else cl a)
    | some a' => pbs cl n f a' (if l ≤ cl a then t else va_cpy a t 0 0 n) (if l ≤ cl a then l else cl a)
theorem cpy_in {a t : Nat → Int32} {n : Nat} (h : inL a n) : inL (va_cpy a t 0 0 n) n := by
  intro k hk
  rw [pk_cpy_in (Nat.zero_le _) (by omega)]
  simpa using h k hk
/-- the cells while lines are tried -/
def lst (σ : wg_S) (a t : Nat → Int32) (l r : Int32) : wg_S := sdo (ua (ua σ 32 a) 33 t) l r
theorem lst_p {σ : wg_S} {a t : Nat → Int32} {l r : Int32} {p : Nat} (h1 : p ≠ 29) (h2 : p ≠ 32) (h3 : p ≠ 33) : lst σ a t l r p = σ p := by rw [lst, sdo_p h1, ua_p h3, ua_p h2]
theorem lst_a {σ : wg_S} {a t : Nat → Int32} {l r : Int32} : lst σ a t l r 32 = a := by rw [lst, sdo_p (by decide), ua_p (by decide), ua_s]
theorem lst_t {σ : wg_S} {a t : Nat → Int32} {l r : Int32} : lst σ a t l r 33 = t := by rw [lst, sdo_p (by decide), ua_s]
theorem lst_w {σ : wg_S} {a t : Nat → Int32} {l r : Int32} {k : Nat} (h : k < 7) : lst σ a t l r 29 k = σ 29 k := by rw [lst, sdo_k h, ua_p (by decide), ua_p (by decide)]
theorem lst_d {σ : wg_S} {a t : Nat → Int32} {l r l' r' : Int32} : sdo (lst σ a t l r) l' r' = lst σ a t l' r' := by rw [lst, sdo_s, lst]
theorem sdo_ua {σ : wg_S} {l r : Int32} {p : Nat} {f : Nat → Int32} (h : p ≠ 29) : ua (sdo σ l r) p f = sdo (ua σ p f) l r := by
  funext x
  by_cases h1 : x = p
  · subst h1; rw [ua_s, sdo_p h, ua_s]
  · rw [ua_p h1]
    by_cases h2 : x = 29
    · subst h2
      funext y
      unfold sdo
      by_cases h7 : y = 7
      · subst h7; rw [us_k (by decide), us_s, us_k (by decide), us_s]
      · by_cases h8 : y = 8
        · subst h8; rw [us_s, us_s]
        · rw [us_k h8, us_k h7, us_k h8, us_k h7, ua_p h1]
    · rw [sdo_p h2, sdo_p h2, ua_p h1]
theorem lst_ua {σ : wg_S} {a t f : Nat → Int32} {l r : Int32} : ua (lst σ a t l r) 32 f = lst σ f t l r := by rw [lst, sdo_ua (by decide), ua_cm (by decide), ua_ua, lst]
theorem lst_ut {σ : wg_S} {a t f : Nat → Int32} {l r : Int32} : ua (lst σ a t l r) 33 f = lst σ a f l r := by rw [lst, sdo_ua (by decide), ua_ua, lst]
/-- the best line is put on the row -/
def spl (σ : wg_S) (t : Nat → Int32) (row : Int32) : Nat → wg_S
  | 0 => σ
  | i + 1 => s_put (spl σ t row i) (t i).toNatClampNeg row (clp (σ 6) t i)
theorem spl_p {σ : wg_S} {t : Nat → Int32} {row : Int32} {p : Nat} (h1 : p ≠ 30) (h2 : p ≠ 31) : ∀ i, spl σ t row i p = σ p
  | 0 => rfl
  | i + 1 => by rw [spl, s_put, us_p h2, us_p h1]; exact spl_p h1 h2 i
theorem nx_some {a : Nat → Int32} {n : Nat} {σ : wg_S} (h : nxt (σ 32) n = none) : (match nxt (σ 32) n with | none => σ | some a => ua σ 32 a) = σ := by rw [h]
theorem cX8_place_ok (κ : gm_K) (b : Bool) (τ : wg_S) (n : Nat) (h4 : n ≤ 4) (row m : Int32) (x2 : Option Value) (hx2 : ∀ w, x2 = some w → w.category = 1) (hB : inL (τ 33) n) (Φ : Option Value → gm_H → Prop) (hΦ : Φ (some (.int m)) (wd (gg b) (spl τ (τ 33) row n))) : Go κ mX8_putBestLine 73 [some (.ref 29), some (.int row), none, some (.int (nI n)), some (.int m), none, none, none] [] (wd (gg b) τ) (0, 0) Φ := by
  refine go_iconst (v := nI 0) dX8_putBestLine_73 (by decide) ?_
  refine go_istore (lv' := [_, _, _, _, _, _, _, _]) dX8_putBestLine_74 rfl rfl rfl ?_
  refine go_iconst (v := nI 0) dX8_putBestLine_76 (by decide) ?_
  refine go_istore (lv' := [_, _, _, _, _, _, _, _]) dX8_putBestLine_77 rfl rfl rfl ?_
  skip
  refine go_wk (by exact ⟨rfl, rfl, rfl, rfl, rfl, rfl, trivial⟩) (?_ : Go κ mX8_putBestLine 79 [some (.ref 29), some (.int row), none, some (.int (nI n)), some (.int m), none, some (.int (clp (τ 6) (τ 33) 0)), some (.int (nI 0))] [] (wd (gg b) (spl τ (τ 33) row 0)) (0, 0) _)
  refine lo_up n (P := fun i => Go κ mX8_putBestLine 79 [some (.ref 29), some (.int row), none, some (.int (nI n)), some (.int m), none, some (.int (clp (τ 6) (τ 33) i)), some (.int (nI i))] [] (wd (gg b) (spl τ (τ 33) row i)) (0, 0) _) (fun i hi ih => ?_) 0 (Nat.zero_le _)
  refine go_iload dX8_putBestLine_79 rfl ?_
  refine go_iload_n dX8_putBestLine_81 rfl ?_
  refine go_icmp_geN 125 dX8_putBestLine_82 (by decide) (by omega) (by omega) (fun c82 => ?_) (fun c82 => ?_)
  · refine go_iload dX8_putBestLine_125 rfl ?_
    refine go_iret dX8_putBestLine_127 rfl rfl ?_
    have e : i = n := by omega
    subst e
    exact hΦ
  · obtain ⟨c, hc, e⟩ := hB i c82
    refine go_aload_n dX8_putBestLine_85 rfl ?_
    refine go_aload_n dX8_putBestLine_86 rfl ?_
    refine gs_gr dX8_putBestLine_87 flX8_28 (gg_29 b) rfl ?_
    refine go_iload dX8_putBestLine_90 rfl ?_
    refine gs_iald (_) dX8_putBestLine_92 (gg_33 b) (rfl) (by omega) rfl ((congrFun (spl_p (by decide) (by decide) i) i).trans e) ?_
    refine go_iload_n dX8_putBestLine_93 rfl ?_
    refine go_iload dX8_putBestLine_94 rfl ?_
    refine gs_callVv dX8_putBestLine_96 cvX8_putBestLine_105 (cX8_put_ok κ b (spl τ (τ 33) row i) c hc _ _) rfl (gg_29 b) rfl rfl rfl ⟨rfl, rfl⟩ rfl ?_
    refine go_iload dX8_putBestLine_99 rfl ?_
    refine go_aload_n dX8_putBestLine_101 rfl ?_
    refine gs_gr dX8_putBestLine_102 flX8_37 (gg_29 b) rfl ?_
    refine gs_gr dX8_putBestLine_105 flX8_60 (gg_1 b) rfl ?_
    refine go_aload_n dX8_putBestLine_108 rfl ?_
    refine gs_gr dX8_putBestLine_109 flX8_28 (gg_29 b) rfl ?_
    refine go_iload dX8_putBestLine_112 rfl ?_
    refine gs_iald (_) dX8_putBestLine_114 (gg_33 b) (rfl) (by omega) rfl ((show _ = nI c by rw [s_put, us_p (by decide), us_p (by decide)]; exact (congrFun (spl_p (by decide) (by decide) i) i).trans e)) ?_
    refine gs_iald (_) dX8_putBestLine_115 (gg_6 b) (rfl) (by omega) rfl (show _ = τ 6 c by rw [s_put, us_p (by decide), us_p (by decide)]; exact congrFun (spl_p (by decide) (by decide) i) c) ?_
    refine go_iadd dX8_putBestLine_116 ?_
    refine go_istore (lv' := [_, _, _, _, _, _, _, _]) dX8_putBestLine_117 rfl rfl rfl ?_
    refine go_iincN (lv' := [_, _, _, _, _, _, _, _]) 1 dX8_putBestLine_119 (by decide) rfl rfl rfl rfl ?_
    refine go_goto 79 dX8_putBestLine_122 (by decide) ?_
    exact go_wkh (by simp [lvle, clp, sm, clz_nI hc e]) (by rw [spl, e, nI_clamp (by omega)]) (ih c82)
theorem cX8_try_ok (κ : gm_K) (b : Bool) (σ : wg_S) (n : Nat) (h1 : 1 ≤ n) (h4 : n ≤ 4) (row : Int32) (Φ : Option Value → gm_H → Prop) : ∀ (f k : Nat) (a t : Nat → Int32) (m l r : Int32), k + f = 24 → inL a n → (f = 24 ∨ inL t n) → (f = 24 → ¬ m ≤ clv (σ 6) (σ 29 1) a n) → f ≠ 0 → (∀ l r, Φ (some (.int (pbs (fun a => clv (σ 6) (σ 29 1) a n) n f a t m).2.2)) (wd (gg b) (spl (lst σ (pbs (fun a => clv (σ 6) (σ 29 1) a n) n f a t m).1 (pbs (fun a => clv (σ 6) (σ 29 1) a n) n f a t m).2.1 l r) (pbs (fun a => clv (σ 6) (σ 29 1) a n) n f a t m).2.1 row n))) → Go κ mX8_putBestLine 16 [some (.ref 29), some (.int row), none, some (.int (nI n)), some (.int m), some (.int (bi true)), some (.int (nI k)), none] [] (wd (gg b) (lst σ a t l r)) (0, 0) Φ := by
  intro f
  induction f with
  | zero => intro k a t m l r _ _ _ _ h0; exact absurd rfl h0
  | succ f ih =>
    intro k a t m l r hk ha ht hm _ hΦ
    have hs : pbs (fun a => clv (σ 6) (σ 29 1) a n) n (f + 1) a t m = (match nxt a n with
      | none => (a, if m ≤ clv (σ 6) (σ 29 1) a n then t else va_cpy a t 0 0 n, if m ≤ clv (σ 6) (σ 29 1) a n then m else clv (σ 6) (σ 29 1) a n)
      | some a' => pbs (fun a => clv (σ 6) (σ 29 1) a n) n f a' (if m ≤ clv (σ 6) (σ 29 1) a n then t else va_cpy a t 0 0 n) (if m ≤ clv (σ 6) (σ 29 1) a n then m else clv (σ 6) (σ 29 1) a n)) := rfl
    have hcl := cX8_clearOfLine_ok κ b (lst σ a t l r) n h4 (by rw [lst_a]; exact ha)
    rw [lst_a, lst_w (by decide), lst_p (by decide) (by decide) (by decide), lst_d] at hcl
    generalize clL (σ 6) (σ 29 1) a n = l1 at hcl
    generalize clR (σ 6) (σ 29 1) a n = r1 at hcl
    generalize hcv : clv (σ 6) (σ 29 1) a n = s at hcl hs hm
    have next : ∀ (t' : Nat → Int32) (m' : Int32), inL t' n → (pbs (fun a => clv (σ 6) (σ 29 1) a n) n (f + 1) a t m = match nxt a n with
      | none => (a, t', m')
      | some a' => pbs (fun a => clv (σ 6) (σ 29 1) a n) n f a' t' m') → Go κ mX8_putBestLine 60 [some (.ref 29), some (.int row), none, some (.int (nI n)), some (.int m'), some (.int (bi true)), some (.int (nI k)), none] [] (wd (gg b) (lst σ a t' l1 r1)) (0, 0) Φ := by
      intro t' m' ht' hs'
      have hnl := cX8_nextLine_ok κ b (lst σ a t' l1 r1) n h1 h4
      rw [lst_a] at hnl
      cases hx : nxt a n with
      | none =>
        rw [hx] at hnl hs'
        simp only [Option.isSome_none] at hnl
        rw [hs'] at hΦ
        refine go_aload_n dX8_putBestLine_60 rfl ?_
        refine go_iload_n dX8_putBestLine_61 rfl ?_
        refine gs_callVi dX8_putBestLine_62 cvX8_putBestLine_102 (hnl) rfl (gg_29 b) rfl rfl rfl ⟨rfl, rfl⟩ rfl ?_
        refine go_istore (lv' := [_, _, _, _, _, _, _, _]) dX8_putBestLine_65 rfl rfl rfl ?_
        refine go_iincN (lv' := [_, _, _, _, _, _, _, _]) 1 dX8_putBestLine_67 (by decide) rfl rfl rfl rfl ?_
        refine go_goto 16 dX8_putBestLine_70 (by decide) ?_
        refine go_iload dX8_putBestLine_16 rfl ?_
        refine go_bipush (v := nI 24) dX8_putBestLine_18 (by decide) ?_
        refine go_icmp_geN 73 dX8_putBestLine_20 (by decide) (by omega) (by omega) (fun c20 => ?_) (fun c20 => ?_)
        · refine go_cut True trivial (fun _ => ?_)
          refine go_wk (by simp [lvle]) (cX8_place_ok κ b (lst σ a t' l1 r1) n h4 row m' none (fun w h => by cases h) (by rw [lst_t]; exact ht') Φ ?_)
          rw [lst_t]
          exact hΦ l1 r1
        · refine go_iload dX8_putBestLine_23 rfl ?_
          refine go_if_eqB 73 dX8_putBestLine_25 (by decide) (fun c25 => ?_) (fun c25 => ?_)
          · refine go_wk (by simp [lvle]) (cX8_place_ok κ b (lst σ a t' l1 r1) n h4 row m' none (fun w h => by cases h) (by rw [lst_t]; exact ht') Φ ?_)
            rw [lst_t]
            exact hΦ l1 r1
          · cases c25
      | some a' =>
        rw [hx] at hnl hs'
        simp only [Option.isSome_some, lst_ua] at hnl
        rw [hs'] at hΦ
        have ha' := nxt_in ha hx
        refine go_aload_n dX8_putBestLine_60 rfl ?_
        refine go_iload_n dX8_putBestLine_61 rfl ?_
        refine gs_callVi dX8_putBestLine_62 cvX8_putBestLine_102 (hnl) rfl (gg_29 b) rfl rfl rfl ⟨rfl, rfl⟩ rfl ?_
        refine go_istore (lv' := [_, _, _, _, _, _, _, _]) dX8_putBestLine_65 rfl rfl rfl ?_
        refine go_iincN (lv' := [_, _, _, _, _, _, _, _]) 1 dX8_putBestLine_67 (by decide) rfl rfl rfl rfl ?_
        refine go_goto 16 dX8_putBestLine_70 (by decide) ?_
        rcases Nat.eq_zero_or_pos f with h0 | h0
        · subst h0
          refine go_iload dX8_putBestLine_16 rfl ?_
          refine go_bipush (v := nI 24) dX8_putBestLine_18 (by decide) ?_
          refine go_icmp_geN 73 dX8_putBestLine_20 (by decide) (by omega) (by omega) (fun c20 => ?_) (fun c20 => ?_)
          · refine go_wk (by simp [lvle]) (cX8_place_ok κ b (lst σ a' t' l1 r1) n h4 row m' none (fun w h => by cases h) (by rw [lst_t]; exact ht') Φ ?_)
            rw [lst_t]
            exact hΦ l1 r1
          · exact absurd c20 (by omega)
        · exact go_wk (by simp [lvle]) (ih (k + 1) a' t' m' l1 r1 (by omega) ha' (Or.inr ht') (fun h => by omega) (by omega) hΦ)
    refine go_iload dX8_putBestLine_16 rfl ?_
    refine go_bipush (v := nI 24) dX8_putBestLine_18 (by decide) ?_
    refine go_icmp_geN 73 dX8_putBestLine_20 (by decide) (by omega) (by omega) (fun c20 => ?_) (fun c20 => ?_)
    · exact absurd c20 (by omega)
    · refine go_iload dX8_putBestLine_23 rfl ?_
      refine go_if_eqB 73 dX8_putBestLine_25 (by decide) (fun c25 => ?_) (fun c25 => ?_)
      · cases c25
      · refine go_aload_n dX8_putBestLine_28 rfl ?_
        refine go_iload_n dX8_putBestLine_29 rfl ?_
        refine gs_callVi dX8_putBestLine_30 cvX8_putBestLine_93 (hcl) rfl (gg_29 b) rfl rfl rfl ⟨rfl, rfl⟩ rfl ?_
        refine go_istore (lv' := [_, _, _, _, _, _, _, _]) dX8_putBestLine_33 rfl rfl rfl ?_
        refine go_iload dX8_putBestLine_35 rfl ?_
        refine go_iload dX8_putBestLine_37 rfl ?_
        refine go_icmp_ge 60 dX8_putBestLine_39 (by decide) (fun c39 => ?_) (fun c39 => ?_)
        · have hq := And.intro (ht.resolve_left (fun h => absurd c39 (hm h))) (show pbs (fun a => clv (σ 6) (σ 29 1) a n) n (f + 1) a t m = match nxt a n with
            | none => (a, t, m)
            | some a' => pbs (fun a => clv (σ 6) (σ 29 1) a n) n f a' (t) (m) by rw [hs, if_pos c39, if_pos c39])
          exact go_wk (by simp [lvle]) (next _ _ hq.1 hq.2)
        · have hq := And.intro (cpy_in (t := t) ha) (show pbs (fun a => clv (σ 6) (σ 29 1) a n) n (f + 1) a t m = match nxt a n with
            | none => (a, va_cpy a t 0 0 n, s)
            | some a' => pbs (fun a => clv (σ 6) (σ 29 1) a n) n f a' (va_cpy a t 0 0 n) (s) by rw [hs, if_neg c39, if_neg c39])
          refine go_iload dX8_putBestLine_42 rfl ?_
          refine go_istore (lv' := [_, _, _, _, _, _, _, _]) dX8_putBestLine_44 rfl rfl rfl ?_
          refine go_aload_n dX8_putBestLine_46 rfl ?_
          refine gs_gr dX8_putBestLine_47 flX8_25 (gg_29 b) rfl ?_
          refine go_iconst (v := nI 0) dX8_putBestLine_50 (by decide) ?_
          refine go_aload_n dX8_putBestLine_51 rfl ?_
          refine gs_gr dX8_putBestLine_52 flX8_28 (gg_29 b) rfl ?_
          refine go_iconst (v := nI 0) dX8_putBestLine_55 (by decide) ?_
          refine go_iload_n dX8_putBestLine_56 rfl ?_
          refine gs_copy dX8_putBestLine_57 ac_X8 (gg_32 b) (gg_33 b) (by omega) (by omega) (by omega) rfl rfl ?_
          refine go_heap (congrArg (wd (gg b)) (by rw [lst_a, lst_t, lst_ut])) ?_
          exact go_wk (by simp [lvle]) (next _ _ hq.1 hq.2)
