theorem ac_X8 : Cond.methodLink RX8 96 arraycopyName ∈ lw_tbl := List.mem_of_getElem? (i := 831) (by decide +kernel)
def swp (a : Nat → Int32) (i j : Nat) : Nat → Int32 := upd (upd a i (a j)) j (a i)
def dsc (a : Nat → Int32) : Nat → Option Nat
  | 0 => none
  | k + 1 => if a k ≤ a (k + 1) then some k else dsc a k
def djs (a : Nat → Int32) (x : Int32) (lo : Nat) : Nat → Nat
  | 0 => 0
  | j + 1 => if j + 1 ≤ lo then j + 1 else if x ≤ a (j + 1) then j + 1 else djs a x lo j
def rvl : Nat → (Nat → Int32) → Nat → Nat → (Nat → Int32)
  | 0, a, _, _ => a
  | f + 1, a, i, j => if j ≤ i then a else rvl f (swp a i j) (i + 1) (j - 1)
/-- the next greater line of n, if there is one -/
def nxt (a : Nat → Int32) (n : Nat) : Option (Nat → Int32) := match dsc a (n - 1) with
  | none => none
  | some i => some (rvl n (swp a i (djs a (a i) (i + 1) (n - 1))) (i + 1) (n - 1))
def pI : Nat → Int32
  | 0 => -1
  | k + 1 => nI k
theorem pI_dec (k : Nat) : nI k + Int32.ofInt (-1) = pI k := by
  cases k with
  | zero => decide
  | succ k => exact pk_m1 k
theorem nI_dec (k : Nat) : nI (k + 1) + Int32.ofInt (-1) = nI k := pk_m1 k
theorem dsc_lt {a : Nat → Int32} : ∀ {k i : Nat}, dsc a k = some i → i < k
  | 0, i, h => by simp [dsc] at h
  | k + 1, i, h => by
    rw [show dsc a (k + 1) = if a k ≤ a (k + 1) then some k else dsc a k from rfl] at h
    by_cases hc : a k ≤ a (k + 1)
    · rw [if_pos hc] at h; cases h; omega
    · rw [if_neg hc] at h; have := dsc_lt h; omega
theorem djs_le {a : Nat → Int32} {x : Int32} {lo : Nat} : ∀ (j : Nat), djs a x lo j ≤ j
  | 0 => Nat.le_refl _
  | j + 1 => by
    rw [show djs a x lo (j + 1) = if j + 1 ≤ lo then j + 1 else if x ≤ a (j + 1) then j + 1 else djs a x lo j from rfl]
    split
    · exact Nat.le_refl _
    · split
      · exact Nat.le_refl _
      · have := djs_le (a := a) (x := x) (lo := lo) j; omega
/-- each of the first n is a choir -/
def inL (a : Nat → Int32) (n : Nat) : Prop := ∀ k, k < n → ∃ c, c < 16 ∧ a k = nI c
theorem swp_in {a : Nat → Int32} {n i j : Nat} (h : inL a n) (hi : i < n) (hj : j < n) : inL (swp a i j) n := by
  intro k hk
  unfold swp
  by_cases h1 : k = j
  · subst h1; rw [pk_us]; exact h i hi
  · rw [pk_un h1]
    by_cases h2 : k = i
    · subst h2; rw [pk_us]; exact h j hj
    · rw [pk_un h2]; exact h k hk
theorem rvl_in {n : Nat} : ∀ (f : Nat) {a : Nat → Int32} {i j : Nat}, inL a n → i < n → j < n → inL (rvl f a i j) n
  | 0, a, i, j, h, _, _ => h
  | f + 1, a, i, j, h, hi, hj => by
    rw [show rvl (f + 1) a i j = if j ≤ i then a else rvl f (swp a i j) (i + 1) (j - 1) from rfl]
    split
    · exact h
    · exact rvl_in f (swp_in h hi hj) (by omega) (by omega)
theorem nxt_in {a a' : Nat → Int32} {n : Nat} (h : inL a n) (hn : nxt a n = some a') : inL a' n := by
  unfold nxt at hn
  cases hd : dsc a (n - 1) with
  | none => rw [hd] at hn; cases hn
  | some i =>
    rw [hd] at hn
    cases hn
    have h1 := dsc_lt hd
    have h2 := djs_le (a := a) (x := a i) (lo := i + 1) (n - 1)
    exact rvl_in n (swp_in h (by omega) (by omega)) (by omega) (by omega)
theorem cX8_swapInLine_ok (κ : gm_K) (b : Bool) (σ : wg_S) (i j : Nat) (hi : i < 4) (hj : j < 4) : Fn κ mX8_swapInLine [.ref 29, .int (nI i), .int (nI j)] (gg b) σ none (gg b) (ua σ 32 (swp (σ 32) i j)) := by
  refine go_start (by decide) (Nat.le_of_ble_eq_true rfl) ?_
  refine go_aload_n dX8_swapInLine_0 rfl ?_
  refine gs_gr dX8_swapInLine_1 flX8_25 (gg_29 b) rfl ?_
  refine go_iload_n dX8_swapInLine_4 rfl ?_
  refine gs_iald (_) dX8_swapInLine_5 (gg_32 b) (rfl) (by omega) rfl (rfl) ?_
  refine go_istore_n (lv' := [_, _, _, _]) dX8_swapInLine_6 rfl rfl rfl ?_
  refine go_aload_n dX8_swapInLine_7 rfl ?_
  refine gs_gr dX8_swapInLine_8 flX8_25 (gg_29 b) rfl ?_
  refine go_iload_n dX8_swapInLine_11 rfl ?_
  refine go_aload_n dX8_swapInLine_12 rfl ?_
  refine gs_gr dX8_swapInLine_13 flX8_25 (gg_29 b) rfl ?_
  refine go_iload_n dX8_swapInLine_16 rfl ?_
  refine gs_iald (_) dX8_swapInLine_17 (gg_32 b) (rfl) (by omega) rfl (rfl) ?_
  refine gs_iast (_) dX8_swapInLine_18 (gg_32 b) (rfl) (by omega) rfl ?_
  refine go_aload_n dX8_swapInLine_19 rfl ?_
  refine gs_gr dX8_swapInLine_20 flX8_25 (gg_29 b) rfl ?_
  refine go_iload_n dX8_swapInLine_23 rfl ?_
  refine go_iload_n dX8_swapInLine_24 rfl ?_
  refine gs_iast (_) dX8_swapInLine_25 (gg_32 b) (rfl) (by omega) rfl ?_
  refine go_vret dX8_swapInLine_26 rfl rfl ?_
  refine ⟨rfl, congrArg (wd (gg b)) ?_⟩
  rw [ua_us, ua_us, ua_s, ua_ua]
  rfl
theorem cX8_nextLine_ok (κ : gm_K) (b : Bool) (σ : wg_S) (n : Nat) (h1 : 1 ≤ n) (h4 : n ≤ 4) : Fn κ mX8_nextLine [.ref 29, .int (nI n)] (gg b) σ (some (.int (bi (nxt (σ 32) n).isSome))) (gg b) (match nxt (σ 32) n with | none => σ | some a => ua σ 32 a) := by
  refine go_start (by decide) (Nat.le_of_ble_eq_true rfl) ?_
  have loop3 : ∀ (f : Nat) (t : Nat → Int32) (x y : Nat), x ≤ 4 → y < x + f → y < n → nxt (σ 32) n = some (rvl f t x y) → Go κ mX8_nextLine 85 [some (.ref 29), some (.int (nI n)), none, none, some (.int (nI x)), some (.int (nI y))] [] (wd (gg b) (ua σ 32 t)) (0, 0) (fun q h' => q = some (.int (bi (nxt (σ 32) n).isSome)) ∧ h' = wd (gg b) (match nxt (σ 32) n with | none => σ | some a => ua σ 32 a)) := by
    intro f
    induction f with
    | zero =>
      intro t x y hx hf hy hT
      rw [show rvl 0 t x y = t from rfl] at hT
      refine go_iload dX8_nextLine_85 rfl ?_
      refine go_iload dX8_nextLine_87 rfl ?_
      refine go_icmp_geN 109 dX8_nextLine_89 (by decide) (by omega) (by omega) (fun c89 => ?_) (fun c89 => ?_)
      · refine go_iconst (v := nI 1) dX8_nextLine_109 (by decide) ?_
        refine go_zret dX8_nextLine_110 rfl rfl (by decide) ?_
        exact ⟨by rw [hT]; rfl, by rw [hT]⟩
      · omega
    | succ f ih =>
      intro t x y hx hf hy hT
      refine go_iload dX8_nextLine_85 rfl ?_
      refine go_iload dX8_nextLine_87 rfl ?_
      refine go_icmp_geN 109 dX8_nextLine_89 (by decide) (by omega) (by omega) (fun c89 => ?_) (fun c89 => ?_)
      · rw [show rvl (f + 1) t x y = t from if_pos c89] at hT
        refine go_iconst (v := nI 1) dX8_nextLine_109 (by decide) ?_
        refine go_zret dX8_nextLine_110 rfl rfl (by decide) ?_
        exact ⟨by rw [hT]; rfl, by rw [hT]⟩
      · rw [show rvl (f + 1) t x y = rvl f (swp t x y) (x + 1) (y - 1) from if_neg (by omega)] at hT
        refine go_aload_n dX8_nextLine_92 rfl ?_
        refine go_iload dX8_nextLine_93 rfl ?_
        refine go_iload dX8_nextLine_95 rfl ?_
        refine gs_callVv dX8_nextLine_97 cvX8_nextLine_109 (cX8_swapInLine_ok κ b (ua σ 32 t) x y (by omega) (by omega)) rfl (gg_29 b) rfl rfl rfl ⟨rfl, rfl⟩ rfl ?_
        refine go_iincN (lv' := [_, _, _, _, _, _]) 1 dX8_nextLine_100 (by decide) rfl rfl rfl rfl ?_
        refine go_iinc (lv' := [_, _, _, _, _, _]) dX8_nextLine_103 rfl (show _ = nI (y - 1) by rw [show nI y = nI (y - 1 + 1) by rw [Nat.sub_add_cancel (by omega)]]; exact nI_dec _) rfl rfl rfl ?_
        refine go_goto 85 dX8_nextLine_106 (by decide) ?_
        refine go_heap (congrArg (wd (gg b)) (by rw [ua_s, ua_ua])) ?_
        exact ih (swp t x y) (x + 1) (y - 1) (by omega) (by omega) (by omega) hT
  have loop2 : ∀ (i j : Nat), i + 1 ≤ j → j < n → dsc (σ 32) (n - 1) = some i → djs (σ 32) (σ 32 i) (i + 1) (n - 1) = djs (σ 32) (σ 32 i) (i + 1) j → Go κ mX8_nextLine 41 [some (.ref 29), some (.int (nI n)), some (.int (nI i)), some (.int (nI j)), none, none] [] (wd (gg b) σ) (0, 0) (fun q h' => q = some (.int (bi (nxt (σ 32) n).isSome)) ∧ h' = wd (gg b) (match nxt (σ 32) n with | none => σ | some a => ua σ 32 a)) := by
    intro i j
    induction j with
    | zero => intro h; omega
    | succ j ih =>
      intro hij hjn hd hj
      have hs : djs (σ 32) (σ 32 i) (i + 1) (j + 1) = if j + 1 ≤ i + 1 then j + 1 else if σ 32 i ≤ σ 32 (j + 1) then j + 1 else djs (σ 32) (σ 32 i) (i + 1) j := rfl
      have hN : nxt (σ 32) n = some (rvl n (swp (σ 32) i (djs (σ 32) (σ 32 i) (i + 1) (n - 1))) (i + 1) (n - 1)) := by unfold nxt; rw [hd]
      refine go_iload_n dX8_nextLine_41 rfl ?_
      refine go_iload_n dX8_nextLine_42 rfl ?_
      refine go_iconst (v := nI 1) dX8_nextLine_43 (by decide) ?_
      refine go_iaddN dX8_nextLine_44 ?_
      refine go_icmp_leN 69 dX8_nextLine_45 (by decide) (by omega) (by omega) (fun c45 => ?_) (fun c45 => ?_)
      · rw [hj, hs, if_pos c45] at hN
        refine go_aload_n dX8_nextLine_69 rfl ?_
        refine go_iload_n dX8_nextLine_70 rfl ?_
        refine go_iload_n dX8_nextLine_71 rfl ?_
        refine gs_callVv dX8_nextLine_72 cvX8_nextLine_109 (cX8_swapInLine_ok κ b σ i (j + 1) (by omega) (by omega)) rfl (gg_29 b) rfl rfl rfl ⟨rfl, rfl⟩ rfl ?_
        refine go_iload_n dX8_nextLine_75 rfl ?_
        refine go_iconst (v := nI 1) dX8_nextLine_76 (by decide) ?_
        refine go_iaddN dX8_nextLine_77 ?_
        refine go_istore (lv' := [_, _, _, _, _, _]) dX8_nextLine_78 rfl rfl rfl ?_
        refine go_iload_n dX8_nextLine_80 rfl ?_
        refine go_iconst (v := nI 1) dX8_nextLine_81 (by decide) ?_
        refine go_isubN dX8_nextLine_82 (by omega) ?_
        refine go_istore (lv' := [_, _, _, _, _, _]) dX8_nextLine_83 rfl rfl rfl ?_
        exact go_wk (by simp [lvle]) (loop3 n _ _ _ (by omega) (by omega) (by omega) hN)
      · refine go_aload_n dX8_nextLine_48 rfl ?_
        refine gs_gr dX8_nextLine_49 flX8_25 (gg_29 b) rfl ?_
        refine go_iload_n dX8_nextLine_52 rfl ?_
        refine gs_iald (_) dX8_nextLine_53 (gg_32 b) (rfl) (by omega) rfl (rfl) ?_
        refine go_aload_n dX8_nextLine_54 rfl ?_
        refine gs_gr dX8_nextLine_55 flX8_25 (gg_29 b) rfl ?_
        refine go_iload_n dX8_nextLine_58 rfl ?_
        refine gs_iald (_) dX8_nextLine_59 (gg_32 b) (rfl) (by omega) rfl (rfl) ?_
        refine go_icmp_ge 69 dX8_nextLine_60 (by decide) (fun c60 => ?_) (fun c60 => ?_)
        · rw [hj, hs, if_neg (by omega), if_pos c60] at hN
          refine go_aload_n dX8_nextLine_69 rfl ?_
          refine go_iload_n dX8_nextLine_70 rfl ?_
          refine go_iload_n dX8_nextLine_71 rfl ?_
          refine gs_callVv dX8_nextLine_72 cvX8_nextLine_109 (cX8_swapInLine_ok κ b σ i (j + 1) (by omega) (by omega)) rfl (gg_29 b) rfl rfl rfl ⟨rfl, rfl⟩ rfl ?_
          refine go_iload_n dX8_nextLine_75 rfl ?_
          refine go_iconst (v := nI 1) dX8_nextLine_76 (by decide) ?_
          refine go_iaddN dX8_nextLine_77 ?_
          refine go_istore (lv' := [_, _, _, _, _, _]) dX8_nextLine_78 rfl rfl rfl ?_
          refine go_iload_n dX8_nextLine_80 rfl ?_
          refine go_iconst (v := nI 1) dX8_nextLine_81 (by decide) ?_
          refine go_isubN dX8_nextLine_82 (by omega) ?_
          refine go_istore (lv' := [_, _, _, _, _, _]) dX8_nextLine_83 rfl rfl rfl ?_
          exact go_wk (by simp [lvle]) (loop3 n _ _ _ (by omega) (by omega) (by omega) hN)
        · rw [if_neg (by omega), if_neg c60] at hs
          refine go_iinc (lv' := [_, _, _, _, _, _]) dX8_nextLine_63 rfl (nI_dec j) rfl rfl rfl ?_
          refine go_goto 41 dX8_nextLine_66 (by decide) ?_
          exact ih (by omega) (by omega) hd (hj.trans hs)
  have loop1 : ∀ (k : Nat), k + 1 ≤ n → dsc (σ 32) (n - 1) = dsc (σ 32) k → Go κ mX8_nextLine 4 [some (.ref 29), some (.int (nI n)), some (.int (pI k)), none, none, none] [] (wd (gg b) σ) (0, 0) (fun q h' => q = some (.int (bi (nxt (σ 32) n).isSome)) ∧ h' = wd (gg b) (match nxt (σ 32) n with | none => σ | some a => ua σ 32 a)) := by
    intro k
    induction k with
    | zero =>
      intro hk hd
      have hN : nxt (σ 32) n = none := by unfold nxt; rw [hd]; rfl
      rw [show pI 0 = -1 from rfl]
      refine go_iload_n dX8_nextLine_4 rfl ?_
      refine go_if_lt 31 dX8_nextLine_5 (by decide) (fun _ => ?_) (fun z => absurd z (by decide))
      refine go_iload_n dX8_nextLine_31 rfl ?_
      refine go_if_ge 37 dX8_nextLine_32 (by decide) (fun z => absurd z (by decide)) (fun _ => ?_)
      refine go_iconst (v := nI 0) dX8_nextLine_35 (by decide) ?_
      refine go_zret dX8_nextLine_36 rfl rfl (by decide) ?_
      exact ⟨by rw [hN]; rfl, by rw [hN]⟩
    | succ k ih =>
      intro hk hd
      have hs : dsc (σ 32) (k + 1) = if σ 32 k ≤ σ 32 (k + 1) then some k else dsc (σ 32) k := rfl
      rw [show pI (k + 1) = nI k from rfl]
      refine go_iload_n dX8_nextLine_4 rfl ?_
      refine go_if_ltN 31 dX8_nextLine_5 (by decide) (by omega) ?_
      refine go_aload_n dX8_nextLine_8 rfl ?_
      refine gs_gr dX8_nextLine_9 flX8_25 (gg_29 b) rfl ?_
      refine go_iload_n dX8_nextLine_12 rfl ?_
      refine gs_iald (_) dX8_nextLine_13 (gg_32 b) (rfl) (by omega) rfl (rfl) ?_
      refine go_aload_n dX8_nextLine_14 rfl ?_
      refine gs_gr dX8_nextLine_15 flX8_25 (gg_29 b) rfl ?_
      refine go_iload_n dX8_nextLine_18 rfl ?_
      refine go_iconst (v := nI 1) dX8_nextLine_19 (by decide) ?_
      refine go_iaddN dX8_nextLine_20 ?_
      refine gs_iald (_) dX8_nextLine_21 (gg_32 b) (rfl) (by omega) rfl (rfl) ?_
      refine go_icmp_le 31 dX8_nextLine_22 (by decide) (fun c22 => ?_) (fun c22 => ?_)
      · rw [if_pos c22] at hs
        refine go_iload_n dX8_nextLine_31 rfl ?_
        refine go_if_geN 37 dX8_nextLine_32 (by decide) (by omega) ?_
        refine go_iload_n dX8_nextLine_37 rfl ?_
        refine go_iconst (v := nI 1) dX8_nextLine_38 (by decide) ?_
        refine go_isubN dX8_nextLine_39 (by omega) ?_
        refine go_istore_n (lv' := [_, _, _, _, _, _]) dX8_nextLine_40 rfl rfl rfl ?_
        exact loop2 k (n - 1) (by omega) (by omega) (hd.trans hs) rfl
      · rw [if_neg c22] at hs
        refine go_iinc (lv' := [_, _, _, _, _, _]) dX8_nextLine_25 rfl (pI_dec k) rfl rfl rfl ?_
        refine go_goto 4 dX8_nextLine_28 (by decide) ?_
        exact ih (by omega) (hd.trans hs)
  refine go_iload_n dX8_nextLine_0 rfl ?_
  refine go_iconst (v := nI 2) dX8_nextLine_1 (by decide) ?_
  refine go_isub dX8_nextLine_2 ?_
  refine go_istore_n (lv' := [_, _, _, _, _, _]) dX8_nextLine_3 rfl rfl rfl ?_
  skip
  refine go_wk ?_ (loop1 (n - 1) (by omega) rfl)
  have e : nI n - nI 2 = pI (n - 1) := by
    rcases (show n = 1 ∨ n = 2 ∨ n = 3 ∨ n = 4 by omega) with rfl | rfl | rfl | rfl <;> decide
  exact ⟨rfl, rfl, congrArg (fun z => some (Value.int z)) e, trivial⟩
def clz (sz : Nat → Int32) (a : Nat → Int32) (k : Nat) : Int32 := sz (a k).toNatClampNeg
def clp (sz : Nat → Int32) (a : Nat → Int32) (k : Nat) : Int32 := sm (clz sz a) k
def clL (sz : Nat → Int32) (w : Int32) (a : Nat → Int32) (n : Nat) : Int32 := sm (fun k => gol w (clp sz a k) (clz sz a k)) n
def clR (sz : Nat → Int32) (w : Int32) (a : Nat → Int32) (n : Nat) : Int32 := sm (fun k => gor w (clp sz a k) (clz sz a k)) n
def clv (sz : Nat → Int32) (w : Int32) (a : Nat → Int32) (n : Nat) : Int32 := if clL sz w a n < clR sz w a n then clR sz w a n else clL sz w a n
theorem clz_nI {sz a : Nat → Int32} {k c : Nat} (hc : c < 16) (e : a k = nI c) : clz sz a k = sz c := by rw [clz, e, nI_clamp (by omega)]
theorem cX8_clearOfLine_ok (κ : gm_K) (b : Bool) (σ : wg_S) (n : Nat) (h4 : n ≤ 4) (hin : inL (σ 32) n) : Fn κ mX8_clearOfLine [.ref 29, .int (nI n)] (gg b) σ (some (.int (clv (σ 6) (σ 29 1) (σ 32) n))) (gg b) (sdo σ (clL (σ 6) (σ 29 1) (σ 32) n) (clR (σ 6) (σ 29 1) (σ 32) n)) := by
  refine go_start (by decide) (Nat.le_of_ble_eq_true rfl) ?_
  refine go_aload_n dX8_clearOfLine_0 rfl ?_
  refine gs_callVv dX8_clearOfLine_1 cvX8_clearOfLine_78 (cX8_resetDoors_ok κ b σ) rfl (gg_29 b) rfl rfl rfl ⟨rfl, rfl⟩ rfl ?_
  refine go_iconst (v := nI 0) dX8_clearOfLine_4 (by decide) ?_
  refine go_istore_n (lv' := [_, _, _, _, _]) dX8_clearOfLine_5 rfl rfl rfl ?_
  refine go_iconst (v := nI 0) dX8_clearOfLine_6 (by decide) ?_
  refine go_istore_n (lv' := [_, _, _, _, _]) dX8_clearOfLine_7 rfl rfl rfl ?_
  skip
  refine go_wk (by exact ⟨rfl, rfl, rfl, rfl, trivial⟩) (?_ : Go κ mX8_clearOfLine 8 [some (.ref 29), some (.int (nI n)), some (.int (clp (σ 6) (σ 32) 0)), some (.int (nI 0)), none] [] (wd (gg b) (sdo σ (nI 0) (nI 0))) (0, 0) _)
  refine lo_up n (P := fun i => Go κ mX8_clearOfLine 8 [some (.ref 29), some (.int (nI n)), some (.int (clp (σ 6) (σ 32) i)), some (.int (nI i)), none] [] (wd (gg b) (sdo σ (clL (σ 6) (σ 29 1) (σ 32) i) (clR (σ 6) (σ 29 1) (σ 32) i))) (0, 0) _) (fun i hi ih => ?_) 0 (Nat.zero_le _)
  refine go_iload_n dX8_clearOfLine_8 rfl ?_
  refine go_iload_n dX8_clearOfLine_9 rfl ?_
  refine go_icmp_geN 47 dX8_clearOfLine_10 (by decide) (by omega) (by omega) (fun c10 => ?_) (fun c10 => ?_)
  · refine go_aload_n dX8_clearOfLine_47 rfl ?_
    refine gs_gi dX8_clearOfLine_48 flX8_31 (gg_29 b) rfl (sdo_7) ?_
    refine go_aload_n dX8_clearOfLine_51 rfl ?_
    refine gs_gi dX8_clearOfLine_52 flX8_34 (gg_29 b) rfl (sdo_8) ?_
    refine gs_callSi dX8_clearOfLine_55 csX8_clearOfLine_85 (cJ9_max_ok κ b (sdo σ (clL (σ 6) (σ 29 1) (σ 32) i) (clR (σ 6) (σ 29 1) (σ 32) i)) _ _) rfl rfl rfl ⟨rfl, rfl⟩ rfl ?_
    refine go_iret dX8_clearOfLine_58 rfl rfl ?_
    have e : i = n := by omega
    subst e
    exact ⟨rfl, rfl⟩
  · obtain ⟨c, hc, e⟩ := hin i c10
    refine go_aload_n dX8_clearOfLine_13 rfl ?_
    refine gs_gr dX8_clearOfLine_14 flX8_37 (gg_29 b) rfl ?_
    refine gs_gr dX8_clearOfLine_17 flX8_60 (gg_1 b) rfl ?_
    refine go_aload_n dX8_clearOfLine_20 rfl ?_
    refine gs_gr dX8_clearOfLine_21 flX8_25 (gg_29 b) rfl ?_
    refine go_iload_n dX8_clearOfLine_24 rfl ?_
    refine gs_iald (_) dX8_clearOfLine_25 (gg_32 b) (rfl) (by omega) rfl ((congrFun (sdo_p (by decide)) i).trans e) ?_
    refine gs_iald (_) dX8_clearOfLine_26 (gg_6 b) (rfl) (by omega) rfl (congrFun (sdo_p (by decide)) c) ?_
    refine go_istore (lv' := [_, _, _, _, _]) dX8_clearOfLine_27 rfl rfl rfl ?_
    refine go_aload_n dX8_clearOfLine_29 rfl ?_
    refine go_iload_n dX8_clearOfLine_30 rfl ?_
    refine go_iload dX8_clearOfLine_31 rfl ?_
    refine gs_callVv dX8_clearOfLine_33 cvX8_clearOfLine_81 (cX8_sendOff_ok κ b (sdo σ (clL (σ 6) (σ 29 1) (σ 32) i) (clR (σ 6) (σ 29 1) (σ 32) i)) _ _) rfl (gg_29 b) rfl rfl rfl ⟨rfl, rfl⟩ rfl ?_
    refine go_iload_n dX8_clearOfLine_36 rfl ?_
    refine go_iload dX8_clearOfLine_37 rfl ?_
    refine go_iadd dX8_clearOfLine_39 ?_
    refine go_istore_n (lv' := [_, _, _, _, _]) dX8_clearOfLine_40 rfl rfl rfl ?_
    refine go_iincN (lv' := [_, _, _, _, _]) 1 dX8_clearOfLine_41 (by decide) rfl rfl rfl rfl ?_
    refine go_goto 8 dX8_clearOfLine_44 (by decide) ?_
    exact go_wkh (by simp [lvle, clp, sm, clz_nI hc e]) (by rw [s_off_sdo, clL, clL, clR, clR, sm, sm, clz_nI hc e]) (ih c10)
/-- the first line: the choirs of the set, from the least on -/
def fln (σ : wg_S) (set : Int32) : Nat → Nat × wg_S
  | 0 => (0, σ)
  | i + 1 => if (fln σ set i).1 < 4 ∧ bv set i = nI 1 then ((fln σ set i).1 + 1, us (fln σ set i).2 32 (fln σ set i).1 (nI i)) else fln σ set i
theorem fln_4 (σ : wg_S) (set : Int32) : ∀ i, (fln σ set i).1 ≤ 4
  | 0 => by simp [fln]
  | i + 1 => by
    rw [show fln σ set (i + 1) = if (fln σ set i).1 < 4 ∧ bv set i = nI 1 then ((fln σ set i).1 + 1, us (fln σ set i).2 32 (fln σ set i).1 (nI i)) else fln σ set i from rfl]
    have := fln_4 σ set i
    split
    · rename_i h; have := h.1; show _ + 1 ≤ 4; omega
    · exact this
theorem fln_p (σ : wg_S) (set : Int32) {p : Nat} (hp : p ≠ 32) : ∀ i, (fln σ set i).2 p = σ p
  | 0 => rfl
  | i + 1 => by
    rw [show fln σ set (i + 1) = if (fln σ set i).1 < 4 ∧ bv set i = nI 1 then ((fln σ set i).1 + 1, us (fln σ set i).2 32 (fln σ set i).1 (nI i)) else fln σ set i from rfl]
    split
    · show us _ 32 _ _ p = _
      rw [us_p hp]; exact fln_p σ set hp i
    · exact fln_p σ set hp i
theorem fln_full (σ : wg_S) (set : Int32) {i : Nat} (h : (fln σ set i).1 = 4) : ∀ d, fln σ set (i + d) = fln σ set i
  | 0 => rfl
  | d + 1 => by
    have ih := fln_full σ set h d
    rw [show fln σ set (i + (d + 1)) = if (fln σ set (i + d)).1 < 4 ∧ bv set (i + d) = nI 1 then ((fln σ set (i + d)).1 + 1, us (fln σ set (i + d)).2 32 (fln σ set (i + d)).1 (nI (i + d))) else fln σ set (i + d) from rfl, ih]
    rw [if_neg (by omega)]
theorem cX8_firstLine_ok (κ : gm_K) (b : Bool) (σ : wg_S) (n : Nat) (hn : n ≤ 16) (hN : σ 1 0 = nI n) (set : Int32) : Fn κ mX8_firstLine [.ref 29, .int set] (gg b) σ (some (.int (nI (fln σ set n).1))) (gg b) (fln σ set n).2 := by
  refine go_start (by decide) (Nat.le_of_ble_eq_true rfl) ?_
  refine go_iconst (v := nI 0) dX8_firstLine_0 (by decide) ?_
  refine go_istore_n (lv' := [_, _, _, _]) dX8_firstLine_1 rfl rfl rfl ?_
  refine go_iconst (v := nI 0) dX8_firstLine_2 (by decide) ?_
  refine go_istore_n (lv' := [_, _, _, _]) dX8_firstLine_3 rfl rfl rfl ?_
  skip
  refine lo_up n (P := fun i => Go κ mX8_firstLine 4 [some (.ref 29), some (.int set), some (.int (nI (fln σ set i).1)), some (.int (nI i))] [] (wd (gg b) (fln σ set i).2) (0, 0) _) (fun i hi ih => ?_) 0 (Nat.zero_le _)
  have h4 := fln_4 σ set i
  have hs : fln σ set (i + 1) = if (fln σ set i).1 < 4 ∧ bv set i = nI 1 then ((fln σ set i).1 + 1, us (fln σ set i).2 32 (fln σ set i).1 (nI i)) else fln σ set i := rfl
  refine go_iload_n dX8_firstLine_4 rfl ?_
  refine go_aload_n dX8_firstLine_5 rfl ?_
  refine gs_gr dX8_firstLine_6 flX8_37 (gg_29 b) rfl ?_
  refine gs_gi dX8_firstLine_9 flX8_47 (gg_1 b) rfl ((congrFun (fln_p σ set (by decide) i) 0).trans hN) ?_
  refine go_icmp_geN 45 dX8_firstLine_12 (by decide) (by omega) (by omega) (fun c12 => ?_) (fun c12 => ?_)
  · refine go_iload_n dX8_firstLine_45 rfl ?_
    refine go_iret dX8_firstLine_46 rfl rfl ?_
    first
      | (have e : i = n := by omega
         subst e
         exact ⟨rfl, rfl⟩)
      | (have e : n = i + (n - i) := by omega
         rw [e, fln_full σ set (by omega) (n - i)]
         exact ⟨rfl, rfl⟩)
  · refine go_iload_n dX8_firstLine_15 rfl ?_
    refine go_iconst (v := nI 4) dX8_firstLine_16 (by decide) ?_
    refine go_icmp_geN 45 dX8_firstLine_17 (by decide) (by omega) (by omega) (fun c17 => ?_) (fun c17 => ?_)
    · refine go_iload_n dX8_firstLine_45 rfl ?_
      refine go_iret dX8_firstLine_46 rfl rfl ?_
      first
        | (have e : i = n := by omega
           subst e
           exact ⟨rfl, rfl⟩)
        | (have e : n = i + (n - i) := by omega
           rw [e, fln_full σ set (by omega) (n - i)]
           exact ⟨rfl, rfl⟩)
    · refine go_iload_n dX8_firstLine_20 rfl ?_
      refine go_iload_n dX8_firstLine_21 rfl ?_
      refine go_ishr dX8_firstLine_22 ?_
      refine go_iconst (v := nI 1) dX8_firstLine_23 (by decide) ?_
      refine go_iand dX8_firstLine_24 ?_
      refine go_iconst (v := nI 1) dX8_firstLine_25 (by decide) ?_
      refine go_icmp_ne 39 dX8_firstLine_26 (by decide) (fun c26 => ?_) (fun c26 => ?_)
      · rw [if_neg (fun z => c26 z.2)] at hs
        refine go_iincN (lv' := [_, _, _, _]) 1 dX8_firstLine_39 (by decide) rfl rfl rfl rfl ?_
        refine go_goto 4 dX8_firstLine_42 (by decide) ?_
        exact go_wkh (by simp [lvle, hs]) (by rw [hs]) (ih c12)
      · rw [if_pos ⟨c17, c26⟩] at hs
        refine go_aload_n dX8_firstLine_29 rfl ?_
        refine gs_gr dX8_firstLine_30 flX8_25 (gg_29 b) rfl ?_
        refine go_iload_n dX8_firstLine_33 rfl ?_
        refine go_iload_n dX8_firstLine_34 rfl ?_
        refine gs_iast (_) dX8_firstLine_35 (gg_32 b) (rfl) (by omega) rfl ?_
        refine go_iincN (lv' := [_, _, _, _]) 1 dX8_firstLine_36 (by decide) rfl rfl rfl rfl ?_
        refine go_iincN (lv' := [_, _, _, _]) 1 dX8_firstLine_39 (by decide) rfl rfl rfl rfl ?_
        refine go_goto 4 dX8_firstLine_42 (by decide) ?_
        exact go_wkh (by simp [lvle, hs]) (by rw [hs]) (ih c12)
