theorem nI_clr0 : ∀ u, u < 512 → ∀ i, i < 9 → u / 2 ^ i % 2 = 1 → nI u &&& ((nI 1 <<< (nI i &&& 31)) ^^^ -1) = nI (u - 2 ^ i) := by decide +kernel
theorem nI_clr {u i : Nat} (hu : u < 512) (hi : i < 9) (hb : u / 2 ^ i % 2 = 1) : nI u &&& ((nI 1 <<< (nI i &&& 31)) ^^^ -1) = nI (u - 2 ^ i) := nI_clr0 u hu i hi hb
theorem bit_le {u i : Nat} (h : u / 2 ^ i % 2 = 1) : 2 ^ i ≤ u := by
  rcases Nat.lt_or_ge u (2 ^ i) with h1 | h1
  · rw [Nat.div_eq_of_lt h1] at h; simp at h
  · exact h1
/-- the least sum behind a, with u left, over the first b of the songs; L the row of the smaller sets -/
def flb (L : Nat → Int32) (K : Nat → Nat → Int32) (Y : Nat → Bool) (u x : Nat) : Nat → Int32
  | 0 => if u = 0 then nI 0 else -1
  | k + 1 => if u / 2 ^ k % 2 = 1 ∧ (!(Y x && Y k)) = true then
      (if L (9 * (u - 2 ^ k) + k) < 0 then flb L K Y u x k else if flb L K Y u x k < 0 then L (9 * (u - 2 ^ k) + k) + K x k
        else if flb L K Y u x k ≤ L (9 * (u - 2 ^ k) + k) + K x k then flb L K Y u x k else L (9 * (u - 2 ^ k) + k) + K x k)
    else flb L K Y u x k
theorem flb_s (L : Nat → Int32) (K : Nat → Nat → Int32) (Y : Nat → Bool) (u x k : Nat) : flb L K Y u x (k + 1) = if u / 2 ^ k % 2 = 1 ∧ (!(Y x && Y k)) = true then
      (if L (9 * (u - 2 ^ k) + k) < 0 then flb L K Y u x k else if flb L K Y u x k < 0 then L (9 * (u - 2 ^ k) + k) + K x k
        else if flb L K Y u x k ≤ L (9 * (u - 2 ^ k) + k) + K x k then flb L K Y u x k else L (9 * (u - 2 ^ k) + k) + K x k)
    else flb L K Y u x k := rfl
theorem flb_c {L L' : Nat → Int32} (K : Nat → Nat → Int32) (Y : Nat → Bool) (u x : Nat) (h : ∀ i, i < 9 * u → L i = L' i) : ∀ k, k ≤ 9 → flb L K Y u x k = flb L' K Y u x k
  | 0, _ => rfl
  | k + 1, hk => by
    rw [flb_s, flb_s, flb_c K Y u x h k (by omega)]
    by_cases hb : u / 2 ^ k % 2 = 1
    · have h1 := bit_le hb
      have h2 : 0 < 2 ^ k := Nat.two_pow_pos k
      rw [h (9 * (u - 2 ^ k) + k) (by omega)]
    · rw [if_neg (fun z => hb z.1), if_neg (fun z => hb z.1)]
def FO (σ : wg_S) (K : Nat → Nat → Int32) (Y : Nat → Bool) (m u : Nat) (τ : wg_S) : Prop := (∀ p, p ≠ 79 → τ p = σ p) ∧ ∀ v x, v < u → x < m → τ 79 (9 * v + x) = flb (τ 79) K Y v x m
def FN (σ : wg_S) (K : Nat → Nat → Int32) (Y : Nat → Bool) (m u x : Nat) (τ : wg_S) : Prop := FO σ K Y m u τ ∧ ∀ x', x' < x → τ 79 (9 * u + x') = flb (τ 79) K Y u x' m
theorem FN_s {σ τ : wg_S} {K : Nat → Nat → Int32} {Y : Nat → Bool} {m u x : Nat} (H : FN σ K Y m u x τ) (hm : m ≤ 9) (hx : x < m) : FN σ K Y m u (x + 1) (us τ 79 (9 * u + x) (flb (τ 79) K Y u x m)) := by
  obtain ⟨⟨h1, h2⟩, h3⟩ := H
  have e : ∀ v x', v ≤ u → flb (us τ 79 (9 * u + x) (flb (τ 79) K Y u x m) 79) K Y v x' m = flb (τ 79) K Y v x' m := by
    intro v x' hv
    refine flb_c K Y v x' (fun i hi => ?_) m hm
    rw [us_k (by omega)]
  refine ⟨⟨fun p hp => by rw [us_p hp]; exact h1 p hp, fun v x' hv hx' => ?_⟩, fun x' hx' => ?_⟩
  · rw [us_k (by omega), e v x' (by omega)]; exact h2 v x' hv hx'
  · rw [e u x' (by omega)]
    by_cases q : x' = x
    · subst q; rw [us_s]
    · rw [us_k (by omega)]; exact h3 x' (by omega)
theorem FN_e {σ τ : wg_S} {K : Nat → Nat → Int32} {Y : Nat → Bool} {m u : Nat} (H : FN σ K Y m u m τ) : FO σ K Y m (u + 1) τ := by
  refine ⟨H.1.1, fun v x hv hx => ?_⟩
  by_cases q : v = u
  · subst q; exact H.2 x hx
  · exact H.1.2 v x (by omega) hx
theorem cX11_findLeast_ok (κ : gm_K) (b : Bool) (σ : wg_S) (m : Nat) (hm : m ≤ 9) (hM : σ 47 11 = nI m) (K : Nat → Nat → Int32) (Y : Nat → Bool) (hY : ∀ s, s < m → σ 77 s = bi (Y s)) (hK : ∀ x y, x < m → y < m → σ 78 (9 * x + y) = K x y) : FeV κ mX11_findLeast [.ref 47] (gg b) σ (FO σ K Y m (2 ^ m)) := by
  refine go_start (by decide) (Nat.le_of_ble_eq_true rfl) ?_
  have h9 := p2_9 m hm
  have sum : ∀ u x, u < 2 ^ m → x < m → ∀ τ, FN σ K Y m u x τ → Go κ mX11_findLeast 130 [some (.ref 47), some (.int (nI u)), some (.int (nI x)), some (.int (flb (τ 79) K Y u x m)), none, none, none] [] (wd (gg b) τ) (0, 0) (fun z h' => ∃ τ, z = none ∧ h' = wd (gg b) τ ∧ FO σ K Y m (2 ^ m) τ) → ∀ i, i ≤ m → Go κ mX11_findLeast 35 [some (.ref 47), some (.int (nI u)), some (.int (nI x)), some (.int (flb (τ 79) K Y u x i)), some (.int (nI i)), none, none] [] (wd (gg b) τ) (0, 0) (fun z h' => ∃ τ, z = none ∧ h' = wd (gg b) τ ∧ FO σ K Y m (2 ^ m) τ) := by
    intro u x hu hx τ H fin
    refine lo_up m (fun i hi ih => ?_)
    have hM' : τ 47 11 = nI m := by rw [H.1.1 47 (by decide)]; exact hM
    have h78 : ∀ k, τ 78 k = σ 78 k := fun k => by rw [H.1.1 78 (by decide)]
    have hmc : i < m → Fn κ mX11_mayCome [.ref 47, .int (nI x), .int (nI i)] (gg b) τ (some (.int (bi (!(Y x && Y i))))) (gg b) τ := fun h => cX11_mayCome_ok κ b τ x i (by omega) (by omega) _ _ (by rw [H.1.1 77 (by decide)]; exact hY x hx) (by rw [H.1.1 77 (by decide)]; exact hY i h)
    have hs' := flb_s (τ 79) K Y u x i
    refine go_iload dX11_findLeast_35 rfl ?_
    refine go_aload_n dX11_findLeast_37 rfl ?_
    refine gs_gi dX11_findLeast_38 flX11_137 (gg_47 b) rfl (hM') ?_
    refine go_icmp_geN 130 dX11_findLeast_41 (by decide) (by omega) (by omega) (fun c41 => ?_) (fun c41 => ?_)
    · have e : i = m := by omega
      subst e
      exact go_wk (by exact ⟨rfl, rfl, rfl, rfl, trivial⟩) fin
    · refine go_iload_n dX11_findLeast_44 rfl ?_
      refine go_iload dX11_findLeast_45 rfl ?_
      refine go_ishr dX11_findLeast_47 ?_
      refine go_iconst (v := nI 1) dX11_findLeast_48 (by decide) ?_
      refine go_iand dX11_findLeast_49 ?_
      refine go_topI (bv_nI (by omega) (by omega)) ?_
      refine go_iconst (v := nI 1) dX11_findLeast_50 (by decide) ?_
      refine go_icmp_neN 124 dX11_findLeast_51 (by decide) (by omega) (by omega) (fun c51 => ?_) (fun c51 => ?_)
      · refine go_iincN (lv' := [_, _, _, _, _, _, _]) 1 dX11_findLeast_124 (by decide) rfl rfl rfl rfl ?_
        refine go_goto 35 dX11_findLeast_127 (by decide) ?_
        exact go_wk (by rw [hs', if_neg (fun z => c51 z.1)]; exact ⟨rfl, rfl, rfl, rfl, rfl, trivial⟩) (ih c41)
      · refine go_aload_n dX11_findLeast_54 rfl ?_
        refine go_iload_n dX11_findLeast_55 rfl ?_
        refine go_iload dX11_findLeast_56 rfl ?_
        refine gs_callVi dX11_findLeast_58 cvX11_findLeast_290 (hmc c41) rfl (gg_47 b) rfl rfl rfl ⟨rfl, rfl⟩ rfl ?_
        refine go_if_eqB 124 dX11_findLeast_61 (by decide) (fun c61 => ?_) (fun c61 => ?_)
        · refine go_iincN (lv' := [_, _, _, _, _, _, _]) 1 dX11_findLeast_124 (by decide) rfl rfl rfl rfl ?_
          refine go_goto 35 dX11_findLeast_127 (by decide) ?_
          exact go_wk (by rw [hs', if_neg (fun z => by rw [c61] at z; exact absurd z.2 (by decide))]; exact ⟨rfl, rfl, rfl, rfl, rfl, trivial⟩) (ih c41)
        · refine go_aload_n dX11_findLeast_64 rfl ?_
          refine gs_gr dX11_findLeast_65 flX11_113 (gg_47 b) rfl ?_
          refine go_bipush (v := nI 9) dX11_findLeast_68 (by decide) ?_
          refine go_iload_n dX11_findLeast_70 rfl ?_
          refine go_iconst (v := nI 1) dX11_findLeast_71 (by decide) ?_
          refine go_iload dX11_findLeast_72 rfl ?_
          refine go_ishl dX11_findLeast_74 ?_
          refine go_iconst (v := -1) dX11_findLeast_75 (by decide) ?_
          refine go_ixor dX11_findLeast_76 ?_
          refine go_iand dX11_findLeast_77 ?_
          refine go_topI (nI_clr (by omega) (by omega) c51) ?_
          refine go_imulN dX11_findLeast_78 ?_
          refine go_iload dX11_findLeast_79 rfl ?_
          refine go_iaddN dX11_findLeast_81 ?_
          refine gs_iald (_) dX11_findLeast_82 (gg_79 b) (rfl) (by have := Nat.sub_le u (2 ^ i); omega) rfl (rfl) ?_
          refine go_istore (lv' := [_, _, _, _, _, _, _]) dX11_findLeast_83 rfl rfl rfl ?_
          refine go_iload dX11_findLeast_85 rfl ?_
          refine go_aload_n dX11_findLeast_87 rfl ?_
          refine gs_gr dX11_findLeast_88 flX11_110 (gg_47 b) rfl ?_
          refine go_bipush (v := nI 9) dX11_findLeast_91 (by decide) ?_
          refine go_iload_n dX11_findLeast_93 rfl ?_
          refine go_imulN dX11_findLeast_94 ?_
          refine go_iload dX11_findLeast_95 rfl ?_
          refine go_iaddN dX11_findLeast_97 ?_
          refine gs_iald (_) dX11_findLeast_98 (gg_78 b) (rfl) (by omega) rfl ((h78 _).trans (hK x i hx c41)) ?_
          refine go_iadd dX11_findLeast_99 ?_
          refine go_istore (lv' := [_, _, _, _, _, _, _]) dX11_findLeast_100 rfl rfl rfl ?_
          refine go_iload dX11_findLeast_102 rfl ?_
          refine go_if_lt 122 dX11_findLeast_104 (by decide) (fun c104 => ?_) (fun c104 => ?_)
          · refine go_iload_n dX11_findLeast_122 rfl ?_
            refine go_istore_n (lv' := [_, _, _, _, _, _, _]) dX11_findLeast_123 rfl rfl rfl ?_
            refine go_iincN (lv' := [_, _, _, _, _, _, _]) 1 dX11_findLeast_124 (by decide) rfl rfl rfl rfl ?_
            refine go_goto 35 dX11_findLeast_127 (by decide) ?_
            exact go_wk (by rw [hs', if_pos ⟨c51, c61⟩, if_pos c104]; exact ⟨rfl, rfl, rfl, rfl, rfl, trivial⟩) (ih c41)
          · refine go_iload_n dX11_findLeast_107 rfl ?_
            refine go_if_lt 117 dX11_findLeast_108 (by decide) (fun c108 => ?_) (fun c108 => ?_)
            · refine go_iload dX11_findLeast_117 rfl ?_
              refine go_goto 123 dX11_findLeast_119 (by decide) ?_
              refine go_istore_n (lv' := [_, _, _, _, _, _, _]) dX11_findLeast_123 rfl rfl rfl ?_
              refine go_iincN (lv' := [_, _, _, _, _, _, _]) 1 dX11_findLeast_124 (by decide) rfl rfl rfl rfl ?_
              refine go_goto 35 dX11_findLeast_127 (by decide) ?_
              exact go_wk (by rw [hs', if_pos ⟨c51, c61⟩, if_neg c104, if_pos c108]; exact ⟨rfl, rfl, rfl, rfl, rfl, trivial⟩) (ih c41)
            · refine go_iload dX11_findLeast_111 rfl ?_
              refine go_iload_n dX11_findLeast_113 rfl ?_
              refine go_icmp_ge 122 dX11_findLeast_114 (by decide) (fun c114 => ?_) (fun c114 => ?_)
              · refine go_iload_n dX11_findLeast_122 rfl ?_
                refine go_istore_n (lv' := [_, _, _, _, _, _, _]) dX11_findLeast_123 rfl rfl rfl ?_
                refine go_iincN (lv' := [_, _, _, _, _, _, _]) 1 dX11_findLeast_124 (by decide) rfl rfl rfl rfl ?_
                refine go_goto 35 dX11_findLeast_127 (by decide) ?_
                exact go_wk (by rw [hs', if_pos ⟨c51, c61⟩, if_neg c104, if_neg c108, if_pos c114]; exact ⟨rfl, rfl, rfl, rfl, rfl, trivial⟩) (ih c41)
              · refine go_iload dX11_findLeast_117 rfl ?_
                refine go_goto 123 dX11_findLeast_119 (by decide) ?_
                refine go_istore_n (lv' := [_, _, _, _, _, _, _]) dX11_findLeast_123 rfl rfl rfl ?_
                refine go_iincN (lv' := [_, _, _, _, _, _, _]) 1 dX11_findLeast_124 (by decide) rfl rfl rfl rfl ?_
                refine go_goto 35 dX11_findLeast_127 (by decide) ?_
                exact go_wk (by rw [hs', if_pos ⟨c51, c61⟩, if_neg c104, if_neg c108, if_neg c114]; exact ⟨rfl, rfl, rfl, rfl, rfl, trivial⟩) (ih c41)
  have mid : ∀ u, u < 2 ^ m → (∀ τ, FO σ K Y m (u + 1) τ → Go κ mX11_findLeast 148 [some (.ref 47), some (.int (nI u)), none, none, none, none, none] [] (wd (gg b) τ) (0, 0) (fun z h' => ∃ τ, z = none ∧ h' = wd (gg b) τ ∧ FO σ K Y m (2 ^ m) τ)) → ∀ x, x ≤ m → ∀ τ, FN σ K Y m u x τ → Go κ mX11_findLeast 14 [some (.ref 47), some (.int (nI u)), some (.int (nI x)), none, none, none, none] [] (wd (gg b) τ) (0, 0) (fun z h' => ∃ τ, z = none ∧ h' = wd (gg b) τ ∧ FO σ K Y m (2 ^ m) τ) := by
    intro u hu fin
    refine lo_up m (fun x hi ih τ H => ?_)
    have hM' : τ 47 11 = nI m := by rw [H.1.1 47 (by decide)]; exact hM
    refine go_iload_n dX11_findLeast_14 rfl ?_
    refine go_aload_n dX11_findLeast_15 rfl ?_
    refine gs_gi dX11_findLeast_16 flX11_137 (gg_47 b) rfl (hM') ?_
    refine go_icmp_geN 148 dX11_findLeast_19 (by decide) (by omega) (by omega) (fun c19 => ?_) (fun c19 => ?_)
    · have e : x = m := by omega
      subst e
      exact go_wk (by simp [lvle]) (fin τ (FN_e H))
    · refine go_iload_n dX11_findLeast_22 rfl ?_
      refine go_if_neN 30 dX11_findLeast_23 (by decide) (by omega) (fun c23 => ?_) (fun c23 => ?_)
      · refine go_iconst (v := -1) dX11_findLeast_30 (by decide) ?_
        refine go_istore_n (lv' := [_, _, _, _, _, _, _]) dX11_findLeast_31 rfl rfl rfl ?_
        refine go_iconst (v := nI 0) dX11_findLeast_32 (by decide) ?_
        refine go_istore (lv' := [_, _, _, _, _, _, _]) dX11_findLeast_33 rfl rfl rfl ?_
        refine go_wk (by rw [flb, if_neg c23]; exact ⟨rfl, rfl, rfl, rfl, rfl, trivial⟩) (sum u x hu c19 τ H ?_ 0 (Nat.zero_le _))
        refine go_aload_n dX11_findLeast_130 rfl ?_
        refine gs_gr dX11_findLeast_131 flX11_113 (gg_47 b) rfl ?_
        refine go_bipush (v := nI 9) dX11_findLeast_134 (by decide) ?_
        refine go_iload_n dX11_findLeast_136 rfl ?_
        refine go_imulN dX11_findLeast_137 ?_
        refine go_iload_n dX11_findLeast_138 rfl ?_
        refine go_iaddN dX11_findLeast_139 ?_
        refine go_iload_n dX11_findLeast_140 rfl ?_
        refine gs_iast (_) dX11_findLeast_141 (gg_79 b) (rfl) (by omega) rfl ?_
        refine go_iincN (lv' := [_, _, _, _, _, _, _]) 1 dX11_findLeast_142 (by decide) rfl rfl rfl rfl ?_
        refine go_goto 14 dX11_findLeast_145 (by decide) ?_
        exact go_wk (by exact ⟨rfl, rfl, rfl, trivial⟩) (ih c19 _ (FN_s H hm c19))
      · refine go_iconst (v := nI 0) dX11_findLeast_26 (by decide) ?_
        refine go_goto 31 dX11_findLeast_27 (by decide) ?_
        refine go_istore_n (lv' := [_, _, _, _, _, _, _]) dX11_findLeast_31 rfl rfl rfl ?_
        refine go_iconst (v := nI 0) dX11_findLeast_32 (by decide) ?_
        refine go_istore (lv' := [_, _, _, _, _, _, _]) dX11_findLeast_33 rfl rfl rfl ?_
        refine go_wk (by rw [flb, if_pos c23]; exact ⟨rfl, rfl, rfl, rfl, rfl, trivial⟩) (sum u x hu c19 τ H ?_ 0 (Nat.zero_le _))
        refine go_aload_n dX11_findLeast_130 rfl ?_
        refine gs_gr dX11_findLeast_131 flX11_113 (gg_47 b) rfl ?_
        refine go_bipush (v := nI 9) dX11_findLeast_134 (by decide) ?_
        refine go_iload_n dX11_findLeast_136 rfl ?_
        refine go_imulN dX11_findLeast_137 ?_
        refine go_iload_n dX11_findLeast_138 rfl ?_
        refine go_iaddN dX11_findLeast_139 ?_
        refine go_iload_n dX11_findLeast_140 rfl ?_
        refine gs_iast (_) dX11_findLeast_141 (gg_79 b) (rfl) (by omega) rfl ?_
        refine go_iincN (lv' := [_, _, _, _, _, _, _]) 1 dX11_findLeast_142 (by decide) rfl rfl rfl rfl ?_
        refine go_goto 14 dX11_findLeast_145 (by decide) ?_
        exact go_wk (by exact ⟨rfl, rfl, rfl, trivial⟩) (ih c19 _ (FN_s H hm c19))
  have outer : ∀ u, u ≤ 2 ^ m → ∀ τ, FO σ K Y m u τ → Go κ mX11_findLeast 2 [some (.ref 47), some (.int (nI u)), none, none, none, none, none] [] (wd (gg b) τ) (0, 0) (fun z h' => ∃ τ, z = none ∧ h' = wd (gg b) τ ∧ FO σ K Y m (2 ^ m) τ) := by
    refine lo_up (2 ^ m) (fun u hi ih τ H => ?_)
    have hM' : τ 47 11 = nI m := by rw [H.1 47 (by decide)]; exact hM
    refine go_iload_n dX11_findLeast_2 rfl ?_
    refine go_iconst (v := nI 1) dX11_findLeast_3 (by decide) ?_
    refine go_aload_n dX11_findLeast_4 rfl ?_
    refine gs_gi dX11_findLeast_5 flX11_137 (gg_47 b) rfl (hM') ?_
    refine go_ishl dX11_findLeast_8 ?_
    refine go_topI (shl1 m (by omega)) ?_
    refine go_icmp_geN 154 dX11_findLeast_9 (by decide) (by omega) (by omega) (fun c9 => ?_) (fun c9 => ?_)
    · refine go_vret dX11_findLeast_154 rfl rfl ?_
      have e : u = 2 ^ m := by omega
      subst e
      exact ⟨τ, rfl, rfl, H⟩
    · refine go_iconst (v := nI 0) dX11_findLeast_12 (by decide) ?_
      refine go_istore_n (lv' := [_, _, _, _, _, _, _]) dX11_findLeast_13 rfl rfl rfl ?_
      refine go_wk (by exact ⟨rfl, rfl, rfl, trivial⟩) (mid u c9 (fun τ' H' => ?_) 0 (Nat.zero_le _) τ ⟨H, fun x' hx => absurd hx (by omega)⟩)
      refine go_iincN (lv' := [_, _, _, _, _, _, _]) 1 dX11_findLeast_148 (by decide) rfl rfl rfl rfl ?_
      refine go_goto 2 dX11_findLeast_151 (by decide) ?_
      exact go_wk (by exact ⟨rfl, rfl, trivial⟩) (ih c9 τ' H')
  refine go_iconst (v := nI 0) dX11_findLeast_0 (by decide) ?_
  refine go_istore_n (lv' := [_, _, _, _, _, _, _]) dX11_findLeast_1 rfl rfl rfl ?_
  exact go_wk (by exact ⟨rfl, rfl, trivial⟩) (outer 0 (Nat.zero_le _) σ ⟨fun _ _ => rfl, fun v x hv => absurd hv (by omega)⟩)
