def SF (τ σ : wg_S) : Prop := ∀ p, p < 73 ∨ 79 < p → τ p = σ p
theorem SF.lo {τ σ : wg_S} (h : SF τ σ) : lo70 τ σ := fun p hp => h p (Or.inl (by omega))
theorem SF.us {τ σ : wg_S} (h : SF τ σ) {p k : Nat} {v : Int32} (h1 : 73 ≤ p) (h2 : p ≤ 79) : SF (us τ p k v) σ := fun q hq => by rw [us_p (by omega)]; exact h q hq
def sgb (σ : wg_S) (j r c s : Nat) : Int32 := bi (decide (mvd σ j r c s = 0))
def yng (σ : wg_S) (j r s : Nat) : Nat → Bool
  | 0 => false
  | c + 1 => yng σ j r s c || (decide (mvd σ j r c s = 0) && decide (σ 48 c = nI 3))
def ccs (σ : wg_S) (n j r x y : Nat) : Int32 := sm (fun c => if sgb σ j r c x = sgb σ j r c y then nI 0 else mup (msz σ c) (nI 5)) n
def AO (σ : wg_S) (n j r s : Nat) (τ : wg_S) : Prop := SF τ σ ∧ (∀ s' c, s' < s → c < n → τ 76 (16 * s' + c) = sgb σ j r c s') ∧ ∀ s', s' < s → τ 77 s' = bi (yng σ j r s' n)
def AN (σ : wg_S) (n j r s c : Nat) (τ : wg_S) : Prop := AO σ n j r s τ ∧ (∀ c', c' < c → τ 76 (16 * s + c') = sgb σ j r c' s) ∧ τ 77 s = bi (yng σ j r s c)
theorem AN_0 {σ τ : wg_S} {n j r s : Nat} (H : AO σ n j r s τ) : AN σ n j r s 0 (us τ 77 s (vp_nar .boolean (nI 0))) := by
  obtain ⟨h1, h2, h3⟩ := H
  refine ⟨⟨h1.us (by decide) (by decide), fun s' c hs hc => ?_, fun s' hs => ?_⟩, fun c' hc => absurd hc (by omega), ?_⟩
  · rw [us_p (by decide)]; exact h2 s' c hs hc
  · rw [us_k (by omega)]; exact h3 s' hs
  · rw [us_s]; exact (by decide : vp_nar .boolean (nI 0) = bi false)
theorem AN_s {σ τ : wg_S} {n j r s c : Nat} (H : AN σ n j r s c τ) (hn : n ≤ 16) (hc : c < n) {v w : Int32} (hv : v = sgb σ j r c s) (hw : w = bi (yng σ j r s (c + 1))) : AN σ n j r s (c + 1) (us (us τ 76 (16 * s + c) v) 77 s w) := by
  obtain ⟨⟨h1, h2, h3⟩, h4, h5⟩ := H
  refine ⟨⟨(h1.us (by decide) (by decide)).us (by decide) (by decide), fun s' c' hs hc' => ?_, fun s' hs => ?_⟩, fun c' hc' => ?_, ?_⟩
  · rw [us_p (by decide), us_k (by omega)]; exact h2 s' c' hs hc'
  · rw [us_k (by omega), us_p (by decide)]; exact h3 s' hs
  · rw [us_p (by decide)]
    by_cases e : c' = c
    · subst e; rw [us_s, hv]
    · rw [us_k (by omega)]; exact h4 c' (by omega)
  · rw [us_s, hw]
theorem AN_e {σ τ : wg_S} {n j r s : Nat} (H : AN σ n j r s n τ) : AO σ n j r (s + 1) τ := by
  obtain ⟨⟨h1, h2, h3⟩, h4, h5⟩ := H
  refine ⟨h1, fun s' c hs hc => ?_, fun s' hs => ?_⟩
  · by_cases e : s' = s
    · subst e; exact h4 c hc
    · exact h2 s' c (by omega) hc
  · by_cases e : s' = s
    · subst e; exact h5
    · exact h3 s' (by omega)
def BO (σ : wg_S) (n m j r x : Nat) (τ : wg_S) : Prop := AO σ n j r m τ ∧ ∀ x' y, x' < x → y < m → τ 78 (9 * x' + y) = ccs σ n j r x' y
def BN (σ : wg_S) (n m j r x y : Nat) (τ : wg_S) : Prop := BO σ n m j r x τ ∧ ∀ y', y' < y → τ 78 (9 * x + y') = ccs σ n j r x y'
theorem BN_s {σ τ : wg_S} {n m j r x y : Nat} (H : BN σ n m j r x y τ) (hm : m ≤ 9) (hy : y < m) {v : Int32} (hv : v = ccs σ n j r x y) : BN σ n m j r x (y + 1) (us τ 78 (9 * x + y) v) := by
  obtain ⟨⟨⟨h1, h2, h3⟩, h4⟩, h5⟩ := H
  refine ⟨⟨⟨h1.us (by decide) (by decide), fun s' c hs hc => ?_, fun s' hs => ?_⟩, fun x' y' hx hy' => ?_⟩, fun y' hy' => ?_⟩
  · rw [us_p (by decide)]; exact h2 s' c hs hc
  · rw [us_p (by decide)]; exact h3 s' hs
  · rw [us_k (by omega)]; exact h4 x' y' hx hy'
  · by_cases e : y' = y
    · subst e; rw [us_s, hv]
    · rw [us_k (by omega)]; exact h5 y' (by omega)
theorem BN_e {σ τ : wg_S} {n m j r x : Nat} (H : BN σ n m j r x m τ) : BO σ n m j r (x + 1) τ := by
  refine ⟨H.1.1, fun x' y hx hy => ?_⟩
  by_cases e : x' = x
  · subst e; exact H.2 y hy
  · exact H.1.2 x' y (by omega) hy
/-- behind ask: who is young, and what each change costs -/
def AK (σ : wg_S) (n m j r : Nat) (τ : wg_S) : Prop := SF τ σ ∧ (∀ s, s < m → τ 77 s = bi (yng σ j r s n)) ∧ ∀ x y, x < m → y < m → τ 78 (9 * x + y) = ccs σ n j r x y
theorem sf_n {σ τ : wg_S} (h : SF τ σ) {k : Nat} {v : Int32} (hv : σ 47 k = v) : τ 47 k = v := by rw [h 47 (by decide)]; exact hv
theorem cX11_ask_ok (κ : gm_K) (b : Bool) (σ : wg_S) (n m j r : Nat) (C : MI σ n m j r) : FeV κ mX11_ask [.ref 47] (gg b) σ (AK σ n m j r) := by
  refine go_start (by decide) (Nat.le_of_ble_eq_true rfl) ?_
  obtain ⟨⟨hN, hn⟩, ⟨hM, hm⟩, ⟨hJ, hj⟩, ⟨hR, hr⟩, hT, hX⟩ := id C
  have C' : ∀ τ, SF τ σ → MI τ n m j r := fun τ h => MI_lo h.lo C
  have hmay : ∀ τ, SF τ σ → ∀ c s, c < n → s < m → Fn κ mX11_mayOf [.ref 47, .int (nI c), .int (nI s)] (gg b) τ (some (.int (mvd σ j r c s))) (gg b) τ := fun τ h c s hc hs => by
    have := cX11_mayOf_ok κ b τ n m j r (C' τ h) c s hc hs
    rwa [mvd_lo h.lo] at this
  have hsz : ∀ τ, SF τ σ → ∀ c, c < n → Fn κ mX11_sizeOf [.ref 47, .int (nI c)] (gg b) τ (some (.int (msz σ c))) (gg b) τ := fun τ h c hc => by
    have := cX11_sizeOf_ok κ b τ c (by omega)
    rwa [msz_lo h.lo] at this
  have sum : ∀ τ, AO σ n j r m τ → ∀ x y, x < m → y < m → Go κ mX11_ask 192 [some (.ref 47), some (.int (nI x)), some (.int (nI y)), some (.int (ccs σ n j r x y)), none] [] (wd (gg b) τ) (0, 0) (fun z h' => ∃ τ, z = none ∧ h' = wd (gg b) τ ∧ AK σ n m j r τ) → ∀ i, i ≤ n → Go κ mX11_ask 133 [some (.ref 47), some (.int (nI x)), some (.int (nI y)), some (.int (ccs σ i j r x y)), some (.int (nI i))] [] (wd (gg b) τ) (0, 0) (fun z h' => ∃ τ, z = none ∧ h' = wd (gg b) τ ∧ AK σ n m j r τ) := by
    intro τ H x y hx hy fin
    refine lo_up n (fun i hi ih => ?_)
    have hN' := sf_n H.1 hN
    refine go_iload dX11_ask_133 rfl ?_
    refine go_aload_n dX11_ask_135 rfl ?_
    refine gs_gi dX11_ask_136 flX11_134 (gg_47 b) rfl (hN') ?_
    refine go_icmp_geN 192 dX11_ask_139 (by decide) (by omega) (by omega) (fun c139 => ?_) (fun c139 => ?_)
    · have e : i = n := by omega
      subst e
      exact go_wk (by exact ⟨rfl, rfl, rfl, rfl, trivial⟩) fin
    · refine go_iload_n dX11_ask_142 rfl ?_
      refine go_aload_n dX11_ask_143 rfl ?_
      refine gs_gr dX11_ask_144 flX11_104 (gg_47 b) rfl ?_
      refine go_bipush (v := nI 16) dX11_ask_147 (by decide) ?_
      refine go_iload_n dX11_ask_149 rfl ?_
      refine go_imulN dX11_ask_150 ?_
      refine go_iload dX11_ask_151 rfl ?_
      refine go_iaddN dX11_ask_153 ?_
      refine gs_zald (_) dX11_ask_154 (gg_76 b) (rfl) (by omega) rfl (H.2.1 x i hx c139) ?_
      refine go_aload_n dX11_ask_155 rfl ?_
      refine gs_gr dX11_ask_156 flX11_104 (gg_47 b) rfl ?_
      refine go_bipush (v := nI 16) dX11_ask_159 (by decide) ?_
      refine go_iload_n dX11_ask_161 rfl ?_
      refine go_imulN dX11_ask_162 ?_
      refine go_iload dX11_ask_163 rfl ?_
      refine go_iaddN dX11_ask_165 ?_
      refine gs_zald (_) dX11_ask_166 (gg_76 b) (rfl) (by omega) rfl (H.2.1 y i hy c139) ?_
      refine go_icmp_eq 183 dX11_ask_167 (by decide) (fun c167 => ?_) (fun c167 => ?_)
      · refine go_iconst (v := nI 0) dX11_ask_183 (by decide) ?_
        refine go_iadd dX11_ask_184 ?_
        refine go_istore_n (lv' := [_, _, _, _, _]) dX11_ask_185 rfl rfl rfl ?_
        refine go_iincN (lv' := [_, _, _, _, _]) 1 dX11_ask_186 (by decide) rfl rfl rfl rfl ?_
        refine go_goto 133 dX11_ask_189 (by decide) ?_
        exact go_wk (by simp [lvle, ccs, sm, mup, c139, c167]) (ih c139)
      · refine go_aload_n dX11_ask_170 rfl ?_
        refine go_iload dX11_ask_171 rfl ?_
        refine gs_callVi dX11_ask_173 cvX11_ask_197 (hsz τ H.1 i c139) rfl (gg_47 b) rfl rfl rfl ⟨rfl, rfl⟩ rfl ?_
        refine go_iconst (v := nI 5) dX11_ask_176 (by decide) ?_
        refine gs_callSi dX11_ask_177 csX11_ask_191 (cX11_up_ok κ b τ _ _ (by decide)) rfl rfl rfl ⟨rfl, rfl⟩ rfl ?_
        refine go_goto 184 dX11_ask_180 (by decide) ?_
        refine go_iadd dX11_ask_184 ?_
        refine go_istore_n (lv' := [_, _, _, _, _]) dX11_ask_185 rfl rfl rfl ?_
        refine go_iincN (lv' := [_, _, _, _, _]) 1 dX11_ask_186 (by decide) rfl rfl rfl rfl ?_
        refine go_goto 133 dX11_ask_189 (by decide) ?_
        exact go_wk (by simp [lvle, ccs, sm, mup, c139, c167]) (ih c139)
  have mid : ∀ x, x < m → (∀ τ, BO σ n m j r (x + 1) τ → Go κ mX11_ask 210 [some (.ref 47), some (.int (nI x)), none, none, none] [] (wd (gg b) τ) (0, 0) (fun z h' => ∃ τ, z = none ∧ h' = wd (gg b) τ ∧ AK σ n m j r τ)) → ∀ y, y ≤ m → ∀ τ, BN σ n m j r x y τ → Go κ mX11_ask 120 [some (.ref 47), some (.int (nI x)), some (.int (nI y)), none, none] [] (wd (gg b) τ) (0, 0) (fun z h' => ∃ τ, z = none ∧ h' = wd (gg b) τ ∧ AK σ n m j r τ) := by
    intro x hx fin
    refine lo_up m (fun y hi ih τ H => ?_)
    have hM' := sf_n H.1.1.1 hM
    refine go_iload_n dX11_ask_120 rfl ?_
    refine go_aload_n dX11_ask_121 rfl ?_
    refine gs_gi dX11_ask_122 flX11_137 (gg_47 b) rfl (hM') ?_
    refine go_icmp_geN 210 dX11_ask_125 (by decide) (by omega) (by omega) (fun c125 => ?_) (fun c125 => ?_)
    · have e : y = m := by omega
      subst e
      exact go_wk (by simp [lvle]) (fin τ (BN_e H))
    · refine go_iconst (v := nI 0) dX11_ask_128 (by decide) ?_
      refine go_istore_n (lv' := [_, _, _, _, _]) dX11_ask_129 rfl rfl rfl ?_
      refine go_iconst (v := nI 0) dX11_ask_130 (by decide) ?_
      refine go_istore (lv' := [_, _, _, _, _]) dX11_ask_131 rfl rfl rfl ?_
      refine go_wk (by exact ⟨rfl, rfl, rfl, rfl, rfl, trivial⟩) (sum τ H.1.1 x y hx c125 ?_ 0 (Nat.zero_le _))
      refine go_aload_n dX11_ask_192 rfl ?_
      refine gs_gr dX11_ask_193 flX11_110 (gg_47 b) rfl ?_
      refine go_bipush (v := nI 9) dX11_ask_196 (by decide) ?_
      refine go_iload_n dX11_ask_198 rfl ?_
      refine go_imulN dX11_ask_199 ?_
      refine go_iload_n dX11_ask_200 rfl ?_
      refine go_iaddN dX11_ask_201 ?_
      refine go_iload_n dX11_ask_202 rfl ?_
      refine gs_iast (_) dX11_ask_203 (gg_78 b) (rfl) (by omega) rfl ?_
      refine go_iincN (lv' := [_, _, _, _, _]) 1 dX11_ask_204 (by decide) rfl rfl rfl rfl ?_
      refine go_goto 120 dX11_ask_207 (by decide) ?_
      exact go_wk (by exact ⟨rfl, rfl, rfl, trivial⟩) (ih c125 _ (BN_s H hm c125 rfl))
  have outer : ∀ x, x ≤ m → ∀ τ, BO σ n m j r x τ → Go κ mX11_ask 110 [some (.ref 47), some (.int (nI x)), none, none, none] [] (wd (gg b) τ) (0, 0) (fun z h' => ∃ τ, z = none ∧ h' = wd (gg b) τ ∧ AK σ n m j r τ) := by
    refine lo_up m (fun x hi ih τ H => ?_)
    have hM' := sf_n H.1.1 hM
    refine go_iload_n dX11_ask_110 rfl ?_
    refine go_aload_n dX11_ask_111 rfl ?_
    refine gs_gi dX11_ask_112 flX11_137 (gg_47 b) rfl (hM') ?_
    refine go_icmp_geN 216 dX11_ask_115 (by decide) (by omega) (by omega) (fun c115 => ?_) (fun c115 => ?_)
    · refine go_vret dX11_ask_216 rfl rfl ?_
      have e : x = m := by omega
      subst e
      exact ⟨τ, rfl, rfl, H.1.1, H.1.2.2, H.2⟩
    · refine go_iconst (v := nI 0) dX11_ask_118 (by decide) ?_
      refine go_istore_n (lv' := [_, _, _, _, _]) dX11_ask_119 rfl rfl rfl ?_
      refine go_wk (by exact ⟨rfl, rfl, rfl, trivial⟩) (mid x c115 (fun τ' H' => ?_) 0 (Nat.zero_le _) τ ⟨H, fun y' hy => absurd hy (by omega)⟩)
      refine go_iincN (lv' := [_, _, _, _, _]) 1 dX11_ask_210 (by decide) rfl rfl rfl rfl ?_
      refine go_goto 110 dX11_ask_213 (by decide) ?_
      exact go_wk (by exact ⟨rfl, rfl, trivial⟩) (ih c115 τ' H')
  have inner : ∀ s, s < m → (∀ τ, AO σ n j r (s + 1) τ → Go κ mX11_ask 102 [some (.ref 47), some (.int (nI s)), none, none, none] [] (wd (gg b) τ) (0, 0) (fun z h' => ∃ τ, z = none ∧ h' = wd (gg b) τ ∧ AK σ n m j r τ)) → ∀ c, c ≤ n → ∀ τ, AN σ n j r s c τ → Go κ mX11_ask 19 [some (.ref 47), some (.int (nI s)), some (.int (nI c)), none, none] [] (wd (gg b) τ) (0, 0) (fun z h' => ∃ τ, z = none ∧ h' = wd (gg b) τ ∧ AK σ n m j r τ) := by
    intro s hs fin
    refine lo_up n (fun c hi ih τ H => ?_)
    have hN' := sf_n H.1.1 hN
    have h76 : ∀ v, us τ 76 (16 * s + c) v 77 s = bi (yng σ j r s c) := fun v => (congrFun (us_p (by decide)) s).trans H.2.2
    have h48 : ∀ v, us τ 76 (16 * s + c) v 48 c = σ 48 c := fun v => by rw [us_p (by decide), H.1.1 48 (by decide)]
    refine go_iload_n dX11_ask_19 rfl ?_
    refine go_aload_n dX11_ask_20 rfl ?_
    refine gs_gi dX11_ask_21 flX11_134 (gg_47 b) rfl (hN') ?_
    refine go_icmp_geN 102 dX11_ask_24 (by decide) (by omega) (by omega) (fun c24 => ?_) (fun c24 => ?_)
    · have e : c = n := by omega
      subst e
      exact go_wk (by simp [lvle]) (fin τ (AN_e H))
    · refine go_aload_n dX11_ask_27 rfl ?_
      refine gs_gr dX11_ask_28 flX11_104 (gg_47 b) rfl ?_
      refine go_bipush (v := nI 16) dX11_ask_31 (by decide) ?_
      refine go_iload_n dX11_ask_33 rfl ?_
      refine go_imulN dX11_ask_34 ?_
      refine go_iload_n dX11_ask_35 rfl ?_
      refine go_iaddN dX11_ask_36 ?_
      refine go_aload_n dX11_ask_37 rfl ?_
      refine go_iload_n dX11_ask_38 rfl ?_
      refine go_iload_n dX11_ask_39 rfl ?_
      refine gs_callVi dX11_ask_40 cvX11_ask_258 (hmay τ H.1.1 c s c24 hs) rfl (gg_47 b) rfl rfl rfl ⟨rfl, rfl⟩ rfl ?_
      refine go_if_ne 50 dX11_ask_43 (by decide) (fun c43 => ?_) (fun c43 => ?_)
      · have hv : vp_nar .boolean (nI 0) = bi (decide (mvd σ j r c s = 0)) := by rw [decide_eq_false c43]; decide
        refine go_iconst (v := nI 0) dX11_ask_50 (by decide) ?_
        refine gs_zast (_) dX11_ask_51 (gg_76 b) (rfl) (by omega) rfl ?_
        refine go_aload_n dX11_ask_52 rfl ?_
        refine gs_gr dX11_ask_53 flX11_107 (gg_47 b) rfl ?_
        refine go_iload_n dX11_ask_56 rfl ?_
        refine go_aload_n dX11_ask_57 rfl ?_
        refine gs_gr dX11_ask_58 flX11_107 (gg_47 b) rfl ?_
        refine go_iload_n dX11_ask_61 rfl ?_
        refine gs_zald (_) dX11_ask_62 (gg_77 b) (rfl) (by omega) rfl (h76 _) ?_
        refine go_if_neB 90 dX11_ask_63 (by decide) (fun c63 => ?_) (fun c63 => ?_)
        · refine go_iconst (v := nI 1) dX11_ask_90 (by decide) ?_
          refine go_goto 95 dX11_ask_91 (by decide) ?_
          refine gs_zast (_) dX11_ask_95 (gg_77 b) (rfl) (by omega) rfl ?_
          refine go_iincN (lv' := [_, _, _, _, _]) 1 dX11_ask_96 (by decide) rfl rfl rfl rfl ?_
          refine go_goto 19 dX11_ask_99 (by decide) ?_
          first
            | exact absurd c43 (of_decide_eq_false c77)
            | exact absurd (of_decide_eq_true c77) c43
            | exact go_wk (by exact ⟨rfl, rfl, rfl, trivial⟩) (ih c24 _ (AN_s H hn c24 hv (by simp +decide only [yng, c24, c43, c63, decide_true, decide_false, Bool.or_true, Bool.true_or, Bool.or_false, Bool.false_or, Bool.and_true, Bool.true_and, Bool.and_false, Bool.false_and])))
        · refine go_aload_n dX11_ask_66 rfl ?_
          refine gs_gr dX11_ask_67 flX11_104 (gg_47 b) rfl ?_
          refine go_bipush (v := nI 16) dX11_ask_70 (by decide) ?_
          refine go_iload_n dX11_ask_72 rfl ?_
          refine go_imulN dX11_ask_73 ?_
          refine go_iload_n dX11_ask_74 rfl ?_
          refine go_iaddN dX11_ask_75 ?_
          refine gs_zald (_) dX11_ask_76 (gg_76 b) (rfl) (by omega) rfl (us_s.trans hv) ?_
          refine go_if_eqB 94 dX11_ask_77 (by decide) (fun c77 => ?_) (fun c77 => ?_)
          · refine go_iconst (v := nI 0) dX11_ask_94 (by decide) ?_
            refine gs_zast (_) dX11_ask_95 (gg_77 b) (rfl) (by omega) rfl ?_
            refine go_iincN (lv' := [_, _, _, _, _]) 1 dX11_ask_96 (by decide) rfl rfl rfl rfl ?_
            refine go_goto 19 dX11_ask_99 (by decide) ?_
            first
              | exact absurd c43 (of_decide_eq_false c77)
              | exact absurd (of_decide_eq_true c77) c43
              | exact go_wk (by exact ⟨rfl, rfl, rfl, trivial⟩) (ih c24 _ (AN_s H hn c24 hv (by simp +decide only [yng, c24, c43, c63, c77, decide_true, decide_false, Bool.or_true, Bool.true_or, Bool.or_false, Bool.false_or, Bool.and_true, Bool.true_and, Bool.and_false, Bool.false_and])))
          · refine go_aload_n dX11_ask_80 rfl ?_
            refine gs_gr dX11_ask_81 flX11_7 (gg_47 b) rfl ?_
            refine go_iload_n dX11_ask_84 rfl ?_
            refine gs_iald (_) dX11_ask_85 (gg_48 b) (rfl) (by omega) rfl (h48 _) ?_
            refine go_iconst (v := nI 3) dX11_ask_86 (by decide) ?_
            refine go_icmp_ne 94 dX11_ask_87 (by decide) (fun c87 => ?_) (fun c87 => ?_)
            · refine go_iconst (v := nI 0) dX11_ask_94 (by decide) ?_
              refine gs_zast (_) dX11_ask_95 (gg_77 b) (rfl) (by omega) rfl ?_
              refine go_iincN (lv' := [_, _, _, _, _]) 1 dX11_ask_96 (by decide) rfl rfl rfl rfl ?_
              refine go_goto 19 dX11_ask_99 (by decide) ?_
              first
                | exact absurd c43 (of_decide_eq_false c77)
                | exact absurd (of_decide_eq_true c77) c43
                | exact go_wk (by exact ⟨rfl, rfl, rfl, trivial⟩) (ih c24 _ (AN_s H hn c24 hv (by simp +decide only [yng, c24, c43, c63, c77, c87, decide_true, decide_false, Bool.or_true, Bool.true_or, Bool.or_false, Bool.false_or, Bool.and_true, Bool.true_and, Bool.and_false, Bool.false_and])))
            · refine go_iconst (v := nI 1) dX11_ask_90 (by decide) ?_
              refine go_goto 95 dX11_ask_91 (by decide) ?_
              refine gs_zast (_) dX11_ask_95 (gg_77 b) (rfl) (by omega) rfl ?_
              refine go_iincN (lv' := [_, _, _, _, _]) 1 dX11_ask_96 (by decide) rfl rfl rfl rfl ?_
              refine go_goto 19 dX11_ask_99 (by decide) ?_
              first
                | exact absurd c43 (of_decide_eq_false c77)
                | exact absurd (of_decide_eq_true c77) c43
                | exact go_wk (by exact ⟨rfl, rfl, rfl, trivial⟩) (ih c24 _ (AN_s H hn c24 hv (by simp +decide only [yng, c24, c43, c63, c77, c87, decide_true, decide_false, Bool.or_true, Bool.true_or, Bool.or_false, Bool.false_or, Bool.and_true, Bool.true_and, Bool.and_false, Bool.false_and])))
      · have hv : vp_nar .boolean (nI 1) = bi (decide (mvd σ j r c s = 0)) := by rw [decide_eq_true c43]; decide
        refine go_iconst (v := nI 1) dX11_ask_46 (by decide) ?_
        refine go_goto 51 dX11_ask_47 (by decide) ?_
        refine gs_zast (_) dX11_ask_51 (gg_76 b) (rfl) (by omega) rfl ?_
        refine go_aload_n dX11_ask_52 rfl ?_
        refine gs_gr dX11_ask_53 flX11_107 (gg_47 b) rfl ?_
        refine go_iload_n dX11_ask_56 rfl ?_
        refine go_aload_n dX11_ask_57 rfl ?_
        refine gs_gr dX11_ask_58 flX11_107 (gg_47 b) rfl ?_
        refine go_iload_n dX11_ask_61 rfl ?_
        refine gs_zald (_) dX11_ask_62 (gg_77 b) (rfl) (by omega) rfl (h76 _) ?_
        refine go_if_neB 90 dX11_ask_63 (by decide) (fun c63 => ?_) (fun c63 => ?_)
        · refine go_iconst (v := nI 1) dX11_ask_90 (by decide) ?_
          refine go_goto 95 dX11_ask_91 (by decide) ?_
          refine gs_zast (_) dX11_ask_95 (gg_77 b) (rfl) (by omega) rfl ?_
          refine go_iincN (lv' := [_, _, _, _, _]) 1 dX11_ask_96 (by decide) rfl rfl rfl rfl ?_
          refine go_goto 19 dX11_ask_99 (by decide) ?_
          first
            | exact absurd c43 (of_decide_eq_false c77)
            | exact absurd (of_decide_eq_true c77) c43
            | exact go_wk (by exact ⟨rfl, rfl, rfl, trivial⟩) (ih c24 _ (AN_s H hn c24 hv (by simp +decide only [yng, c24, c43, c63, decide_true, decide_false, Bool.or_true, Bool.true_or, Bool.or_false, Bool.false_or, Bool.and_true, Bool.true_and, Bool.and_false, Bool.false_and])))
        · refine go_aload_n dX11_ask_66 rfl ?_
          refine gs_gr dX11_ask_67 flX11_104 (gg_47 b) rfl ?_
          refine go_bipush (v := nI 16) dX11_ask_70 (by decide) ?_
          refine go_iload_n dX11_ask_72 rfl ?_
          refine go_imulN dX11_ask_73 ?_
          refine go_iload_n dX11_ask_74 rfl ?_
          refine go_iaddN dX11_ask_75 ?_
          refine gs_zald (_) dX11_ask_76 (gg_76 b) (rfl) (by omega) rfl (us_s.trans hv) ?_
          refine go_if_eqB 94 dX11_ask_77 (by decide) (fun c77 => ?_) (fun c77 => ?_)
          · refine go_iconst (v := nI 0) dX11_ask_94 (by decide) ?_
            refine gs_zast (_) dX11_ask_95 (gg_77 b) (rfl) (by omega) rfl ?_
            refine go_iincN (lv' := [_, _, _, _, _]) 1 dX11_ask_96 (by decide) rfl rfl rfl rfl ?_
            refine go_goto 19 dX11_ask_99 (by decide) ?_
            first
              | exact absurd c43 (of_decide_eq_false c77)
              | exact absurd (of_decide_eq_true c77) c43
              | exact go_wk (by exact ⟨rfl, rfl, rfl, trivial⟩) (ih c24 _ (AN_s H hn c24 hv (by simp +decide only [yng, c24, c43, c63, c77, decide_true, decide_false, Bool.or_true, Bool.true_or, Bool.or_false, Bool.false_or, Bool.and_true, Bool.true_and, Bool.and_false, Bool.false_and])))
          · refine go_aload_n dX11_ask_80 rfl ?_
            refine gs_gr dX11_ask_81 flX11_7 (gg_47 b) rfl ?_
            refine go_iload_n dX11_ask_84 rfl ?_
            refine gs_iald (_) dX11_ask_85 (gg_48 b) (rfl) (by omega) rfl (h48 _) ?_
            refine go_iconst (v := nI 3) dX11_ask_86 (by decide) ?_
            refine go_icmp_ne 94 dX11_ask_87 (by decide) (fun c87 => ?_) (fun c87 => ?_)
            · refine go_iconst (v := nI 0) dX11_ask_94 (by decide) ?_
              refine gs_zast (_) dX11_ask_95 (gg_77 b) (rfl) (by omega) rfl ?_
              refine go_iincN (lv' := [_, _, _, _, _]) 1 dX11_ask_96 (by decide) rfl rfl rfl rfl ?_
              refine go_goto 19 dX11_ask_99 (by decide) ?_
              first
                | exact absurd c43 (of_decide_eq_false c77)
                | exact absurd (of_decide_eq_true c77) c43
                | exact go_wk (by exact ⟨rfl, rfl, rfl, trivial⟩) (ih c24 _ (AN_s H hn c24 hv (by simp +decide only [yng, c24, c43, c63, c77, c87, decide_true, decide_false, Bool.or_true, Bool.true_or, Bool.or_false, Bool.false_or, Bool.and_true, Bool.true_and, Bool.and_false, Bool.false_and])))
            · refine go_iconst (v := nI 1) dX11_ask_90 (by decide) ?_
              refine go_goto 95 dX11_ask_91 (by decide) ?_
              refine gs_zast (_) dX11_ask_95 (gg_77 b) (rfl) (by omega) rfl ?_
              refine go_iincN (lv' := [_, _, _, _, _]) 1 dX11_ask_96 (by decide) rfl rfl rfl rfl ?_
              refine go_goto 19 dX11_ask_99 (by decide) ?_
              first
                | exact absurd c43 (of_decide_eq_false c77)
                | exact absurd (of_decide_eq_true c77) c43
                | exact go_wk (by exact ⟨rfl, rfl, rfl, trivial⟩) (ih c24 _ (AN_s H hn c24 hv (by simp +decide only [yng, c24, c43, c63, c77, c87, decide_true, decide_false, Bool.or_true, Bool.true_or, Bool.or_false, Bool.false_or, Bool.and_true, Bool.true_and, Bool.and_false, Bool.false_and])))
  have top : ∀ s, s ≤ m → ∀ τ, AO σ n j r s τ → Go κ mX11_ask 2 [some (.ref 47), some (.int (nI s)), none, none, none] [] (wd (gg b) τ) (0, 0) (fun z h' => ∃ τ, z = none ∧ h' = wd (gg b) τ ∧ AK σ n m j r τ) := by
    refine lo_up m (fun s hi ih τ H => ?_)
    have hM' := sf_n H.1 hM
    refine go_iload_n dX11_ask_2 rfl ?_
    refine go_aload_n dX11_ask_3 rfl ?_
    refine gs_gi dX11_ask_4 flX11_137 (gg_47 b) rfl (hM') ?_
    refine go_icmp_geN 108 dX11_ask_7 (by decide) (by omega) (by omega) (fun c7 => ?_) (fun c7 => ?_)
    · refine go_iconst (v := nI 0) dX11_ask_108 (by decide) ?_
      refine go_istore_n (lv' := [_, _, _, _, _]) dX11_ask_109 rfl rfl rfl ?_
      have e : s = m := by omega
      subst e
      exact go_wk (by exact ⟨rfl, rfl, trivial⟩) (outer 0 (Nat.zero_le _) τ ⟨H, fun x' y hx => absurd hx (by omega)⟩)
    · refine go_aload_n dX11_ask_10 rfl ?_
      refine gs_gr dX11_ask_11 flX11_107 (gg_47 b) rfl ?_
      refine go_iload_n dX11_ask_14 rfl ?_
      refine go_iconst (v := nI 0) dX11_ask_15 (by decide) ?_
      refine gs_zast (_) dX11_ask_16 (gg_77 b) (rfl) (by omega) rfl ?_
      refine go_iconst (v := nI 0) dX11_ask_17 (by decide) ?_
      refine go_istore_n (lv' := [_, _, _, _, _]) dX11_ask_18 rfl rfl rfl ?_
      refine go_wk (by exact ⟨rfl, rfl, rfl, trivial⟩) (inner s c7 (fun τ' H' => ?_) 0 (Nat.zero_le _) _ (AN_0 H))
      refine go_iincN (lv' := [_, _, _, _, _]) 1 dX11_ask_102 (by decide) rfl rfl rfl rfl ?_
      refine go_goto 2 dX11_ask_105 (by decide) ?_
      exact go_wk (by exact ⟨rfl, rfl, trivial⟩) (ih c7 τ' H')
  refine go_iconst (v := nI 0) dX11_ask_0 (by decide) ?_
  refine go_istore_n (lv' := [_, _, _, _, _]) dX11_ask_1 rfl rfl rfl ?_
  exact go_wk (by exact ⟨rfl, rfl, trivial⟩) (top 0 (Nat.zero_le _) σ ⟨fun _ _ => rfl, fun s' c hs => absurd hs (by omega), fun s' hs => absurd hs (by omega)⟩)
def M_change (σ : wg_S) (n m j r : Nat) (p q : Int32) : Int32 := if hs (σ 47 11) p = false then -1 else if hs (σ 47 11) q = false then -1 else if p = q then -2 else ccs σ n j r p.toNatClampNeg q.toNatClampNeg
theorem cX11_change_ok (κ : gm_K) (b : Bool) (σ : wg_S) (n m j r : Nat) (C : MI σ n m j r) (p q : Int32) : FeI κ mX11_change [.ref 47, .int p, .int q] (gg b) σ (fun x τ => x = M_change σ n m j r p q ∧ SF τ σ) := by
  refine go_start (by decide) (Nat.le_of_ble_eq_true rfl) ?_
  obtain ⟨⟨hN, hn⟩, ⟨hM, hm⟩, ⟨hJ, hj⟩, ⟨hR, hr⟩, hT, hX⟩ := id C
  refine go_aload_n dX11_change_0 rfl ?_
  refine go_iload_n dX11_change_1 rfl ?_
  refine gs_callVi dX11_change_2 cvX11_change_255 (cX11_isSong_ok κ b σ _) rfl (gg_47 b) rfl rfl rfl ⟨rfl, rfl⟩ rfl ?_
  refine go_if_eqB 16 dX11_change_5 (by decide) (fun c5 => ?_) (fun c5 => ?_)
  · refine go_iconst (v := -1) dX11_change_16 (by decide) ?_
    refine go_iret dX11_change_17 rfl rfl ?_
    exact ⟨_, _, rfl, rfl, by simp +decide [M_change, c5], fun _ _ => rfl⟩
  · refine go_aload_n dX11_change_8 rfl ?_
    refine go_iload_n dX11_change_9 rfl ?_
    refine gs_callVi dX11_change_10 cvX11_change_255 (cX11_isSong_ok κ b σ _) rfl (gg_47 b) rfl rfl rfl ⟨rfl, rfl⟩ rfl ?_
    refine go_if_neB 18 dX11_change_13 (by decide) (fun c13 => ?_) (fun c13 => ?_)
    · refine go_iload_n dX11_change_18 rfl ?_
      refine go_iload_n dX11_change_19 rfl ?_
      refine go_icmp_ne 26 dX11_change_20 (by decide) (fun c20 => ?_) (fun c20 => ?_)
      · obtain ⟨x, hx, rfl⟩ := hs_ix (by omega) (hM ▸ c5)
        obtain ⟨y, hy, rfl⟩ := hs_ix (by omega) (hM ▸ c13)
        have ex := nI_clamp (show x < 2 ^ 31 by omega)
        have ey := nI_clamp (show y < 2 ^ 31 by omega)
        refine go_aload_n dX11_change_26 rfl ?_
        refine gs_callVe dX11_change_27 cvX11_change_287 (cX11_ask_ok κ b σ n m j r C) rfl (gg_47 b) rfl rfl rfl ⟨rfl, rfl⟩ rfl (fun τ H => ?_)
        refine go_aload_n dX11_change_30 rfl ?_
        refine gs_gr dX11_change_31 flX11_110 (gg_47 b) rfl ?_
        refine go_bipush (v := nI 9) dX11_change_34 (by decide) ?_
        refine go_iload_n dX11_change_36 rfl ?_
        refine go_imulN dX11_change_37 ?_
        refine go_iload_n dX11_change_38 rfl ?_
        refine go_iaddN dX11_change_39 ?_
        refine gs_iald (_) dX11_change_40 (gg_78 b) (rfl) (by omega) rfl (H.2.2 x y hx hy) ?_
        refine go_iret dX11_change_41 rfl rfl ?_
        exact ⟨_, _, rfl, rfl, by simp [M_change, c5, c13, c20, ex, ey], H.1⟩
      · refine go_bipush (v := -2) dX11_change_23 (by decide) ?_
        refine go_iret dX11_change_25 rfl rfl ?_
        exact ⟨_, _, rfl, rfl, by simp +decide [M_change, c5, c13, c20], fun _ _ => rfl⟩
    · refine go_iconst (v := -1) dX11_change_16 (by decide) ?_
      refine go_iret dX11_change_17 rfl rfl ?_
      exact ⟨_, _, rfl, rfl, by simp +decide [M_change, c5, c13], fun _ _ => rfl⟩
theorem cX11_mayCome_ok (κ : gm_K) (b : Bool) (σ : wg_S) (x y : Nat) (hx : x < 9) (hy : y < 9) (p q : Bool) (hp : σ 77 x = bi p) (hq : σ 77 y = bi q) : Fn κ mX11_mayCome [.ref 47, .int (nI x), .int (nI y)] (gg b) σ (some (.int (bi (!(p && q))))) (gg b) σ := by
  refine go_start (by decide) (Nat.le_of_ble_eq_true rfl) ?_
  refine go_aload_n dX11_mayCome_0 rfl ?_
  refine gs_gr dX11_mayCome_1 flX11_107 (gg_47 b) rfl ?_
  refine go_iload_n dX11_mayCome_4 rfl ?_
  refine gs_zald (_) dX11_mayCome_5 (gg_77 b) (rfl) (by omega) rfl (hp) ?_
  refine go_if_eqB 18 dX11_mayCome_6 (by decide) (fun c6 => ?_) (fun c6 => ?_)
  · refine go_iconst (v := nI 1) dX11_mayCome_18 (by decide) ?_
    refine go_goto 23 dX11_mayCome_19 (by decide) ?_
    refine go_zret dX11_mayCome_23 rfl rfl (by decide) ?_
    exact ⟨by simp [bi, c6], rfl⟩
  · refine go_aload_n dX11_mayCome_9 rfl ?_
    refine gs_gr dX11_mayCome_10 flX11_107 (gg_47 b) rfl ?_
    refine go_iload_n dX11_mayCome_13 rfl ?_
    refine gs_zald (_) dX11_mayCome_14 (gg_77 b) (rfl) (by omega) rfl (hq) ?_
    refine go_if_neB 22 dX11_mayCome_15 (by decide) (fun c15 => ?_) (fun c15 => ?_)
    · refine go_iconst (v := nI 0) dX11_mayCome_22 (by decide) ?_
      refine go_zret dX11_mayCome_23 rfl rfl (by decide) ?_
      exact ⟨by simp [bi, c6, c15], rfl⟩
    · refine go_iconst (v := nI 1) dX11_mayCome_18 (by decide) ?_
      refine go_goto 23 dX11_mayCome_19 (by decide) ?_
      refine go_zret dX11_mayCome_23 rfl rfl (by decide) ?_
      exact ⟨by simp [bi, c6, c15], rfl⟩
