def ltr (i : Nat) : Nat := [109, 97, 114, 107, 104, 97, 114, 100, 116, 111, 119, 110, 115, 105, 122, 101, 100, 97, 121].getD i 0
def wrd (q : Nat) : List Nat := [[109, 97, 114, 107], [104, 97, 114, 100], [116, 111, 119, 110], [115, 105, 122, 101], [100, 97, 121]].getD q []
/-- the reference's constant rows -/
def KC (σ : wg_S) : Prop := (∀ i, i < 19 → σ 70 i = nI (ltr i)) ∧ (∀ k, k < 5 → σ 71 k = nI (4 * k)) ∧ ∀ k, k < 5 → σ 72 k = nI (wrd k).length
def mfd (x : Int32) : Nat → Nat
  | 0 => 0
  | k + 1 => if x = nI (ltr (4 * k)) then k else mfd x k
theorem mfd_lt (x : Int32) : ∀ k, k ≤ 5 → mfd x k < 5
  | 0, _ => by simp [mfd]
  | k + 1, h => by
    rw [mfd]
    have := mfd_lt x k (by omega)
    split <;> omega
def tsg (x : Int32) : Int32 := if x = nI 61 then nI 0 else if x = nI 60 then nI 1 else nI 2
def isg (x : Int32) : Bool := decide (x = nI 61) || decide (x = nI 60) || decide (x = nI 62)
/-- a test is read: whether it is there, where the reader stands, its field, sign and number -/
def mtest (f : Nat → Int32) (a : Nat) : Bool × Nat × Nat × Int32 × Int32 :=
  match pwl f (wrd (mfd (f a) 5)) a with
  | (false, p) => (false, p, 0, 0, 0)
  | (true, p) => if isg (f p) = true then (if wi (f (p + 1)) (nI 48) (nI 57) = true then (true, p + 1 + nd f (p + 1), mfd (f a) 5, tsg (f p), nv f (p + 1) (nd f (p + 1))) else (false, p + 1, 0, 0, 0)) else (false, p, 0, 0, 0)
/-- all but the reader's own fields and the test's own places -/
def RFr (τ σ : wg_S) (t : Nat) : Prop := (∀ p, p ≠ 47 → p ≠ 67 → p ≠ 68 → p ≠ 69 → τ p = σ p) ∧ (∀ k, k ≠ 28 → k ≠ 29 → τ 47 k = σ 47 k) ∧ ∀ p i, p ≠ 47 → i ≠ t → τ p i = σ p i
theorem RFr.f {τ σ : wg_S} {t : Nat} (h : RFr τ σ t) {k : Nat} {v : Int32} (hk : k = 28 ∨ k = 29) : RFr (us τ 47 k v) σ t := by
  refine ⟨fun p h1 h2 h3 h4 => by rw [us_p h1]; exact h.1 p h1 h2 h3 h4, fun k' h1 h2 => by rw [us_k (by omega)]; exact h.2.1 k' h1 h2, fun p i h1 h2 => by rw [us_p h1]; exact h.2.2 p i h1 h2⟩
theorem RFr.r {τ σ : wg_S} {t : Nat} (h : RFr τ σ t) {q : Nat} {v : Int32} (hq : q = 67 ∨ q = 68 ∨ q = 69) : RFr (us τ q t v) σ t := by
  refine ⟨fun p h1 h2 h3 h4 => by rw [us_p (by omega)]; exact h.1 p h1 h2 h3 h4, fun k' h1 h2 => by rw [us_p (by omega)]; exact h.2.1 k' h1 h2, fun p i h1 h2 => ?_⟩
  by_cases e : p = q
  · subst e; rw [us_k h2]; exact h.2.2 p i h1 h2
  · rw [us_p e]; exact h.2.2 p i h1 h2
def TQ (σ : wg_S) (l a t : Nat) (τ : wg_S) : Prop := RFr τ σ t ∧ match mtest (mr σ l) a with
  | (false, p, _) => τ 47 29 = nI p
  | (true, p, q, s, v) => τ 47 28 = nI p ∧ τ 47 29 = -1 ∧ τ 67 t = nI q ∧ τ 68 t = s ∧ τ 69 t = v
theorem nd_at {f : Nat → Int32} {a d : Nat} (hd : ∀ i, i < d → dg f a i = true) (h3 : d = 3 ∨ (d < 3 ∧ dg f a d = false)) : nd f a = d := by
  unfold nd
  have hn : ∀ k, k ≤ d → fnd (fun d => !dg f a d) k = none := by
    intro k
    induction k with
    | zero => intro _; rfl
    | succ k ih => intro hk; rw [fnd, ih (by omega)]; simp [hd k (by omega)]
  rcases h3 with rfl | ⟨h1, h2⟩
  · rw [hn 3 (Nat.le_refl _)]; rfl
  · rw [fnd_hit (hn d (Nat.le_refl _)) (by simp [h2]) 3 h1]; rfl
theorem okb_1 : ∀ q, q < 5 → ∀ i, i < (wrd q).length → okb (nI (ltr (4 * q + i))).toInt64 [ltr (4 * q + i)] := by
  intro q hq i hi
  have key : ∀ q, q < 5 → ∀ i, i < (wrd q).length → (((nI (ltr (4 * q + i))).toInt64 >>> ((nI (8 * ([] : List Nat).length)).toInt64 &&& 63)) &&& 255) = (nI (ltr (4 * q + i))).toInt64 := by decide +kernel
  exact ⟨key q hq i hi, trivial⟩
theorem wrd_drop : ∀ q, q < 5 → ∀ i, i < (wrd q).length → (wrd q).drop i = ltr (4 * q + i) :: (wrd q).drop (i + 1) := by decide +kernel
theorem wrd_len : ∀ q, q < 5 → (wrd q).length ≤ 4 := by decide
theorem wrd_19 : ∀ q, q < 5 → ∀ i, i < (wrd q).length → 4 * q + i < 19 := by decide
theorem cX11_readTest_ok (κ : gm_K) (b : Bool) (σ : wg_S) (l a t : Nat) (hl : σ 47 20 = nI l) (hl2 : l ≤ 120) (hA : σ 47 28 = nI a) (hF : σ 47 29 = -1) (ha : a < 50000) (ht : t < 24) (hK : KC σ) : FeV κ mX11_readTest [.ref 47, .int (nI t)] (gg b) σ (TQ σ l a t) := by
  refine go_start (by decide) (Nat.le_of_ble_eq_true rfl) ?_
  have hlet : ∀ (τ : wg_S) (x : Nat), τ 47 20 = nI l → τ 47 28 = nI x → τ 63 = σ 63 → x < 65536 → Fn κ mX11_letter [.ref 47] (gg b) τ (some (.int (mr σ l x))) (gg b) τ := fun τ x h1 h2 h3 h4 => by
    have := cX11_letter_ok κ b τ l x h1 h2 hl2 (by omega)
    rwa [show mr τ l x = mr σ l x by rw [mr, mr, h3]] at this
  -- a fault: nothing more is read
  have tailF : ∀ (τ : wg_S) (p : Nat) (e : Nat × Int32 × Int32), RFr τ σ t → τ 47 29 = nI p → p < 65536 → mtest (mr σ l) a = (false, p, e) → Go κ mX11_readTest 197 [some (.ref 47), some (.int (nI t)), none, none, none] [] (wd (gg b) τ) (0, 0) (fun r h' => ∃ τ, r = none ∧ h' = wd (gg b) τ ∧ TQ σ l a t τ) := by
    intro τ p e hR hF hp hM
    refine go_iconst (v := nI 0) dX11_readTest_197 (by decide) ?_
    refine go_istore_n (lv' := [_, _, _, _, _]) dX11_readTest_198 rfl rfl rfl ?_
    refine go_iconst (v := nI 0) dX11_readTest_199 (by decide) ?_
    refine go_istore (lv' := [_, _, _, _, _]) dX11_readTest_200 rfl rfl rfl ?_
    refine go_iload dX11_readTest_202 rfl ?_
    refine go_iconst (v := nI 3) dX11_readTest_204 (by decide) ?_
    refine go_icmp_ge 254 dX11_readTest_205 (by decide) (fun z => absurd z (by decide)) (fun _ => ?_)
    refine go_aload_n dX11_readTest_208 rfl ?_
    refine gs_gi dX11_readTest_209 flX11_211 (gg_47 b) rfl (hF) ?_
    refine go_if_geN 254 dX11_readTest_212 (by decide) (by omega) ?_
    refine go_aload_n dX11_readTest_254 rfl ?_
    refine gs_gr dX11_readTest_255 flX11_75 (gg_47 b) rfl ?_
    refine go_iload_n dX11_readTest_258 rfl ?_
    refine go_iload_n dX11_readTest_259 rfl ?_
    refine gs_iast (_) dX11_readTest_260 (gg_69 b) (rfl) (by omega) rfl ?_
    refine go_vret dX11_readTest_261 rfl rfl ?_
    refine ⟨_, rfl, rfl, hR.r (Or.inr (Or.inr rfl)), ?_⟩
    rw [hM]
    exact (congrFun (us_p (by decide)) 29).trans hF
  -- the number
  have num : ∀ (p q : Nat) (s : Int32), p < 65000 → dg (mr σ l) p 0 = true → mtest (mr σ l) a = (true, p + nd (mr σ l) p, q, s, nv (mr σ l) p (nd (mr σ l) p)) → ∀ d, d ≤ 3 → ∀ τ, RFr τ σ t → (∀ i, i < d → dg (mr σ l) p i = true) → τ 47 28 = nI (p + d) → τ 47 29 = -1 → τ 67 t = nI q → τ 68 t = s → Go κ mX11_readTest 202 [some (.ref 47), some (.int (nI t)), none, some (.int (nv (mr σ l) p d)), some (.int (nI d))] [] (wd (gg b) τ) (0, 0) (fun r h' => ∃ τ, r = none ∧ h' = wd (gg b) τ ∧ TQ σ l a t τ) := by
    intro p q s hp h0 hM
    refine lo_up 3 (fun d hd ih τ hR hdg hA hF h67 h68 => ?_)
    have h20 : τ 47 20 = nI l := (hR.2.1 20 (by decide) (by decide)).trans hl
    have h63 : τ 63 = σ 63 := hR.1 63 (by decide) (by decide) (by decide) (by decide)
    have fin : nd (mr σ l) p = d → Go κ mX11_readTest 254 [some (.ref 47), some (.int (nI t)), none, some (.int (nv (mr σ l) p d)), none] [] (wd (gg b) τ) (0, 0) (fun r h' => ∃ τ, r = none ∧ h' = wd (gg b) τ ∧ TQ σ l a t τ) := by
      intro hnd
      rw [hnd] at hM
      refine go_aload_n dX11_readTest_254 rfl ?_
      refine gs_gr dX11_readTest_255 flX11_75 (gg_47 b) rfl ?_
      refine go_iload_n dX11_readTest_258 rfl ?_
      refine go_iload_n dX11_readTest_259 rfl ?_
      refine gs_iast (_) dX11_readTest_260 (gg_69 b) (rfl) (by omega) rfl ?_
      refine go_vret dX11_readTest_261 rfl rfl ?_
      refine ⟨_, rfl, rfl, hR.r (Or.inr (Or.inr rfl)), ?_⟩
      rw [hM]
      exact ⟨(congrFun (us_p (by decide)) 28).trans hA, (congrFun (us_p (by decide)) 29).trans hF, (congrFun (us_p (by decide)) t).trans h67, (congrFun (us_p (by decide)) t).trans h68, us_s⟩
    refine go_iload dX11_readTest_202 rfl ?_
    refine go_iconst (v := nI 3) dX11_readTest_204 (by decide) ?_
    refine go_icmp_geN 254 dX11_readTest_205 (by decide) (by omega) (by omega) (fun c205 => ?_) (fun c205 => ?_)
    · exact go_wk (by exact ⟨rfl, rfl, rfl, trivial⟩) (fin (nd_at hdg (Or.inl (by omega))))
    · refine go_aload_n dX11_readTest_208 rfl ?_
      refine gs_gi dX11_readTest_209 flX11_211 (gg_47 b) rfl (hF) ?_
      refine go_if_ge 254 dX11_readTest_212 (by decide) (fun z => absurd z (by decide)) (fun _ => ?_)
      refine go_aload_n dX11_readTest_215 rfl ?_
      refine gs_callVi dX11_readTest_216 cvX11_readTest_214 (hlet τ (p + d) h20 hA h63 (by omega)) rfl (gg_47 b) rfl rfl rfl ⟨rfl, rfl⟩ rfl ?_
      refine gs_callSi dX11_readTest_219 csX11_readTest_224 (cX11_isDigit_ok κ b τ _) rfl rfl rfl ⟨rfl, rfl⟩ rfl ?_
      refine go_if_eqB 254 dX11_readTest_222 (by decide) (fun c222 => ?_) (fun c222 => ?_)
      · exact go_wk (by exact ⟨rfl, rfl, rfl, trivial⟩) (fin (nd_at hdg (Or.inr ⟨c205, c222⟩)))
      · refine go_bipush (v := nI 10) dX11_readTest_225 (by decide) ?_
        refine go_iload_n dX11_readTest_227 rfl ?_
        refine go_imul dX11_readTest_228 ?_
        refine go_aload_n dX11_readTest_229 rfl ?_
        refine gs_callVi dX11_readTest_230 cvX11_readTest_214 (hlet τ (p + d) h20 hA h63 (by omega)) rfl (gg_47 b) rfl rfl rfl ⟨rfl, rfl⟩ rfl ?_
        refine go_iadd dX11_readTest_233 ?_
        refine go_bipush (v := nI 48) dX11_readTest_234 (by decide) ?_
        refine go_isub dX11_readTest_236 ?_
        refine go_istore_n (lv' := [_, _, _, _, _]) dX11_readTest_237 rfl rfl rfl ?_
        refine go_aload_n dX11_readTest_238 rfl ?_
        refine go_dup dX11_readTest_239 rfl ?_
        refine gs_gi dX11_readTest_240 flX11_208 (gg_47 b) rfl (hA) ?_
        refine go_iconst (v := nI 1) dX11_readTest_243 (by decide) ?_
        refine go_iaddN dX11_readTest_244 ?_
        refine gs_pi dX11_readTest_245 flX11_208 (gg_47 b) rfl (fun q hq => by cases hq; exact ⟨rfl, rfl⟩) ?_
        refine go_iincN (lv' := [_, _, _, _, _]) 1 dX11_readTest_248 (by decide) rfl rfl rfl rfl ?_
        refine go_goto 202 dX11_readTest_251 (by decide) ?_
        refine go_wk (by rw [nv, Int32.mul_comm]; exact ⟨rfl, rfl, rfl, rfl, trivial⟩) (ih c205 (us τ 47 28 (nI (p + d + 1))) (hR.f (Or.inl rfl)) (fun i hi => ?_) us_s ((us_k (by decide)).trans hF) ((congrFun (us_p (by decide)) t).trans h67) ((congrFun (us_p (by decide)) t).trans h68))
        by_cases e : i = d
        · subst e; exact c222
        · exact hdg i (by omega)
  -- the sign
  have sign : ∀ (p : Nat), p < 60000 → pwl (mr σ l) (wrd (mfd (mr σ l a) 5)) a = (true, p) → ∀ τ, RFr τ σ t → τ 47 28 = nI p → τ 47 29 = -1 → τ 67 t = nI (mfd (mr σ l a) 5) → Go κ mX11_readTest 90 [some (.ref 47), some (.int (nI t)), none, none, none] [] (wd (gg b) τ) (0, 0) (fun r h' => ∃ τ, r = none ∧ h' = wd (gg b) τ ∧ TQ σ l a t τ) := by
    intro p hp hW τ hR hA hF h67
    have h20 : τ 47 20 = nI l := (hR.2.1 20 (by decide) (by decide)).trans hl
    have h63 : τ 63 = σ 63 := hR.1 63 (by decide) (by decide) (by decide) (by decide)
    have hM : mtest (mr σ l) a = if isg (mr σ l p) = true then (if wi (mr σ l (p + 1)) (nI 48) (nI 57) = true then (true, p + 1 + nd (mr σ l) (p + 1), mfd (mr σ l a) 5, tsg (mr σ l p), nv (mr σ l) (p + 1) (nd (mr σ l) (p + 1))) else (false, p + 1, 0, 0, 0)) else (false, p, 0, 0, 0) := by rw [mtest, hW]
    have good : isg (mr σ l p) = true → ∀ v, v = tsg (mr σ l p) → Go κ mX11_readTest 172 [some (.ref 47), some (.int (nI t)), none, none, none] [] (wd (gg b) (us (us (us τ 68 t v) 47 29 (-1)) 47 28 (nI (p + 1)))) (0, 0) (fun r h' => ∃ τ, r = none ∧ h' = wd (gg b) τ ∧ TQ σ l a t τ) := by
      intro hg v hv
      rw [if_pos hg] at hM
      refine go_aload_n dX11_readTest_172 rfl ?_
      refine gs_gi dX11_readTest_173 flX11_211 (gg_47 b) rfl (show _ = (-1 : Int32) by rw [us_k (by decide), us_s]) ?_
      refine go_if_ge 197 dX11_readTest_176 (by decide) (fun z => absurd z (by decide)) (fun _ => ?_)
      refine go_aload_n dX11_readTest_179 rfl ?_
      refine gs_callVi dX11_readTest_180 cvX11_readTest_214 (hlet _ (p + 1) (by rw [us_k (by decide), us_k (by decide), us_p (by decide)]; exact h20) us_s (by rw [us_p (by decide), us_p (by decide), us_p (by decide)]; exact h63) (by omega)) rfl (gg_47 b) rfl rfl rfl ⟨rfl, rfl⟩ rfl ?_
      refine gs_callSi dX11_readTest_183 csX11_readTest_224 (cX11_isDigit_ok κ b _ _) rfl rfl rfl ⟨rfl, rfl⟩ rfl ?_
      refine go_if_neB 197 dX11_readTest_186 (by decide) (fun c186 => ?_) (fun c186 => ?_)
      · rw [if_pos c186] at hM
        refine go_iconst (v := nI 0) dX11_readTest_197 (by decide) ?_
        refine go_istore_n (lv' := [_, _, _, _, _]) dX11_readTest_198 rfl rfl rfl ?_
        refine go_iconst (v := nI 0) dX11_readTest_199 (by decide) ?_
        refine go_istore (lv' := [_, _, _, _, _]) dX11_readTest_200 rfl rfl rfl ?_
        have hR2 := ((hR.r (q := 68) (v := v) (Or.inr (Or.inl rfl))).f (k := 29) (v := -1) (Or.inr rfl)).f (k := 28) (v := nI (p + 1)) (Or.inl rfl)
        exact go_wk (by exact ⟨rfl, rfl, rfl, rfl, trivial⟩) (num (p + 1) _ _ (by omega) c186 hM 0 (Nat.zero_le _) _ hR2 (fun i hi => absurd hi (by omega)) us_s (by rw [us_k (by decide), us_s]) (by rw [us_p (by decide), us_p (by decide), us_p (by decide)]; exact h67) (by rw [us_p (by decide), us_p (by decide), us_s]; exact hv))
      · rw [if_neg (by simp [c186])] at hM
        refine go_aload_n dX11_readTest_189 rfl ?_
        refine go_aload_n dX11_readTest_190 rfl ?_
        refine gs_gi dX11_readTest_191 flX11_208 (gg_47 b) rfl (us_s) ?_
        refine gs_pi dX11_readTest_194 flX11_211 (gg_47 b) rfl (fun q hq => by cases hq; exact ⟨rfl, rfl⟩) ?_
        have hR2 := (((hR.r (q := 68) (v := v) (Or.inr (Or.inl rfl))).f (k := 29) (v := -1) (Or.inr rfl)).f (k := 28) (v := nI (p + 1)) (Or.inl rfl)).f (k := 29) (v := nI (p + 1)) (Or.inr rfl)
        exact go_wk (by exact ⟨rfl, rfl, trivial⟩) (tailF _ (p + 1) _ hR2 us_s (by omega) hM)
    refine go_aload_n dX11_readTest_90 rfl ?_
    refine gs_gi dX11_readTest_91 flX11_211 (gg_47 b) rfl (hF) ?_
    refine go_if_ge 172 dX11_readTest_94 (by decide) (fun z => absurd z (by decide)) (fun _ => ?_)
    refine go_aload_n dX11_readTest_97 rfl ?_
    refine gs_callVi dX11_readTest_98 cvX11_readTest_214 (hlet τ p h20 hA h63 (by omega)) rfl (gg_47 b) rfl rfl rfl ⟨rfl, rfl⟩ rfl ?_
    refine go_istore_n (lv' := [_, _, _, _, _]) dX11_readTest_101 rfl rfl rfl ?_
    refine go_aload_n dX11_readTest_102 rfl ?_
    refine gs_gr dX11_readTest_103 flX11_72 (gg_47 b) rfl ?_
    refine go_iload_n dX11_readTest_106 rfl ?_
    refine go_iload_n dX11_readTest_107 rfl ?_
    refine go_bipush (v := nI 61) dX11_readTest_108 (by decide) ?_
    refine go_icmp_ne 117 dX11_readTest_110 (by decide) (fun c110 => ?_) (fun c110 => ?_)
    · refine go_iload_n dX11_readTest_117 rfl ?_
      refine go_bipush (v := nI 60) dX11_readTest_118 (by decide) ?_
      refine go_icmp_ne 127 dX11_readTest_120 (by decide) (fun c120 => ?_) (fun c120 => ?_)
      · refine go_iconst (v := nI 2) dX11_readTest_127 (by decide) ?_
        refine gs_iast (_) dX11_readTest_128 (gg_68 b) (rfl) (by omega) rfl ?_
        refine go_aload_n dX11_readTest_129 rfl ?_
        refine go_iload_n dX11_readTest_130 rfl ?_
        refine go_bipush (v := nI 61) dX11_readTest_131 (by decide) ?_
        refine go_icmp_eq 148 dX11_readTest_133 (by decide) (fun c133 => ?_) (fun c133 => ?_)
        · refine go_aload_n dX11_readTest_148 rfl ?_
          refine gs_gi dX11_readTest_149 flX11_211 (gg_47 b) rfl (show _ = (-1 : Int32) by rw [us_p (by decide)]; exact hF) ?_
          refine go_goto 159 dX11_readTest_152 (by decide) ?_
          refine gs_pi dX11_readTest_159 flX11_211 (gg_47 b) rfl (fun q hq => by cases hq; exact ⟨rfl, rfl⟩) ?_
          refine go_aload_n dX11_readTest_162 rfl ?_
          refine go_dup dX11_readTest_163 rfl ?_
          refine gs_gi dX11_readTest_164 flX11_208 (gg_47 b) rfl (show _ = nI p by rw [us_k (by decide), us_p (by decide)]; exact hA) ?_
          refine go_iconst (v := nI 1) dX11_readTest_167 (by decide) ?_
          refine go_iaddN dX11_readTest_168 ?_
          refine gs_pi dX11_readTest_169 flX11_208 (gg_47 b) rfl (fun q hq => by cases hq; exact ⟨rfl, rfl⟩) ?_
          exact absurd c133 c110
        · refine go_iload_n dX11_readTest_136 rfl ?_
          refine go_bipush (v := nI 60) dX11_readTest_137 (by decide) ?_
          refine go_icmp_eq 148 dX11_readTest_139 (by decide) (fun c139 => ?_) (fun c139 => ?_)
          · refine go_aload_n dX11_readTest_148 rfl ?_
            refine gs_gi dX11_readTest_149 flX11_211 (gg_47 b) rfl (show _ = (-1 : Int32) by rw [us_p (by decide)]; exact hF) ?_
            refine go_goto 159 dX11_readTest_152 (by decide) ?_
            refine gs_pi dX11_readTest_159 flX11_211 (gg_47 b) rfl (fun q hq => by cases hq; exact ⟨rfl, rfl⟩) ?_
            refine go_aload_n dX11_readTest_162 rfl ?_
            refine go_dup dX11_readTest_163 rfl ?_
            refine gs_gi dX11_readTest_164 flX11_208 (gg_47 b) rfl (show _ = nI p by rw [us_k (by decide), us_p (by decide)]; exact hA) ?_
            refine go_iconst (v := nI 1) dX11_readTest_167 (by decide) ?_
            refine go_iaddN dX11_readTest_168 ?_
            refine gs_pi dX11_readTest_169 flX11_208 (gg_47 b) rfl (fun q hq => by cases hq; exact ⟨rfl, rfl⟩) ?_
            exact absurd c139 c120
          · refine go_iload_n dX11_readTest_142 rfl ?_
            refine go_bipush (v := nI 62) dX11_readTest_143 (by decide) ?_
            refine go_icmp_ne 155 dX11_readTest_145 (by decide) (fun c145 => ?_) (fun c145 => ?_)
            · refine go_aload_n dX11_readTest_155 rfl ?_
              refine gs_gi dX11_readTest_156 flX11_208 (gg_47 b) rfl (show _ = nI p by rw [us_p (by decide)]; exact hA) ?_
              refine gs_pi dX11_readTest_159 flX11_211 (gg_47 b) rfl (fun q hq => by cases hq; exact ⟨rfl, rfl⟩) ?_
              refine go_aload_n dX11_readTest_162 rfl ?_
              refine go_dup dX11_readTest_163 rfl ?_
              refine gs_gi dX11_readTest_164 flX11_208 (gg_47 b) rfl (show _ = nI p by rw [us_k (by decide), us_p (by decide)]; exact hA) ?_
              refine go_iconst (v := nI 1) dX11_readTest_167 (by decide) ?_
              refine go_iaddN dX11_readTest_168 ?_
              refine gs_pi dX11_readTest_169 flX11_208 (gg_47 b) rfl (fun q hq => by cases hq; exact ⟨rfl, rfl⟩) ?_
              have hng : ¬ isg (mr σ l p) = true := by simp [isg, c110, c120, c145]
              rw [if_neg hng] at hM
              have hR2 := ((hR.r (q := 68) (v := nI 2) (Or.inr (Or.inl rfl))).f (k := 29) (v := nI p) (Or.inr rfl)).f (k := 28) (v := nI (p + 1)) (Or.inl rfl)
              refine go_aload_n dX11_readTest_172 rfl ?_
              refine gs_gi dX11_readTest_173 flX11_211 (gg_47 b) rfl (show _ = nI p by rw [us_k (by decide), us_s]) ?_
              refine go_if_geN 197 dX11_readTest_176 (by decide) (by omega) ?_
              exact go_wk (by exact ⟨rfl, rfl, trivial⟩) (tailF _ p _ hR2 (by rw [us_k (by decide), us_s]) (by omega) hM)
            · refine go_aload_n dX11_readTest_148 rfl ?_
              refine gs_gi dX11_readTest_149 flX11_211 (gg_47 b) rfl (show _ = (-1 : Int32) by rw [us_p (by decide)]; exact hF) ?_
              refine go_goto 159 dX11_readTest_152 (by decide) ?_
              refine gs_pi dX11_readTest_159 flX11_211 (gg_47 b) rfl (fun q hq => by cases hq; exact ⟨rfl, rfl⟩) ?_
              refine go_aload_n dX11_readTest_162 rfl ?_
              refine go_dup dX11_readTest_163 rfl ?_
              refine gs_gi dX11_readTest_164 flX11_208 (gg_47 b) rfl (show _ = nI p by rw [us_k (by decide), us_p (by decide)]; exact hA) ?_
              refine go_iconst (v := nI 1) dX11_readTest_167 (by decide) ?_
              refine go_iaddN dX11_readTest_168 ?_
              refine gs_pi dX11_readTest_169 flX11_208 (gg_47 b) rfl (fun q hq => by cases hq; exact ⟨rfl, rfl⟩) ?_
              exact go_wk (by exact ⟨rfl, rfl, trivial⟩) (good (by simp [isg, c145]) (nI 2) (by rw [tsg, if_neg c110, if_neg c120]))
      · refine go_iconst (v := nI 1) dX11_readTest_123 (by decide) ?_
        refine go_goto 128 dX11_readTest_124 (by decide) ?_
        refine gs_iast (_) dX11_readTest_128 (gg_68 b) (rfl) (by omega) rfl ?_
        refine go_aload_n dX11_readTest_129 rfl ?_
        refine go_iload_n dX11_readTest_130 rfl ?_
        refine go_bipush (v := nI 61) dX11_readTest_131 (by decide) ?_
        refine go_icmp_eq 148 dX11_readTest_133 (by decide) (fun c133 => ?_) (fun c133 => ?_)
        · refine go_aload_n dX11_readTest_148 rfl ?_
          refine gs_gi dX11_readTest_149 flX11_211 (gg_47 b) rfl (show _ = (-1 : Int32) by rw [us_p (by decide)]; exact hF) ?_
          refine go_goto 159 dX11_readTest_152 (by decide) ?_
          refine gs_pi dX11_readTest_159 flX11_211 (gg_47 b) rfl (fun q hq => by cases hq; exact ⟨rfl, rfl⟩) ?_
          refine go_aload_n dX11_readTest_162 rfl ?_
          refine go_dup dX11_readTest_163 rfl ?_
          refine gs_gi dX11_readTest_164 flX11_208 (gg_47 b) rfl (show _ = nI p by rw [us_k (by decide), us_p (by decide)]; exact hA) ?_
          refine go_iconst (v := nI 1) dX11_readTest_167 (by decide) ?_
          refine go_iaddN dX11_readTest_168 ?_
          refine gs_pi dX11_readTest_169 flX11_208 (gg_47 b) rfl (fun q hq => by cases hq; exact ⟨rfl, rfl⟩) ?_
          exact absurd c133 c110
        · refine go_iload_n dX11_readTest_136 rfl ?_
          refine go_bipush (v := nI 60) dX11_readTest_137 (by decide) ?_
          refine go_icmp_eq 148 dX11_readTest_139 (by decide) (fun c139 => ?_) (fun c139 => ?_)
          · refine go_aload_n dX11_readTest_148 rfl ?_
            refine gs_gi dX11_readTest_149 flX11_211 (gg_47 b) rfl (show _ = (-1 : Int32) by rw [us_p (by decide)]; exact hF) ?_
            refine go_goto 159 dX11_readTest_152 (by decide) ?_
            refine gs_pi dX11_readTest_159 flX11_211 (gg_47 b) rfl (fun q hq => by cases hq; exact ⟨rfl, rfl⟩) ?_
            refine go_aload_n dX11_readTest_162 rfl ?_
            refine go_dup dX11_readTest_163 rfl ?_
            refine gs_gi dX11_readTest_164 flX11_208 (gg_47 b) rfl (show _ = nI p by rw [us_k (by decide), us_p (by decide)]; exact hA) ?_
            refine go_iconst (v := nI 1) dX11_readTest_167 (by decide) ?_
            refine go_iaddN dX11_readTest_168 ?_
            refine gs_pi dX11_readTest_169 flX11_208 (gg_47 b) rfl (fun q hq => by cases hq; exact ⟨rfl, rfl⟩) ?_
            exact go_wk (by exact ⟨rfl, rfl, trivial⟩) (good (by simp [isg, c120]) (nI 1) (by rw [tsg, if_neg c110, if_pos c120]))
          · refine go_iload_n dX11_readTest_142 rfl ?_
            refine go_bipush (v := nI 62) dX11_readTest_143 (by decide) ?_
            refine go_icmp_ne 155 dX11_readTest_145 (by decide) (fun c145 => ?_) (fun c145 => ?_)
            · refine go_aload_n dX11_readTest_155 rfl ?_
              refine gs_gi dX11_readTest_156 flX11_208 (gg_47 b) rfl (show _ = nI p by rw [us_p (by decide)]; exact hA) ?_
              refine gs_pi dX11_readTest_159 flX11_211 (gg_47 b) rfl (fun q hq => by cases hq; exact ⟨rfl, rfl⟩) ?_
              refine go_aload_n dX11_readTest_162 rfl ?_
              refine go_dup dX11_readTest_163 rfl ?_
              refine gs_gi dX11_readTest_164 flX11_208 (gg_47 b) rfl (show _ = nI p by rw [us_k (by decide), us_p (by decide)]; exact hA) ?_
              refine go_iconst (v := nI 1) dX11_readTest_167 (by decide) ?_
              refine go_iaddN dX11_readTest_168 ?_
              refine gs_pi dX11_readTest_169 flX11_208 (gg_47 b) rfl (fun q hq => by cases hq; exact ⟨rfl, rfl⟩) ?_
              exact absurd c120 c139
            · refine go_aload_n dX11_readTest_148 rfl ?_
              refine gs_gi dX11_readTest_149 flX11_211 (gg_47 b) rfl (show _ = (-1 : Int32) by rw [us_p (by decide)]; exact hF) ?_
              refine go_goto 159 dX11_readTest_152 (by decide) ?_
              refine gs_pi dX11_readTest_159 flX11_211 (gg_47 b) rfl (fun q hq => by cases hq; exact ⟨rfl, rfl⟩) ?_
              refine go_aload_n dX11_readTest_162 rfl ?_
              refine go_dup dX11_readTest_163 rfl ?_
              refine gs_gi dX11_readTest_164 flX11_208 (gg_47 b) rfl (show _ = nI p by rw [us_k (by decide), us_p (by decide)]; exact hA) ?_
              refine go_iconst (v := nI 1) dX11_readTest_167 (by decide) ?_
              refine go_iaddN dX11_readTest_168 ?_
              refine gs_pi dX11_readTest_169 flX11_208 (gg_47 b) rfl (fun q hq => by cases hq; exact ⟨rfl, rfl⟩) ?_
              exact absurd c120 c139
    · refine go_iconst (v := nI 0) dX11_readTest_113 (by decide) ?_
      refine go_goto 128 dX11_readTest_114 (by decide) ?_
      refine gs_iast (_) dX11_readTest_128 (gg_68 b) (rfl) (by omega) rfl ?_
      refine go_aload_n dX11_readTest_129 rfl ?_
      refine go_iload_n dX11_readTest_130 rfl ?_
      refine go_bipush (v := nI 61) dX11_readTest_131 (by decide) ?_
      refine go_icmp_eq 148 dX11_readTest_133 (by decide) (fun c133 => ?_) (fun c133 => ?_)
      · refine go_aload_n dX11_readTest_148 rfl ?_
        refine gs_gi dX11_readTest_149 flX11_211 (gg_47 b) rfl (show _ = (-1 : Int32) by rw [us_p (by decide)]; exact hF) ?_
        refine go_goto 159 dX11_readTest_152 (by decide) ?_
        refine gs_pi dX11_readTest_159 flX11_211 (gg_47 b) rfl (fun q hq => by cases hq; exact ⟨rfl, rfl⟩) ?_
        refine go_aload_n dX11_readTest_162 rfl ?_
        refine go_dup dX11_readTest_163 rfl ?_
        refine gs_gi dX11_readTest_164 flX11_208 (gg_47 b) rfl (show _ = nI p by rw [us_k (by decide), us_p (by decide)]; exact hA) ?_
        refine go_iconst (v := nI 1) dX11_readTest_167 (by decide) ?_
        refine go_iaddN dX11_readTest_168 ?_
        refine gs_pi dX11_readTest_169 flX11_208 (gg_47 b) rfl (fun q hq => by cases hq; exact ⟨rfl, rfl⟩) ?_
        exact go_wk (by exact ⟨rfl, rfl, trivial⟩) (good (by simp [isg, c110]) (nI 0) (by rw [tsg, if_pos c110]))
      · refine go_iload_n dX11_readTest_136 rfl ?_
        refine go_bipush (v := nI 60) dX11_readTest_137 (by decide) ?_
        refine go_icmp_eq 148 dX11_readTest_139 (by decide) (fun c139 => ?_) (fun c139 => ?_)
        · refine go_aload_n dX11_readTest_148 rfl ?_
          refine gs_gi dX11_readTest_149 flX11_211 (gg_47 b) rfl (show _ = (-1 : Int32) by rw [us_p (by decide)]; exact hF) ?_
          refine go_goto 159 dX11_readTest_152 (by decide) ?_
          refine gs_pi dX11_readTest_159 flX11_211 (gg_47 b) rfl (fun q hq => by cases hq; exact ⟨rfl, rfl⟩) ?_
          refine go_aload_n dX11_readTest_162 rfl ?_
          refine go_dup dX11_readTest_163 rfl ?_
          refine gs_gi dX11_readTest_164 flX11_208 (gg_47 b) rfl (show _ = nI p by rw [us_k (by decide), us_p (by decide)]; exact hA) ?_
          refine go_iconst (v := nI 1) dX11_readTest_167 (by decide) ?_
          refine go_iaddN dX11_readTest_168 ?_
          refine gs_pi dX11_readTest_169 flX11_208 (gg_47 b) rfl (fun q hq => by cases hq; exact ⟨rfl, rfl⟩) ?_
          exact absurd c110 c133
        · refine go_iload_n dX11_readTest_142 rfl ?_
          refine go_bipush (v := nI 62) dX11_readTest_143 (by decide) ?_
          refine go_icmp_ne 155 dX11_readTest_145 (by decide) (fun c145 => ?_) (fun c145 => ?_)
          · refine go_aload_n dX11_readTest_155 rfl ?_
            refine gs_gi dX11_readTest_156 flX11_208 (gg_47 b) rfl (show _ = nI p by rw [us_p (by decide)]; exact hA) ?_
            refine gs_pi dX11_readTest_159 flX11_211 (gg_47 b) rfl (fun q hq => by cases hq; exact ⟨rfl, rfl⟩) ?_
            refine go_aload_n dX11_readTest_162 rfl ?_
            refine go_dup dX11_readTest_163 rfl ?_
            refine gs_gi dX11_readTest_164 flX11_208 (gg_47 b) rfl (show _ = nI p by rw [us_k (by decide), us_p (by decide)]; exact hA) ?_
            refine go_iconst (v := nI 1) dX11_readTest_167 (by decide) ?_
            refine go_iaddN dX11_readTest_168 ?_
            refine gs_pi dX11_readTest_169 flX11_208 (gg_47 b) rfl (fun q hq => by cases hq; exact ⟨rfl, rfl⟩) ?_
            exact absurd c110 c133
          · refine go_aload_n dX11_readTest_148 rfl ?_
            refine gs_gi dX11_readTest_149 flX11_211 (gg_47 b) rfl (show _ = (-1 : Int32) by rw [us_p (by decide)]; exact hF) ?_
            refine go_goto 159 dX11_readTest_152 (by decide) ?_
            refine gs_pi dX11_readTest_159 flX11_211 (gg_47 b) rfl (fun q hq => by cases hq; exact ⟨rfl, rfl⟩) ?_
            refine go_aload_n dX11_readTest_162 rfl ?_
            refine go_dup dX11_readTest_163 rfl ?_
            refine gs_gi dX11_readTest_164 flX11_208 (gg_47 b) rfl (show _ = nI p by rw [us_k (by decide), us_p (by decide)]; exact hA) ?_
            refine go_iconst (v := nI 1) dX11_readTest_167 (by decide) ?_
            refine go_iaddN dX11_readTest_168 ?_
            refine gs_pi dX11_readTest_169 flX11_208 (gg_47 b) rfl (fun q hq => by cases hq; exact ⟨rfl, rfl⟩) ?_
            exact absurd c110 c133
  have word : ∀ (q : Nat), q = mfd (mr σ l a) 5 → ∀ i, i ≤ (wrd q).length → ∀ τ, RFr τ σ t → τ 47 28 = nI (a + i) → τ 47 29 = -1 → τ 67 t = nI q → pwl (mr σ l) (wrd q) a = pwl (mr σ l) ((wrd q).drop i) (a + i) → Go κ mX11_readTest 48 [some (.ref 47), some (.int (nI t)), some (.int (nI q)), some (.int (nI i)), none] [] (wd (gg b) τ) (0, 0) (fun r h' => ∃ τ, r = none ∧ h' = wd (gg b) τ ∧ TQ σ l a t τ) := by
    intro q hq
    have hq5 : q < 5 := by rw [hq]; exact mfd_lt _ 5 (by decide)
    have hlen := wrd_len q hq5
    refine lo_up (wrd q).length (fun i hi ih τ hR hA hF h67 hW => ?_)
    have h20 : τ 47 20 = nI l := (hR.2.1 20 (by decide) (by decide)).trans hl
    have h63 : τ 63 = σ 63 := hR.1 63 (by decide) (by decide) (by decide) (by decide)
    have hC := hK
    have h70 : τ 70 = σ 70 := hR.1 70 (by decide) (by decide) (by decide) (by decide)
    have h71 : τ 71 = σ 71 := hR.1 71 (by decide) (by decide) (by decide) (by decide)
    have h72 : τ 72 = σ 72 := hR.1 72 (by decide) (by decide) (by decide) (by decide)
    have v71 : τ 71 q = nI (4 * q) := by rw [h71]; exact hK.2.1 q hq5
    have v72 : τ 72 q = nI (wrd q).length := by rw [h72]; exact hK.2.2 q hq5
    have hexp : i < (wrd q).length → Fn κ mX11_expect [.ref 47, .int (nI 1), .long (nI (ltr (4 * q + i))).toInt64] (gg b) τ none (gg b) (if mr σ l (a + i) = nI (ltr (4 * q + i)) then us τ 47 28 (nI (a + i + 1)) else us (us τ 47 28 (nI (a + i))) 47 29 (nI (a + i))) := fun h => by
      have := cX11_expect_ok κ b τ l (a + i) 1 _ [ltr (4 * q + i)] rfl (by simp) (okb_1 q hq5 i h) h20 hl2 hA hF (by omega)
      rw [show mr τ l = mr σ l by funext x; rw [mr, mr, h63]] at this
      by_cases hc : mr σ l (a + i) = nI (ltr (4 * q + i))
      · rw [if_pos hc]; rwa [pwl, if_pos hc, pwl, xst, if_pos rfl] at this
      · rw [if_neg hc]; rwa [pwl, if_neg hc, xst, if_neg (by simp)] at this
    refine go_iload_n dX11_readTest_48 rfl ?_
    refine go_aload_n dX11_readTest_49 rfl ?_
    refine gs_gr dX11_readTest_50 flX11_85 (gg_47 b) rfl ?_
    refine go_iload_n dX11_readTest_53 rfl ?_
    refine gs_iald (_) dX11_readTest_54 (gg_72 b) (rfl) (by omega) rfl (v72) ?_
    refine go_icmp_geN 90 dX11_readTest_55 (by decide) (by omega) (by omega) (fun c55 => ?_) (fun c55 => ?_)
    · have e : i = (wrd q).length := by omega
      rw [e, List.drop_length, pwl] at hW
      rw [e] at hA
      rw [hq] at hW hA h67 hlen
      exact go_wk (by exact ⟨rfl, rfl, trivial⟩) (sign _ (by omega) hW τ hR hA hF h67)
    · refine go_aload_n dX11_readTest_58 rfl ?_
      refine gs_gi dX11_readTest_59 flX11_211 (gg_47 b) rfl (hF) ?_
      refine go_if_ge 90 dX11_readTest_62 (by decide) (fun z => absurd z (by decide)) (fun _ => ?_)
      refine go_aload_n dX11_readTest_65 rfl ?_
      refine go_iconst (v := nI 1) dX11_readTest_66 (by decide) ?_
      refine go_aload_n dX11_readTest_67 rfl ?_
      refine gs_gr dX11_readTest_68 flX11_78 (gg_47 b) rfl ?_
      refine go_aload_n dX11_readTest_71 rfl ?_
      refine gs_gr dX11_readTest_72 flX11_82 (gg_47 b) rfl ?_
      refine go_iload_n dX11_readTest_75 rfl ?_
      refine gs_iald (_) dX11_readTest_76 (gg_71 b) (rfl) (by omega) rfl (v71) ?_
      refine go_iload_n dX11_readTest_77 rfl ?_
      refine go_iaddN dX11_readTest_78 ?_
      refine gs_cald (_) dX11_readTest_79 (gg_70 b) (rfl) (by have := wrd_19 q hq5 i c55; omega) rfl (show _ = nI (ltr (4 * q + i)) by rw [h70]; exact hK.1 _ (wrd_19 q hq5 i c55)) ?_
      refine go_i2l dX11_readTest_80 ?_
      refine gs_callVv dX11_readTest_81 cvX11_readTest_220 (hexp c55) rfl (gg_47 b) rfl rfl rfl ⟨rfl, rfl⟩ rfl ?_
      rw [wrd_drop q hq5 i c55, pwl] at hW
      by_cases hc : mr σ l (a + i) = nI (ltr (4 * q + i))
      · rw [if_pos hc] at hW ⊢
        refine go_iincN (lv' := [_, _, _, _, _]) 1 dX11_readTest_84 (by decide) rfl rfl rfl rfl ?_
        refine go_goto 48 dX11_readTest_87 (by decide) ?_
        exact go_wk (by exact ⟨rfl, rfl, rfl, rfl, trivial⟩) (ih c55 _ (hR.f (Or.inl rfl)) us_s ((us_k (by decide)).trans hF) ((congrFun (us_p (by decide)) t).trans h67) hW)
      · rw [if_neg hc] at hW ⊢
        have hM : mtest (mr σ l) a = (false, a + i, 0, 0, 0) := by rw [mtest, ← hq, hW]
        have hR2 := (hR.f (k := 28) (v := nI (a + i)) (Or.inl rfl)).f (k := 29) (v := nI (a + i)) (Or.inr rfl)
        have hF2 : us (us τ 47 28 (nI (a + i))) 47 29 (nI (a + i)) 47 29 = nI (a + i) := us_s
        have v72' : us (us τ 47 28 (nI (a + i))) 47 29 (nI (a + i)) 72 q = nI (wrd q).length := by rw [us_p (by decide), us_p (by decide)]; exact v72
        refine go_iincN (lv' := [_, _, _, _, _]) 1 dX11_readTest_84 (by decide) rfl rfl rfl rfl ?_
        refine go_goto 48 dX11_readTest_87 (by decide) ?_
        refine go_iload_n dX11_readTest_48 rfl ?_
        refine go_aload_n dX11_readTest_49 rfl ?_
        refine gs_gr dX11_readTest_50 flX11_85 (gg_47 b) rfl ?_
        refine go_iload_n dX11_readTest_53 rfl ?_
        refine gs_iald (_) dX11_readTest_54 (gg_72 b) (rfl) (by omega) rfl (v72') ?_
        refine go_icmp_geN 90 dX11_readTest_55 (by decide) (by omega) (by omega) (fun c55 => ?_) (fun c55 => ?_)
        · refine go_aload_n dX11_readTest_90 rfl ?_
          refine gs_gi dX11_readTest_91 flX11_211 (gg_47 b) rfl (hF2) ?_
          refine go_if_geN 172 dX11_readTest_94 (by decide) (by omega) ?_
          refine go_aload_n dX11_readTest_172 rfl ?_
          refine gs_gi dX11_readTest_173 flX11_211 (gg_47 b) rfl (hF2) ?_
          refine go_if_geN 197 dX11_readTest_176 (by decide) (by omega) ?_
          exact go_wk (by exact ⟨rfl, rfl, trivial⟩) (tailF _ (a + i) _ hR2 hF2 (by omega) hM)
        · refine go_aload_n dX11_readTest_58 rfl ?_
          refine gs_gi dX11_readTest_59 flX11_211 (gg_47 b) rfl (hF2) ?_
          refine go_if_geN 90 dX11_readTest_62 (by decide) (by omega) ?_
          refine go_aload_n dX11_readTest_90 rfl ?_
          refine gs_gi dX11_readTest_91 flX11_211 (gg_47 b) rfl (hF2) ?_
          refine go_if_geN 172 dX11_readTest_94 (by decide) (by omega) ?_
          refine go_aload_n dX11_readTest_172 rfl ?_
          refine gs_gi dX11_readTest_173 flX11_211 (gg_47 b) rfl (hF2) ?_
          refine go_if_geN 197 dX11_readTest_176 (by decide) (by omega) ?_
          exact go_wk (by exact ⟨rfl, rfl, trivial⟩) (tailF _ (a + i) _ hR2 hF2 (by omega) hM)
  have field : ∀ i, i ≤ 5 → Go κ mX11_readTest 4 [some (.ref 47), some (.int (nI t)), some (.int (nI (mfd (mr σ l a) i))), some (.int (nI i)), none] [] (wd (gg b) σ) (0, 0) (fun r h' => ∃ τ, r = none ∧ h' = wd (gg b) τ ∧ TQ σ l a t τ) := by
    refine lo_up 5 (fun i hi ih => ?_)
    have hs' : mfd (mr σ l a) (i + 1) = if mr σ l a = nI (ltr (4 * i)) then i else mfd (mr σ l a) i := rfl
    have hm5 := mfd_lt (mr σ l a) i (by omega)
    refine go_iload_n dX11_readTest_4 rfl ?_
    refine go_iconst (v := nI 5) dX11_readTest_5 (by decide) ?_
    refine go_icmp_geN 39 dX11_readTest_6 (by decide) (by omega) (by omega) (fun c6 => ?_) (fun c6 => ?_)
    · refine go_aload_n dX11_readTest_39 rfl ?_
      refine gs_gr dX11_readTest_40 flX11_69 (gg_47 b) rfl ?_
      refine go_iload_n dX11_readTest_43 rfl ?_
      refine go_iload_n dX11_readTest_44 rfl ?_
      refine gs_iast (_) dX11_readTest_45 (gg_67 b) (rfl) (by omega) rfl ?_
      refine go_iconst (v := nI 0) dX11_readTest_46 (by decide) ?_
      refine go_istore_n (lv' := [_, _, _, _, _]) dX11_readTest_47 rfl rfl rfl ?_
      have e : i = 5 := by omega
      subst e
      refine go_wk (by exact ⟨rfl, rfl, rfl, rfl, trivial⟩) (word _ rfl 0 (Nat.zero_le _) _ (RFr.r ⟨fun _ _ _ _ _ => rfl, fun _ _ _ => rfl, fun _ _ _ _ => rfl⟩ (Or.inl rfl)) ((congrFun (us_p (by decide)) 28).trans hA) ((congrFun (us_p (by decide)) 29).trans hF) us_s rfl)
    · refine go_aload_n dX11_readTest_9 rfl ?_
      refine gs_callVi dX11_readTest_10 cvX11_readTest_214 (hlet σ a hl hA rfl (by omega)) rfl (gg_47 b) rfl rfl rfl ⟨rfl, rfl⟩ rfl ?_
      refine go_aload_n dX11_readTest_13 rfl ?_
      refine gs_gr dX11_readTest_14 flX11_78 (gg_47 b) rfl ?_
      refine go_aload_n dX11_readTest_17 rfl ?_
      refine gs_gr dX11_readTest_18 flX11_82 (gg_47 b) rfl ?_
      refine go_iload_n dX11_readTest_21 rfl ?_
      refine gs_iald (_) dX11_readTest_22 (gg_71 b) (rfl) (by omega) rfl (hK.2.1 i c6) ?_
      refine gs_cald (_) dX11_readTest_23 (gg_70 b) (rfl) (by omega) rfl (hK.1 (4 * i) (by omega)) ?_
      refine go_icmp_ne 31 dX11_readTest_24 (by decide) (fun c24 => ?_) (fun c24 => ?_)
      · refine go_iload_n dX11_readTest_31 rfl ?_
        refine go_istore_n (lv' := [_, _, _, _, _]) dX11_readTest_32 rfl rfl rfl ?_
        refine go_iincN (lv' := [_, _, _, _, _]) 1 dX11_readTest_33 (by decide) rfl rfl rfl rfl ?_
        refine go_goto 4 dX11_readTest_36 (by decide) ?_
        exact go_wk (by rw [hs']; simp [lvle, c6, c24]) (ih c6)
      · refine go_iload_n dX11_readTest_27 rfl ?_
        refine go_goto 32 dX11_readTest_28 (by decide) ?_
        refine go_istore_n (lv' := [_, _, _, _, _]) dX11_readTest_32 rfl rfl rfl ?_
        refine go_iincN (lv' := [_, _, _, _, _]) 1 dX11_readTest_33 (by decide) rfl rfl rfl rfl ?_
        refine go_goto 4 dX11_readTest_36 (by decide) ?_
        exact go_wk (by rw [hs']; simp [lvle, c6, c24]) (ih c6)
  refine go_iconst (v := nI 0) dX11_readTest_0 (by decide) ?_
  refine go_istore_n (lv' := [_, _, _, _, _]) dX11_readTest_1 rfl rfl rfl ?_
  refine go_iconst (v := nI 0) dX11_readTest_2 (by decide) ?_
  refine go_istore_n (lv' := [_, _, _, _, _]) dX11_readTest_3 rfl rfl rfl ?_
  exact go_wk (by exact ⟨rfl, rfl, rfl, rfl, trivial⟩) (field 0 (Nat.zero_le _))
