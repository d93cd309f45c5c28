theorem ord_nx (κ : gm_K) (b : Bool) (τ : wg_S) (m : Nat) (hm : m ≤ 9) (hM' : τ 47 11 = nI m) (K : Nat → Nat → Int32) (Y : Nat → Bool) (hY : ∀ s, s < m → τ 77 s = bi (Y s)) (hK : ∀ x y, x < m → y < m → τ 78 (9 * x + y) = K x y) (u x : Nat) (hu : u < 512) (hx : x < m) (z1 z2 z3 : Int32) (Φ : Option Value → gm_H → Prop)
    (fin : ∀ o, NX (cnd (τ 79) K Y u x) m 0 o → Go κ mX11_order 262 [some (.ref 47), some (.int z1), some (.int z2), some (.int z3), some (.int (nI u)), some (.int (nI x)), some (.int (oI o)), none, none] [] (wd (gg b) τ) (0, 0) Φ) :
    ∀ k, k ≤ m → ∀ o, NX (cnd (τ 79) K Y u x) m k o → Go κ mX11_order 161 [some (.ref 47), some (.int z1), some (.int z2), some (.int z3), some (.int (nI u)), some (.int (nI x)), some (.int (oI o)), some (.int (pI k)), none] [] (wd (gg b) τ) (0, 0) Φ := by
    intro k
    induction k with
    | zero =>
      intro hk o H
      rw [show pI 0 = -1 from rfl]
      refine go_iload dX11_order_161 rfl ?_
      refine go_if_lt 262 dX11_order_163 (by decide) (fun _ => ?_) (fun z => absurd z (by decide))
      exact go_wk (by exact ⟨rfl, rfl, rfl, rfl, rfl, rfl, rfl, trivial⟩) (fin o H)
    | succ k ih =>
      intro hk o H
      rw [show pI (k + 1) = nI k from rfl]
      have hmc := cX11_mayCome_ok κ b τ x k (by omega) (by omega) _ _ (hY x hx) (hY k (by omega))
      have hcd : cnd (τ 79) K Y u x k = (decide (u / 2 ^ k % 2 = 1) && !(Y x && Y k) && !decide (τ 79 (9 * (u - 2 ^ k) + k) < 0) && decide (τ 79 (9 * (u - 2 ^ k) + k) + K x k = τ 79 (9 * u + x))) := rfl
      refine go_iload dX11_order_161 rfl ?_
      refine go_if_ltN 262 dX11_order_163 (by decide) (by omega) ?_
      refine go_iload dX11_order_166 rfl ?_
      refine go_iload dX11_order_168 rfl ?_
      refine go_ishr dX11_order_170 ?_
      refine go_iconst (v := nI 1) dX11_order_171 (by decide) ?_
      refine go_iand dX11_order_172 ?_
      refine go_topI (bv_nI (by omega) (by omega)) ?_
      refine go_iconst (v := nI 1) dX11_order_173 (by decide) ?_
      refine go_icmp_neN 256 dX11_order_174 (by decide) (by omega) (by omega) (fun c174 => ?_) (fun c174 => ?_)
      · refine go_iinc (lv' := [_, _, _, _, _, _, _, _, _]) dX11_order_256 rfl (pI_dec k) rfl rfl rfl ?_
        refine go_goto 161 dX11_order_259 (by decide) ?_
        exact go_wk (by exact ⟨rfl, rfl, rfl, rfl, rfl, rfl, rfl, rfl, trivial⟩) (ih (by omega) o (NX_f H (by rw [hcd]; simp [c174])))
      · refine go_aload_n dX11_order_177 rfl ?_
        refine go_iload dX11_order_178 rfl ?_
        refine go_iload dX11_order_180 rfl ?_
        refine gs_callVi dX11_order_182 cvX11_order_290 (hmc) rfl (gg_47 b) rfl rfl rfl ⟨rfl, rfl⟩ rfl ?_
        refine go_if_eqB 256 dX11_order_185 (by decide) (fun c185 => ?_) (fun c185 => ?_)
        · refine go_iinc (lv' := [_, _, _, _, _, _, _, _, _]) dX11_order_256 rfl (pI_dec k) rfl rfl rfl ?_
          refine go_goto 161 dX11_order_259 (by decide) ?_
          exact go_wk (by exact ⟨rfl, rfl, rfl, rfl, rfl, rfl, rfl, rfl, trivial⟩) (ih (by omega) o (NX_f H (by rw [hcd]; simp only [Bool.not_eq_false', Bool.not_eq_eq_eq_not, Bool.not_false] at c185; simp [c185])))
        · refine go_aload_n dX11_order_188 rfl ?_
          refine gs_gr dX11_order_189 flX11_113 (gg_47 b) rfl ?_
          refine go_bipush (v := nI 9) dX11_order_192 (by decide) ?_
          refine go_iload dX11_order_194 rfl ?_
          refine go_iconst (v := nI 1) dX11_order_196 (by decide) ?_
          refine go_iload dX11_order_197 rfl ?_
          refine go_ishl dX11_order_199 ?_
          refine go_iconst (v := -1) dX11_order_200 (by decide) ?_
          refine go_ixor dX11_order_201 ?_
          refine go_iand dX11_order_202 ?_
          refine go_topI (nI_clr (by omega) (by omega) c174) ?_
          refine go_imulN dX11_order_203 ?_
          refine go_iload dX11_order_204 rfl ?_
          refine go_iaddN dX11_order_206 ?_
          refine gs_iald (_) dX11_order_207 (gg_79 b) (rfl) (by have := Nat.sub_le u (2 ^ k); omega) rfl (rfl) ?_
          refine go_istore (lv' := [_, _, _, _, _, _, _, _, _]) dX11_order_208 rfl rfl rfl ?_
          refine go_iload dX11_order_210 rfl ?_
          refine go_if_lt 252 dX11_order_212 (by decide) (fun c212 => ?_) (fun c212 => ?_)
          · refine go_iload dX11_order_252 rfl ?_
            refine go_istore (lv' := [_, _, _, _, _, _, _, _, _]) dX11_order_254 rfl rfl rfl ?_
            refine go_iinc (lv' := [_, _, _, _, _, _, _, _, _]) dX11_order_256 rfl (pI_dec k) rfl rfl rfl ?_
            refine go_goto 161 dX11_order_259 (by decide) ?_
            exact go_wk (by exact ⟨rfl, rfl, rfl, rfl, rfl, rfl, rfl, rfl, trivial⟩) (ih (by omega) o (NX_f H (by rw [hcd]; simp [c212])))
          · refine go_iload dX11_order_215 rfl ?_
            refine go_aload_n dX11_order_217 rfl ?_
            refine gs_gr dX11_order_218 flX11_110 (gg_47 b) rfl ?_
            refine go_bipush (v := nI 9) dX11_order_221 (by decide) ?_
            refine go_iload dX11_order_223 rfl ?_
            refine go_imulN dX11_order_225 ?_
            refine go_iload dX11_order_226 rfl ?_
            refine go_iaddN dX11_order_228 ?_
            refine gs_iald (_) dX11_order_229 (gg_78 b) (rfl) (by omega) rfl (hK x k hx (by omega)) ?_
            refine go_iadd dX11_order_230 ?_
            refine go_aload_n dX11_order_231 rfl ?_
            refine gs_gr dX11_order_232 flX11_113 (gg_47 b) rfl ?_
            refine go_bipush (v := nI 9) dX11_order_235 (by decide) ?_
            refine go_iload dX11_order_237 rfl ?_
            refine go_imulN dX11_order_239 ?_
            refine go_iload dX11_order_240 rfl ?_
            refine go_iaddN dX11_order_242 ?_
            refine gs_iald (_) dX11_order_243 (gg_79 b) (rfl) (by omega) rfl (rfl) ?_
            refine go_icmp_ne 252 dX11_order_244 (by decide) (fun c244 => ?_) (fun c244 => ?_)
            · refine go_iload dX11_order_252 rfl ?_
              refine go_istore (lv' := [_, _, _, _, _, _, _, _, _]) dX11_order_254 rfl rfl rfl ?_
              refine go_iinc (lv' := [_, _, _, _, _, _, _, _, _]) dX11_order_256 rfl (pI_dec k) rfl rfl rfl ?_
              refine go_goto 161 dX11_order_259 (by decide) ?_
              exact go_wk (by exact ⟨rfl, rfl, rfl, rfl, rfl, rfl, rfl, rfl, trivial⟩) (ih (by omega) o (NX_f H (by rw [hcd]; simp [c244])))
            · refine go_iload dX11_order_247 rfl ?_
              refine go_goto 254 dX11_order_249 (by decide) ?_
              refine go_istore (lv' := [_, _, _, _, _, _, _, _, _]) dX11_order_254 rfl rfl rfl ?_
              refine go_iinc (lv' := [_, _, _, _, _, _, _, _, _]) dX11_order_256 rfl (pI_dec k) rfl rfl rfl ?_
              refine go_goto 161 dX11_order_259 (by decide) ?_
              exact go_wk (by exact ⟨rfl, rfl, rfl, rfl, rfl, rfl, rfl, rfl, trivial⟩) (ih (by omega) (some k) (NX_t H (by omega) (by rw [hcd, c185, decide_eq_true c174, decide_eq_false c212, decide_eq_true c244]; rfl)))
theorem ord_lp (κ : gm_K) (b : Bool) (σ : wg_S) (m : Nat) (hm : m ≤ 9) (hM : σ 47 11 = nI m) (K : Nat → Nat → Int32) (Y : Nat → Bool) (L : Nat → Int32) (hL : LR L K Y m) (hY : ∀ s, s < m → σ 77 s = bi (Y s)) (hK : ∀ x y, x < m → y < m → σ 78 (9 * x + y) = K x y) (h79 : σ 79 = L) (z1 z2 z3 : Int32) (u0 f : Nat) (Φ : Option Value → gm_H → Prop)
    (fin : ∀ τ l, onl L K Y m u0 f l 0 ((f :: l).getD l.length 0) → l.length ≤ 8 → OW τ f l → OFr τ σ → Φ (some (.int z3)) (wd (gg b) τ)) :
    ∀ c, ∀ u x l τ, popc u = c → u < 2 ^ m → x < m → l.length + 1 + c ≤ 9 → ¬ L (9 * u + x) < 0 → onl L K Y m u0 f l u x → OW τ f l → OFr τ σ → (∀ p, p = 77 ∨ p = 78 ∨ p = 79 → τ p = σ p) →
      Go κ mX11_order 132 [some (.ref 47), some (.int z1), some (.int z2), some (.int z3), some (.int (nI u)), none, none, none, none] [] (wd (gg b) τ) (0, 0) Φ := by
    have h9 := p2_9 m hm
    intro c
    induction c with
    | zero =>
      intro u x l τ hp hu hx hc hl ho hw hf hs
      have hu0 : u = 0 := by
        by_cases h : u = 0
        · exact h
        · obtain ⟨i, h1, h2⟩ := cnd_ex h (hL u x hu hx) hl
          have h3 := popc_d u (by omega) i (by omega) (cnd_i h2).1
          omega
      subst hu0
      have hxy : (f :: l).getD l.length 0 = x := by
        have e1 := OW_l hw ho rfl
        have e2 := hw.2 l.length (by omega)
        have key : ∀ (l : List Nat) (u x v y : Nat), onl L K Y m u x l v y → (x :: l).getD l.length 0 = y := by
          intro l
          induction l with
          | nil => intro u x v y h; obtain ⟨-, rfl⟩ := h; rfl
          | cons k l ih => intro u x v y h; exact ih _ _ _ _ h.2
        exact key l u0 f 0 x ho
      have hfin := fin τ l (by rw [hxy]; exact ho) (by omega) hw hf
      refine go_iload dX11_order_132 rfl ?_
      refine go_if_eq 297 dX11_order_134 (by decide) (fun _ => ?_) (fun z => absurd z (by decide))
      refine go_iload_n dX11_order_297 rfl ?_
      refine go_iret dX11_order_298 rfl rfl ?_
      exact hfin
    | succ c ih =>
      intro u x l τ hp hu hx hc hl ho hw hf hs
      have hu0 : ¬ u = 0 := by rintro rfl; rw [show popc 0 = 0 from rfl] at hp; omega
      obtain ⟨i, h1, h2⟩ := cnd_ex hu0 (hL u x hu hx) hl
      have e79 : τ 79 = L := (hs 79 (Or.inr (Or.inr rfl))).trans h79
      have hM' : τ 47 11 = nI m := (hf.2 11 (by decide)).trans hM
      have h80 := OW_l hw ho rfl
      have hO := hw.1
      have nx := ord_nx κ b τ m hm hM' K Y (fun s h => by rw [hs 77 (Or.inl rfl)]; exact hY s h) (fun p q h1 h2 => by rw [hs 78 (Or.inr (Or.inl rfl))]; exact hK p q h1 h2) u x (by omega) hx z1 z2 z3 Φ (fun o H => ?_)
      · refine go_iload dX11_order_132 rfl ?_
        refine go_if_eqN 297 dX11_order_134 (by decide) (by omega) (fun c134 => ?_) (fun c134 => ?_)
        · exact absurd c134 hu0
        · refine go_aload_n dX11_order_137 rfl ?_
          refine gs_gr dX11_order_138 flX11_116 (gg_47 b) rfl ?_
          refine go_aload_n dX11_order_141 rfl ?_
          refine gs_gi dX11_order_142 flX11_296 (gg_47 b) rfl (hO) ?_
          refine go_iconst (v := nI 1) dX11_order_145 (by decide) ?_
          refine go_isubN dX11_order_146 (by omega) ?_
          refine gs_iald (_) dX11_order_147 (gg_80 b) (rfl) (by omega) rfl (h80) ?_
          refine go_istore (lv' := [_, _, _, _, _, _, _, _, _]) dX11_order_148 rfl rfl rfl ?_
          refine go_iconst (v := -1) dX11_order_150 (by decide) ?_
          refine go_istore (lv' := [_, _, _, _, _, _, _, _, _]) dX11_order_151 rfl rfl rfl ?_
          refine go_aload_n dX11_order_153 rfl ?_
          refine gs_gi dX11_order_154 flX11_137 (gg_47 b) rfl (hM') ?_
          refine go_iconst (v := nI 1) dX11_order_157 (by decide) ?_
          refine go_isub dX11_order_158 ?_
          refine go_topI (nI_pI m) ?_
          refine go_istore (lv' := [_, _, _, _, _, _, _, _, _]) dX11_order_159 rfl rfl rfl ?_
          refine go_wk (by exact ⟨rfl, rfl, rfl, rfl, rfl, rfl, rfl, rfl, trivial⟩) (nx m (Nat.le_refl _) none (fun i h1 h2 => absurd h1 (by omega)))
      · rw [e79] at H
        cases o with
        | none => rw [H i (Nat.zero_le _) h1] at h2; cases h2
        | some y =>
          obtain ⟨-, hy, hcy, hlt⟩ := H
          obtain ⟨hb, hlb⟩ := cnd_i hcy
          have hpd := popc_d u (by omega) y (by omega) hb
          have hsub := Nat.sub_le u (2 ^ y)
          rw [show oI (some y) = nI y from rfl]
          have hW := OW_s hw y
          have hF : OFr (us (us τ 80 (l.length + 1) (nI y)) 47 43 (nI (l.length + 1 + 1))) σ := ⟨fun p h1 h2 => by rw [us_p h1, us_p (by omega)]; exact hf.1 p h1 h2, fun k hk => by rw [us_k hk, us_p (by decide)]; exact hf.2 k hk⟩
          have hS : ∀ p, p = 77 ∨ p = 78 ∨ p = 79 → us (us τ 80 (l.length + 1) (nI y)) 47 43 (nI (l.length + 1 + 1)) p = σ p := fun p hp => by rw [us_p (by omega), us_p (by omega)]; exact hs p hp
          have ih' := ih (u - 2 ^ y) y (l ++ [y]) _ (by omega) (by omega) hy (by simp; omega) hlb (onl_app ho ⟨hy, hcy, fun i hi => hlt i (Nat.zero_le _) hi⟩) hW hF hS
          refine go_iload dX11_order_262 rfl ?_
          refine go_iconst (v := nI 1) dX11_order_264 (by decide) ?_
          refine go_iload dX11_order_265 rfl ?_
          refine go_ishl dX11_order_267 ?_
          refine go_iconst (v := -1) dX11_order_268 (by decide) ?_
          refine go_ixor dX11_order_269 ?_
          refine go_iand dX11_order_270 ?_
          refine go_topI (nI_clr (by omega) (by omega) hb) ?_
          refine go_istore (lv' := [_, _, _, _, _, _, _, _, _]) dX11_order_271 rfl rfl rfl ?_
          refine go_aload_n dX11_order_273 rfl ?_
          refine gs_gr dX11_order_274 flX11_116 (gg_47 b) rfl ?_
          refine go_aload_n dX11_order_277 rfl ?_
          refine gs_gi dX11_order_278 flX11_296 (gg_47 b) rfl (hO) ?_
          refine go_iload dX11_order_281 rfl ?_
          refine gs_iast (_) dX11_order_283 (gg_80 b) (rfl) (by omega) rfl ?_
          refine go_aload_n dX11_order_284 rfl ?_
          refine go_dup dX11_order_285 rfl ?_
          refine gs_gi dX11_order_286 flX11_296 (gg_47 b) rfl (show _ = nI (l.length + 1) by rw [us_p (by decide)]; exact hO) ?_
          refine go_iconst (v := nI 1) dX11_order_289 (by decide) ?_
          refine go_iaddN dX11_order_290 ?_
          refine gs_pi dX11_order_291 flX11_296 (gg_47 b) rfl (fun q hq => by cases hq; exact ⟨rfl, rfl⟩) ?_
          refine go_goto 132 dX11_order_294 (by decide) ?_
          exact go_wk (by exact ⟨rfl, rfl, rfl, rfl, rfl, trivial⟩) ih'
theorem cX11_order_ok (κ : gm_K) (b : Bool) (σ : wg_S) (n m j r : Nat) (C : MI σ n m j r) (set : Int32) : FeI κ mX11_order [.ref 47, .int set] (gg b) σ (OQ σ n m j r set) := by
  refine go_start (by decide) (Nat.le_of_ble_eq_true rfl) ?_
  obtain ⟨⟨hN, hn⟩, ⟨hM, hm⟩, ⟨hJ, hj⟩, ⟨hR, hr⟩, hT, hX⟩ := id C
  have h9 := p2_9 m hm
  refine go_iload_n dX11_order_0 rfl ?_
  refine go_if_le 14 dX11_order_1 (by decide) (fun c1 => ?_) (fun c1 => ?_)
  · refine go_bipush (v := -2) dX11_order_14 (by decide) ?_
    refine go_iret dX11_order_16 rfl rfl ?_
    exact ⟨_, σ, rfl, rfl, by rw [OQ, if_pos (Or.inl c1)]; exact ⟨rfl, rfl⟩⟩
  · refine go_iload_n dX11_order_4 rfl ?_
    refine go_iconst (v := nI 1) dX11_order_5 (by decide) ?_
    refine go_aload_n dX11_order_6 rfl ?_
    refine gs_gi dX11_order_7 flX11_137 (gg_47 b) rfl (hM) ?_
    refine go_ishl dX11_order_10 ?_
    refine go_topI (shl1 m (by omega)) ?_
    refine go_icmp_lt 17 dX11_order_11 (by decide) (fun c11 => ?_) (fun c11 => ?_)
    · refine go_aload_n dX11_order_17 rfl ?_
      have hu : ∃ u, 0 < u ∧ u < 2 ^ m ∧ set = nI u := by
        rcases pk_ix set (n := 2 ^ m) (by omega) with h | h | h
        · exact absurd (Int32.le_of_lt h) c1
        · exact absurd c11 (Int32.not_lt.mpr h)
        · obtain ⟨u, h1, rfl⟩ := h
          refine ⟨u, ?_, h1, rfl⟩
          rcases Nat.eq_zero_or_pos u with rfl | h2
          · exact absurd (by decide) c1
          · exact h2
      obtain ⟨u, hu0, hu1, rfl⟩ := hu
      have hQ : ∀ x τ, (∃ L, LR L (ccs σ n j r) (fun s => yng σ j r s n) m ∧ match ofs L u m with | (none, _) => x = -3 ∧ SF τ σ | (some f, s) => x = s ∧ ∃ l, onl L (ccs σ n j r) (fun s => yng σ j r s n) m (u - 2 ^ f) f l 0 ((f :: l).getD l.length 0) ∧ l.length ≤ 8 ∧ OW τ f l ∧ OFr τ σ) → OQ σ n m j r (nI u) x τ := by
        rintro x τ ⟨L, h1, h2⟩
        rw [OQ, if_neg (by rintro (h | h); exact c1 h; exact absurd c11 (Int32.not_lt.mpr h))]
        exact ⟨u, L, rfl, hu0, hu1, h1, h2⟩
      refine gs_callVe dX11_order_18 cvX11_order_287 (cX11_ask_ok κ b σ n m j r C) rfl (gg_47 b) rfl rfl rfl ⟨rfl, rfl⟩ rfl (fun τ H => ?_)
      have hM' : τ 47 11 = nI m := sf_n H.1 hM
      refine go_aload_n dX11_order_21 rfl ?_
      skip
      refine gs_callVe dX11_order_22 cvX11_order_293 (cX11_findLeast_ok κ b τ m hm hM' (ccs σ n j r) (fun s => yng σ j r s n) H.2.1 H.2.2) rfl (gg_47 b) rfl rfl rfl ⟨rfl, rfl⟩ rfl (fun υ F => ?_)
      have hM2 : υ 47 11 = nI m := by rw [F.1 47 (by decide)]; exact hM'
      have hSF : SF υ σ := fun p hp => by rw [F.1 p (by omega)]; exact H.1 p hp
      have hLR : LR (υ 79) (ccs σ n j r) (fun s => yng σ j r s n) m := F.2
      refine go_iconst (v := -1) dX11_order_25 (by decide) ?_
      refine go_istore_n (lv' := [_, _, _, _, _, _, _, _, _]) dX11_order_26 rfl rfl rfl ?_
      refine go_iconst (v := -1) dX11_order_27 (by decide) ?_
      refine go_istore_n (lv' := [_, _, _, _, _, _, _, _, _]) dX11_order_28 rfl rfl rfl ?_
      refine go_iconst (v := nI 0) dX11_order_29 (by decide) ?_
      refine go_istore (lv' := [_, _, _, _, _, _, _, _, _]) dX11_order_30 rfl rfl rfl ?_
      refine go_wk (by exact ⟨rfl, rfl, rfl, rfl, rfl, trivial⟩) (?_ : Go κ mX11_order 32 [some (.ref 47), some (.int (nI u)), some (.int (oI (ofs (υ 79) u 0).1)), some (.int (ofs (υ 79) u 0).2), some (.int (nI 0)), none, none, none, none] [] (wd (gg b) υ) (0, 0) _)
      refine lo_up m (P := fun i => Go κ mX11_order 32 [some (.ref 47), some (.int (nI u)), some (.int (oI (ofs (υ 79) u i).1)), some (.int (ofs (υ 79) u i).2), some (.int (nI i)), none, none, none, none] [] (wd (gg b) υ) (0, 0) _) (fun i hi ih => ?_) 0 (Nat.zero_le _)
      have hs' := ofs_s (υ 79) u i
      have jn : i < m → Go κ mX11_order 74 [some (.ref 47), some (.int (nI u)), some (.int (oI (ofs (υ 79) u i).1)), some (.int (ofs (υ 79) u i).2), some (.int (nI i)), none, none, none, none] [.int (ofn (υ 79) u i)] (wd (gg b) υ) (0, 0) (fun z h' => ∃ x τ, z = some (.int x) ∧ h' = wd (gg b) τ ∧ OQ σ n m j r (nI u) x τ) := by
        intro hlt
        refine go_istore (lv' := [_, _, _, _, _, _, _, _, _]) dX11_order_74 rfl rfl rfl ?_
        refine go_iload dX11_order_76 rfl ?_
        refine go_if_lt 97 dX11_order_78 (by decide) (fun c78 => ?_) (fun c78 => ?_)
        · refine go_iincN (lv' := [_, _, _, _, _, _, _, _, _]) 1 dX11_order_97 (by decide) rfl rfl rfl rfl ?_
          refine go_goto 32 dX11_order_100 (by decide) ?_
          exact go_wk (by rw [hs', if_pos c78]; exact ⟨rfl, rfl, rfl, rfl, rfl, trivial⟩) (ih hlt)
        · refine go_iload_n dX11_order_81 rfl ?_
          refine go_if_lt 91 dX11_order_82 (by decide) (fun c82 => ?_) (fun c82 => ?_)
          · refine go_iload dX11_order_91 rfl ?_
            refine go_istore_n (lv' := [_, _, _, _, _, _, _, _, _]) dX11_order_93 rfl rfl rfl ?_
            refine go_iload dX11_order_94 rfl ?_
            refine go_istore_n (lv' := [_, _, _, _, _, _, _, _, _]) dX11_order_96 rfl rfl rfl ?_
            refine go_iincN (lv' := [_, _, _, _, _, _, _, _, _]) 1 dX11_order_97 (by decide) rfl rfl rfl rfl ?_
            refine go_goto 32 dX11_order_100 (by decide) ?_
            exact go_wk (by rw [hs', if_neg c78, if_pos c82]; exact ⟨rfl, rfl, rfl, rfl, rfl, trivial⟩) (ih hlt)
          · refine go_iload dX11_order_85 rfl ?_
            refine go_iload_n dX11_order_87 rfl ?_
            refine go_icmp_ge 97 dX11_order_88 (by decide) (fun c88 => ?_) (fun c88 => ?_)
            · refine go_iincN (lv' := [_, _, _, _, _, _, _, _, _]) 1 dX11_order_97 (by decide) rfl rfl rfl rfl ?_
              refine go_goto 32 dX11_order_100 (by decide) ?_
              exact go_wk (by rw [hs', if_neg c78, if_neg c82, if_pos c88]; exact ⟨rfl, rfl, rfl, rfl, rfl, trivial⟩) (ih hlt)
            · refine go_iload dX11_order_91 rfl ?_
              refine go_istore_n (lv' := [_, _, _, _, _, _, _, _, _]) dX11_order_93 rfl rfl rfl ?_
              refine go_iload dX11_order_94 rfl ?_
              refine go_istore_n (lv' := [_, _, _, _, _, _, _, _, _]) dX11_order_96 rfl rfl rfl ?_
              refine go_iincN (lv' := [_, _, _, _, _, _, _, _, _]) 1 dX11_order_97 (by decide) rfl rfl rfl rfl ?_
              refine go_goto 32 dX11_order_100 (by decide) ?_
              exact go_wk (by rw [hs', if_neg c78, if_neg c82, if_neg c88]; exact ⟨rfl, rfl, rfl, rfl, rfl, trivial⟩) (ih hlt)
      refine go_iload dX11_order_32 rfl ?_
      refine go_aload_n dX11_order_34 rfl ?_
      refine gs_gi dX11_order_35 flX11_137 (gg_47 b) rfl (hM2) ?_
      refine go_icmp_geN 103 dX11_order_38 (by decide) (by omega) (by omega) (fun c38 => ?_) (fun c38 => ?_)
      · have e : i = m := by omega
        subst e
        cases hf : (ofs (υ 79) u i).1 with
        | none =>
          rw [show oI none = -1 from rfl]
          refine go_iload_n dX11_order_103 rfl ?_
          refine go_iconst (v := -1) dX11_order_104 (by decide) ?_
          refine go_icmp_ne 111 dX11_order_105 (by decide) (fun z => absurd z (by decide)) (fun _ => ?_)
          refine go_bipush (v := -3) dX11_order_108 (by decide) ?_
          refine go_iret dX11_order_110 rfl rfl ?_
          refine ⟨_, υ, rfl, rfl, hQ _ _ ⟨υ 79, hLR, ?_⟩⟩
          rw [show ofs (υ 79) u i = (none, (ofs (υ 79) u i).2) from Prod.ext hf rfl]
          exact ⟨rfl, hSF⟩
        | some f =>
          obtain ⟨hf1, hf2, hf3, hf4⟩ := ofs_i (υ 79) u i f hf
          have hsub := Nat.sub_le u (2 ^ f)
          have hlb : ¬ υ 79 (9 * (u - 2 ^ f) + f) < 0 := by rw [← hf3]; exact hf4
          rw [show oI (some f) = nI f from rfl]
          have go : Go κ mX11_order 132 [some (.ref 47), some (.int (nI u)), some (.int (nI f)), some (.int (ofs (υ 79) u i).2), some (.int (nI (u - 2 ^ f))), none, none, none, none] [] (wd (gg b) (us (us υ 80 0 (nI f)) 47 43 (nI 1))) (0, 0) (fun z h' => ∃ x τ, z = some (.int x) ∧ h' = wd (gg b) τ ∧ OQ σ n i j r (nI u) x τ) := by
            have hF : OFr (us (us υ 80 0 (nI f)) 47 43 (nI 1)) υ := ⟨fun p h1 h2 => by rw [us_p h1, us_p (by omega)], fun k hk => by rw [us_k hk, us_p (by decide)]⟩
            refine ord_lp κ b υ i hm hM2 (ccs σ n j r) (fun s => yng σ j r s n) (υ 79) hLR (fun s h => by rw [F.1 77 (by decide)]; exact H.2.1 s h) (fun p q h1 h2 => by rw [F.1 78 (by decide)]; exact H.2.2 p q h1 h2) rfl (nI u) (nI f) _ (u - 2 ^ f) f _ (fun τ l g1 g2 g3 g4 => ?_) (popc (u - 2 ^ f)) (u - 2 ^ f) f [] _ rfl (by omega) hf1 (by have := popc_9 u; have := popc_d u (by omega) f (by omega) hf2; simp; omega) hlb ⟨rfl, rfl⟩ ⟨by rw [us_s]; rfl, fun k hk => ?_⟩ hF (fun p hp => by rw [us_p (by omega), us_p (by omega)])
            · refine ⟨_, τ, rfl, rfl, hQ _ _ ⟨υ 79, hLR, ?_⟩⟩
              rw [show ofs (υ 79) u i = (some f, (ofs (υ 79) u i).2) from Prod.ext hf rfl]
              exact ⟨rfl, l, g1, g2, g3, fun p h1 h2 => by rw [g4.1 p h1 h2]; exact hSF p (by omega), fun k hk => by rw [g4.2 k hk]; rw [hSF 47 (by decide)]⟩
            · have e : k = 0 := by simp at hk; omega
              subst e
              rw [us_p (by decide), us_s]; rfl
          refine go_iload_n dX11_order_103 rfl ?_
          refine go_iconst (v := -1) dX11_order_104 (by decide) ?_
          refine go_icmp_ne 111 dX11_order_105 (by decide) (fun c105 => ?_) (fun c105 => ?_)
          · refine go_iload_n dX11_order_111 rfl ?_
            refine go_iconst (v := nI 1) dX11_order_112 (by decide) ?_
            refine go_iload_n dX11_order_113 rfl ?_
            refine go_ishl dX11_order_114 ?_
            refine go_iconst (v := -1) dX11_order_115 (by decide) ?_
            refine go_ixor dX11_order_116 ?_
            refine go_iand dX11_order_117 ?_
            refine go_topI (nI_clr (by omega) (by omega) hf2) ?_
            refine go_istore (lv' := [_, _, _, _, _, _, _, _, _]) dX11_order_118 rfl rfl rfl ?_
            refine go_aload_n dX11_order_120 rfl ?_
            refine gs_gr dX11_order_121 flX11_116 (gg_47 b) rfl ?_
            refine go_iconst (v := nI 0) dX11_order_124 (by decide) ?_
            refine go_iload_n dX11_order_125 rfl ?_
            refine gs_iast (_) dX11_order_126 (gg_80 b) (rfl) (by omega) rfl ?_
            refine go_aload_n dX11_order_127 rfl ?_
            refine go_iconst (v := nI 1) dX11_order_128 (by decide) ?_
            refine gs_pi dX11_order_129 flX11_296 (gg_47 b) rfl (fun q hq => by cases hq; exact ⟨rfl, rfl⟩) ?_
            exact go
          · exact absurd c105 (nI_m1 (by omega))
      · refine go_iload_n dX11_order_41 rfl ?_
        refine go_iload dX11_order_42 rfl ?_
        refine go_ishr dX11_order_44 ?_
        refine go_iconst (v := nI 1) dX11_order_45 (by decide) ?_
        refine go_iand dX11_order_46 ?_
        refine go_topI (bv_nI (by omega) (by omega)) ?_
        refine go_iconst (v := nI 1) dX11_order_47 (by decide) ?_
        refine go_icmp_neN 73 dX11_order_48 (by decide) (by omega) (by omega) (fun c48 => ?_) (fun c48 => ?_)
        · refine go_iconst (v := -1) dX11_order_73 (by decide) ?_
          exact go_topI (show _ = ofn (υ 79) u i by rw [ofn, if_neg c48]) (jn c38)
        · refine go_aload_n dX11_order_51 rfl ?_
          refine gs_gr dX11_order_52 flX11_113 (gg_47 b) rfl ?_
          refine go_bipush (v := nI 9) dX11_order_55 (by decide) ?_
          refine go_iload_n dX11_order_57 rfl ?_
          refine go_iconst (v := nI 1) dX11_order_58 (by decide) ?_
          refine go_iload dX11_order_59 rfl ?_
          refine go_ishl dX11_order_61 ?_
          refine go_iconst (v := -1) dX11_order_62 (by decide) ?_
          refine go_ixor dX11_order_63 ?_
          refine go_iand dX11_order_64 ?_
          refine go_topI (nI_clr (by omega) (by omega) c48) ?_
          refine go_imulN dX11_order_65 ?_
          refine go_iload dX11_order_66 rfl ?_
          refine go_iaddN dX11_order_68 ?_
          refine gs_iald (_) dX11_order_69 (gg_79 b) (rfl) (by have := Nat.sub_le u (2 ^ i); omega) rfl (rfl) ?_
          refine go_goto 74 dX11_order_70 (by decide) ?_
          exact go_topI (show _ = ofn (υ 79) u i by rw [ofn, if_pos c48]) (jn c38)
    · refine go_bipush (v := -2) dX11_order_14 (by decide) ?_
      refine go_iret dX11_order_16 rfl rfl ?_
      exact ⟨_, σ, rfl, rfl, by rw [OQ, if_pos (Or.inr (Int32.not_lt.mp c11))]; exact ⟨rfl, rfl⟩⟩
def M_ordered (σ : wg_S) (i : Int32) : Int32 := if i < 0 then -1 else if σ 47 43 ≤ i then -1 else σ 80 i.toNatClampNeg
theorem cX11_ordered_ok (κ : gm_K) (b : Bool) (σ : wg_S) (kl : Nat) (hkl : σ 47 43 = nI kl ∧ kl ≤ 9) (i : Int32) : Fn κ mX11_ordered [.ref 47, .int i] (gg b) σ (some (.int (M_ordered σ i))) (gg b) σ := by
  refine go_start (by decide) (Nat.le_of_ble_eq_true rfl) ?_
  refine go_iload_n dX11_ordered_0 rfl ?_
  refine go_if_lt 21 dX11_ordered_1 (by decide) (fun c1 => ?_) (fun c1 => ?_)
  · refine go_iconst (v := -1) dX11_ordered_21 (by decide) ?_
    refine go_iret dX11_ordered_22 rfl rfl ?_
    exact ⟨by simp +decide [c1, M_ordered], rfl⟩
  · refine go_iload_n dX11_ordered_4 rfl ?_
    refine go_aload_n dX11_ordered_5 rfl ?_
    refine gs_gi dX11_ordered_6 flX11_296 (gg_47 b) rfl (rfl) ?_
    refine go_icmp_ge 21 dX11_ordered_9 (by decide) (fun c9 => ?_) (fun c9 => ?_)
    · refine go_iconst (v := -1) dX11_ordered_21 (by decide) ?_
      refine go_iret dX11_ordered_22 rfl rfl ?_
      exact ⟨by simp +decide [c1, c9, M_ordered], rfl⟩
    · refine go_aload_n dX11_ordered_12 rfl ?_
      refine gs_gr dX11_ordered_13 flX11_116 (gg_47 b) rfl ?_
      refine go_iload_n dX11_ordered_16 rfl ?_
      refine gs_ialdI dX11_ordered_17 (gg_80 b) (hs_in hkl.2 (by decide) (by rw [← hkl.1]; simp [hs, c1, c9])) (rfl) ?_
      refine go_goto 22 dX11_ordered_18 (by decide) ?_
      refine go_iret dX11_ordered_22 rfl rfl ?_
      exact ⟨by simp +decide [c1, c9, M_ordered], rfl⟩
