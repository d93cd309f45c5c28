def mjs (σ : wg_S) (n x y v : Nat) : wg_S := us σ 50 (4 * n + v) (σ 50 (4 * x + v) + σ 50 (4 * y + v))
def mds (σ : wg_S) (n : Nat) (s : Int32) (v : Nat) : wg_S := us σ 50 (4 * n + v) (dgt s (nI v))
def s_mce (σ : wg_S) (n : Nat) (x : Int32) : wg_S := us (us (us (us (us (us (us σ 51 n x) 52 n (nI 5)) 53 n (-1)) 54 n (-1)) 55 n (-1)) 56 n (-1)) 47 0 (nI (n + 1))
def s_mjo (σ : wg_S) (n p q : Nat) (x : Int32) : wg_S := s_mce (mjs (mjs (mjs (mjs (us (us σ 48 n (nI 5)) 49 n (us σ 48 n (nI 5) 49 p)) n p q 0) n p q 1) n p q 2) n p q 3) n x
def s_mad (σ : wg_S) (n : Nat) (k t s x : Int32) : wg_S := s_mce (mds (mds (mds (mds (us (us σ 48 n k) 49 n t) n s 0) n s 1) n s 2) n s 3) n x
def rm16 (x : Int32) : Int32 := x - x / nI 16 * nI 16
def M_choir (σ : wg_S) (n : Nat) (k t s x : Int32) : Int32 × wg_S :=
  if hs (nI 8) t = false then (-1, σ) else if k = nI 5 ∧ (x < 0 ∨ hs (σ 47 0) (x / nI 16) = false ∨ hs (σ 47 0) (rm16 x) = false) then (-1, σ)
  else if wi k (nI 0) (nI 5) = false then (-2, σ) else if msu k s x = false then (-2, σ)
  else if k = nI 5 ∧ (x / nI 16 = rm16 x ∨ σ 48 (x / nI 16).toNatClampNeg = nI 5 ∨ σ 48 (rm16 x).toNatClampNeg = nI 5) then (-2, σ)
  else if σ 47 0 = nI 16 then (-4, σ)
  else if k = nI 5 then (nI n, s_mjo σ n (x / nI 16).toNatClampNeg (rm16 x).toNatClampNeg x) else (nI n, s_mad σ n k t s x)
theorem mch_j (κ : gm_K) (b : Bool) (σ : wg_S) (n : Nat) (hn : n < 16) (hN : σ 47 0 = nI n) (k t s x : Int32) (hk : k = nI 5) (p q : Nat) (hp : p < n) (hq : q < n) :
    Go κ mX11_choir 122 [some (.ref 47), some (.int k), some (.int t), some (.int s), some (.int x), some (.int (nI p)), some (.int (nI q)), none] [] (wd (gg b) σ) (0, 0) (fun z h' => z = some (.int (nI n)) ∧ h' = wd (gg b) (s_mjo σ n p q x)) := by
    subst hk
    have hk : nI 5 = nI 5 := rfl
    refine go_aload_n dX11_choir_122 rfl ?_
    refine gs_gr dX11_choir_123 flX11_7 (gg_47 b) rfl ?_
    refine go_aload_n dX11_choir_126 rfl ?_
    refine gs_gi dX11_choir_127 flX11_134 (gg_47 b) rfl (show _ = nI n by first | exact hN | (simpa [us] using hN)) ?_
    refine go_iload_n dX11_choir_130 rfl ?_
    refine gs_iast (_) dX11_choir_131 (gg_48 b) (rfl) (by omega) rfl ?_
    refine go_aload_n dX11_choir_132 rfl ?_
    refine gs_gr dX11_choir_133 flX11_13 (gg_47 b) rfl ?_
    refine go_aload_n dX11_choir_136 rfl ?_
    refine gs_gi dX11_choir_137 flX11_134 (gg_47 b) rfl (show _ = nI n by first | exact hN | (simpa [us] using hN)) ?_
    refine go_iload_n dX11_choir_140 rfl ?_
    refine go_iconst (v := nI 5) dX11_choir_141 (by decide) ?_
    refine go_icmp_ne 155 dX11_choir_142 (by decide) (fun c142 => ?_) (fun c142 => ?_)
    · exact absurd hk c142
    · refine go_aload_n dX11_choir_145 rfl ?_
      refine gs_gr dX11_choir_146 flX11_13 (gg_47 b) rfl ?_
      refine go_iload dX11_choir_149 rfl ?_
      refine gs_iald (_) dX11_choir_151 (gg_49 b) (rfl) (by omega) rfl (rfl) ?_
      refine go_goto 156 dX11_choir_152 (by decide) ?_
      refine gs_iast (_) dX11_choir_156 (gg_49 b) (rfl) (by omega) rfl ?_
      refine go_iconst (v := nI 0) dX11_choir_157 (by decide) ?_
      refine go_istore (lv' := [_, _, _, _, _, _, _, _]) dX11_choir_158 rfl rfl rfl ?_
      refine go_iload dX11_choir_160 rfl ?_
      refine go_iconst (v := nI 4) dX11_choir_162 (by decide) ?_
      refine go_icmp_ge 225 dX11_choir_163 (by decide) (fun z => absurd z (by decide)) (fun _ => ?_)
      refine go_aload_n dX11_choir_166 rfl ?_
      refine gs_gr dX11_choir_167 flX11_16 (gg_47 b) rfl ?_
      refine go_iconst (v := nI 4) dX11_choir_170 (by decide) ?_
      refine go_aload_n dX11_choir_171 rfl ?_
      refine gs_gi dX11_choir_172 flX11_134 (gg_47 b) rfl (show _ = nI n by first | exact hN | (simpa [us] using hN)) ?_
      refine go_imulN dX11_choir_175 ?_
      refine go_iload dX11_choir_176 rfl ?_
      refine go_iaddN dX11_choir_178 ?_
      refine go_iload_n dX11_choir_179 rfl ?_
      refine go_iconst (v := nI 5) dX11_choir_180 (by decide) ?_
      refine go_icmp_ne 212 dX11_choir_181 (by decide) (fun c181 => ?_) (fun c181 => ?_)
      · exact absurd hk c181
      · refine go_aload_n dX11_choir_184 rfl ?_
        refine gs_gr dX11_choir_185 flX11_16 (gg_47 b) rfl ?_
        refine go_iconst (v := nI 4) dX11_choir_188 (by decide) ?_
        refine go_iload dX11_choir_189 rfl ?_
        refine go_imulN dX11_choir_191 ?_
        refine go_iload dX11_choir_192 rfl ?_
        refine go_iaddN dX11_choir_194 ?_
        refine gs_iald (_) dX11_choir_195 (gg_50 b) (rfl) (by omega) rfl (rfl) ?_
        refine go_aload_n dX11_choir_196 rfl ?_
        refine gs_gr dX11_choir_197 flX11_16 (gg_47 b) rfl ?_
        refine go_iconst (v := nI 4) dX11_choir_200 (by decide) ?_
        refine go_iload dX11_choir_201 rfl ?_
        refine go_imulN dX11_choir_203 ?_
        refine go_iload dX11_choir_204 rfl ?_
        refine go_iaddN dX11_choir_206 ?_
        refine gs_iald (_) dX11_choir_207 (gg_50 b) (rfl) (by omega) rfl (rfl) ?_
        refine go_iadd dX11_choir_208 ?_
        refine go_goto 218 dX11_choir_209 (by decide) ?_
        refine gs_iast (_) dX11_choir_218 (gg_50 b) (rfl) (by omega) rfl ?_
        refine go_iinc (v := nI 1) (lv' := [_, _, _, _, _, _, _, _]) dX11_choir_219 rfl (by decide) rfl rfl rfl ?_
        refine go_goto 160 dX11_choir_222 (by decide) ?_
        refine go_iload dX11_choir_160 rfl ?_
        refine go_iconst (v := nI 4) dX11_choir_162 (by decide) ?_
        refine go_icmp_ge 225 dX11_choir_163 (by decide) (fun z => absurd z (by decide)) (fun _ => ?_)
        refine go_aload_n dX11_choir_166 rfl ?_
        refine gs_gr dX11_choir_167 flX11_16 (gg_47 b) rfl ?_
        refine go_iconst (v := nI 4) dX11_choir_170 (by decide) ?_
        refine go_aload_n dX11_choir_171 rfl ?_
        refine gs_gi dX11_choir_172 flX11_134 (gg_47 b) rfl (show _ = nI n by first | exact hN | (simpa [us] using hN)) ?_
        refine go_imulN dX11_choir_175 ?_
        refine go_iload dX11_choir_176 rfl ?_
        refine go_iaddN dX11_choir_178 ?_
        refine go_iload_n dX11_choir_179 rfl ?_
        refine go_iconst (v := nI 5) dX11_choir_180 (by decide) ?_
        refine go_icmp_ne 212 dX11_choir_181 (by decide) (fun c181 => ?_) (fun c181 => ?_)
        · exact absurd hk c181
        · refine go_aload_n dX11_choir_184 rfl ?_
          refine gs_gr dX11_choir_185 flX11_16 (gg_47 b) rfl ?_
          refine go_iconst (v := nI 4) dX11_choir_188 (by decide) ?_
          refine go_iload dX11_choir_189 rfl ?_
          refine go_imulN dX11_choir_191 ?_
          refine go_iload dX11_choir_192 rfl ?_
          refine go_iaddN dX11_choir_194 ?_
          refine gs_iald (_) dX11_choir_195 (gg_50 b) (rfl) (by omega) rfl (rfl) ?_
          refine go_aload_n dX11_choir_196 rfl ?_
          refine gs_gr dX11_choir_197 flX11_16 (gg_47 b) rfl ?_
          refine go_iconst (v := nI 4) dX11_choir_200 (by decide) ?_
          refine go_iload dX11_choir_201 rfl ?_
          refine go_imulN dX11_choir_203 ?_
          refine go_iload dX11_choir_204 rfl ?_
          refine go_iaddN dX11_choir_206 ?_
          refine gs_iald (_) dX11_choir_207 (gg_50 b) (rfl) (by omega) rfl (rfl) ?_
          refine go_iadd dX11_choir_208 ?_
          refine go_goto 218 dX11_choir_209 (by decide) ?_
          refine gs_iast (_) dX11_choir_218 (gg_50 b) (rfl) (by omega) rfl ?_
          refine go_iinc (v := nI 2) (lv' := [_, _, _, _, _, _, _, _]) dX11_choir_219 rfl (by decide) rfl rfl rfl ?_
          refine go_goto 160 dX11_choir_222 (by decide) ?_
          refine go_iload dX11_choir_160 rfl ?_
          refine go_iconst (v := nI 4) dX11_choir_162 (by decide) ?_
          refine go_icmp_ge 225 dX11_choir_163 (by decide) (fun z => absurd z (by decide)) (fun _ => ?_)
          refine go_aload_n dX11_choir_166 rfl ?_
          refine gs_gr dX11_choir_167 flX11_16 (gg_47 b) rfl ?_
          refine go_iconst (v := nI 4) dX11_choir_170 (by decide) ?_
          refine go_aload_n dX11_choir_171 rfl ?_
          refine gs_gi dX11_choir_172 flX11_134 (gg_47 b) rfl (show _ = nI n by first | exact hN | (simpa [us] using hN)) ?_
          refine go_imulN dX11_choir_175 ?_
          refine go_iload dX11_choir_176 rfl ?_
          refine go_iaddN dX11_choir_178 ?_
          refine go_iload_n dX11_choir_179 rfl ?_
          refine go_iconst (v := nI 5) dX11_choir_180 (by decide) ?_
          refine go_icmp_ne 212 dX11_choir_181 (by decide) (fun c181 => ?_) (fun c181 => ?_)
          · exact absurd hk c181
          · refine go_aload_n dX11_choir_184 rfl ?_
            refine gs_gr dX11_choir_185 flX11_16 (gg_47 b) rfl ?_
            refine go_iconst (v := nI 4) dX11_choir_188 (by decide) ?_
            refine go_iload dX11_choir_189 rfl ?_
            refine go_imulN dX11_choir_191 ?_
            refine go_iload dX11_choir_192 rfl ?_
            refine go_iaddN dX11_choir_194 ?_
            refine gs_iald (_) dX11_choir_195 (gg_50 b) (rfl) (by omega) rfl (rfl) ?_
            refine go_aload_n dX11_choir_196 rfl ?_
            refine gs_gr dX11_choir_197 flX11_16 (gg_47 b) rfl ?_
            refine go_iconst (v := nI 4) dX11_choir_200 (by decide) ?_
            refine go_iload dX11_choir_201 rfl ?_
            refine go_imulN dX11_choir_203 ?_
            refine go_iload dX11_choir_204 rfl ?_
            refine go_iaddN dX11_choir_206 ?_
            refine gs_iald (_) dX11_choir_207 (gg_50 b) (rfl) (by omega) rfl (rfl) ?_
            refine go_iadd dX11_choir_208 ?_
            refine go_goto 218 dX11_choir_209 (by decide) ?_
            refine gs_iast (_) dX11_choir_218 (gg_50 b) (rfl) (by omega) rfl ?_
            refine go_iinc (v := nI 3) (lv' := [_, _, _, _, _, _, _, _]) dX11_choir_219 rfl (by decide) rfl rfl rfl ?_
            refine go_goto 160 dX11_choir_222 (by decide) ?_
            refine go_iload dX11_choir_160 rfl ?_
            refine go_iconst (v := nI 4) dX11_choir_162 (by decide) ?_
            refine go_icmp_ge 225 dX11_choir_163 (by decide) (fun z => absurd z (by decide)) (fun _ => ?_)
            refine go_aload_n dX11_choir_166 rfl ?_
            refine gs_gr dX11_choir_167 flX11_16 (gg_47 b) rfl ?_
            refine go_iconst (v := nI 4) dX11_choir_170 (by decide) ?_
            refine go_aload_n dX11_choir_171 rfl ?_
            refine gs_gi dX11_choir_172 flX11_134 (gg_47 b) rfl (show _ = nI n by first | exact hN | (simpa [us] using hN)) ?_
            refine go_imulN dX11_choir_175 ?_
            refine go_iload dX11_choir_176 rfl ?_
            refine go_iaddN dX11_choir_178 ?_
            refine go_iload_n dX11_choir_179 rfl ?_
            refine go_iconst (v := nI 5) dX11_choir_180 (by decide) ?_
            refine go_icmp_ne 212 dX11_choir_181 (by decide) (fun c181 => ?_) (fun c181 => ?_)
            · exact absurd hk c181
            · refine go_aload_n dX11_choir_184 rfl ?_
              refine gs_gr dX11_choir_185 flX11_16 (gg_47 b) rfl ?_
              refine go_iconst (v := nI 4) dX11_choir_188 (by decide) ?_
              refine go_iload dX11_choir_189 rfl ?_
              refine go_imulN dX11_choir_191 ?_
              refine go_iload dX11_choir_192 rfl ?_
              refine go_iaddN dX11_choir_194 ?_
              refine gs_iald (_) dX11_choir_195 (gg_50 b) (rfl) (by omega) rfl (rfl) ?_
              refine go_aload_n dX11_choir_196 rfl ?_
              refine gs_gr dX11_choir_197 flX11_16 (gg_47 b) rfl ?_
              refine go_iconst (v := nI 4) dX11_choir_200 (by decide) ?_
              refine go_iload dX11_choir_201 rfl ?_
              refine go_imulN dX11_choir_203 ?_
              refine go_iload dX11_choir_204 rfl ?_
              refine go_iaddN dX11_choir_206 ?_
              refine gs_iald (_) dX11_choir_207 (gg_50 b) (rfl) (by omega) rfl (rfl) ?_
              refine go_iadd dX11_choir_208 ?_
              refine go_goto 218 dX11_choir_209 (by decide) ?_
              refine gs_iast (_) dX11_choir_218 (gg_50 b) (rfl) (by omega) rfl ?_
              refine go_iinc (v := nI 4) (lv' := [_, _, _, _, _, _, _, _]) dX11_choir_219 rfl (by decide) rfl rfl rfl ?_
              refine go_goto 160 dX11_choir_222 (by decide) ?_
              refine go_iload dX11_choir_160 rfl ?_
              refine go_iconst (v := nI 4) dX11_choir_162 (by decide) ?_
              refine go_icmp_ge 225 dX11_choir_163 (by decide) (fun _ => ?_) (fun z => absurd z (by decide))
              refine go_aload_n dX11_choir_225 rfl ?_
              refine gs_gr dX11_choir_226 flX11_19 (gg_47 b) rfl ?_
              refine go_aload_n dX11_choir_229 rfl ?_
              refine gs_gi dX11_choir_230 flX11_134 (gg_47 b) rfl (show _ = nI n by first | exact hN | (simpa [us] using hN)) ?_
              refine go_iload dX11_choir_233 rfl ?_
              refine gs_iast (_) dX11_choir_235 (gg_51 b) (rfl) (by omega) rfl ?_
              refine go_aload_n dX11_choir_236 rfl ?_
              refine gs_gr dX11_choir_237 flX11_22 (gg_47 b) rfl ?_
              refine go_aload_n dX11_choir_240 rfl ?_
              refine gs_gi dX11_choir_241 flX11_134 (gg_47 b) rfl (show _ = nI n by first | exact hN | (simpa [us] using hN)) ?_
              refine go_iconst (v := nI 5) dX11_choir_244 (by decide) ?_
              refine gs_iast (_) dX11_choir_245 (gg_52 b) (rfl) (by omega) rfl ?_
              refine go_aload_n dX11_choir_246 rfl ?_
              refine gs_gr dX11_choir_247 flX11_25 (gg_47 b) rfl ?_
              refine go_aload_n dX11_choir_250 rfl ?_
              refine gs_gi dX11_choir_251 flX11_134 (gg_47 b) rfl (show _ = nI n by first | exact hN | (simpa [us] using hN)) ?_
              refine go_iconst (v := -1) dX11_choir_254 (by decide) ?_
              refine gs_iast (_) dX11_choir_255 (gg_53 b) (rfl) (by omega) rfl ?_
              refine go_aload_n dX11_choir_256 rfl ?_
              refine gs_gr dX11_choir_257 flX11_28 (gg_47 b) rfl ?_
              refine go_aload_n dX11_choir_260 rfl ?_
              refine gs_gi dX11_choir_261 flX11_134 (gg_47 b) rfl (show _ = nI n by first | exact hN | (simpa [us] using hN)) ?_
              refine go_iconst (v := -1) dX11_choir_264 (by decide) ?_
              refine gs_iast (_) dX11_choir_265 (gg_54 b) (rfl) (by omega) rfl ?_
              refine go_aload_n dX11_choir_266 rfl ?_
              refine gs_gr dX11_choir_267 flX11_31 (gg_47 b) rfl ?_
              refine go_aload_n dX11_choir_270 rfl ?_
              refine gs_gi dX11_choir_271 flX11_134 (gg_47 b) rfl (show _ = nI n by first | exact hN | (simpa [us] using hN)) ?_
              refine go_iconst (v := -1) dX11_choir_274 (by decide) ?_
              refine gs_iast (_) dX11_choir_275 (gg_55 b) (rfl) (by omega) rfl ?_
              refine go_aload_n dX11_choir_276 rfl ?_
              refine gs_gr dX11_choir_277 flX11_34 (gg_47 b) rfl ?_
              refine go_aload_n dX11_choir_280 rfl ?_
              refine gs_gi dX11_choir_281 flX11_134 (gg_47 b) rfl (show _ = nI n by first | exact hN | (simpa [us] using hN)) ?_
              refine go_iconst (v := -1) dX11_choir_284 (by decide) ?_
              refine gs_iast (_) dX11_choir_285 (gg_56 b) (rfl) (by omega) rfl ?_
              refine go_aload_n dX11_choir_286 rfl ?_
              refine go_dup dX11_choir_287 rfl ?_
              refine gs_gi dX11_choir_288 flX11_134 (gg_47 b) rfl (show _ = nI n by first | exact hN | (simpa [us] using hN)) ?_
              refine go_iconst (v := nI 1) dX11_choir_291 (by decide) ?_
              refine go_iaddN dX11_choir_292 ?_
              refine gs_pi dX11_choir_293 flX11_134 (gg_47 b) rfl (fun q hq => by cases hq; exact ⟨rfl, rfl⟩) ?_
              refine go_aload_n dX11_choir_296 rfl ?_
              refine gs_gi dX11_choir_297 flX11_134 (gg_47 b) rfl (show _ = nI (n + 1) from rfl) ?_
              refine go_iconst (v := nI 1) dX11_choir_300 (by decide) ?_
              refine go_isubN dX11_choir_301 (by omega) ?_
              refine go_iret dX11_choir_302 rfl rfl ?_
              exact ⟨rfl, rfl⟩
theorem mch_a (κ : gm_K) (b : Bool) (σ : wg_S) (n : Nat) (hn : n < 16) (hN : σ 47 0 = nI n) (k t s x y z : Int32) (hk : ¬ k = nI 5) :
    Go κ mX11_choir 122 [some (.ref 47), some (.int k), some (.int t), some (.int s), some (.int x), some (.int (y)), some (.int (z)), none] [] (wd (gg b) σ) (0, 0) (fun z h' => z = some (.int (nI n)) ∧ h' = wd (gg b) (s_mad σ n k t s x)) := by
    refine go_aload_n dX11_choir_122 rfl ?_
    refine gs_gr dX11_choir_123 flX11_7 (gg_47 b) rfl ?_
    refine go_aload_n dX11_choir_126 rfl ?_
    refine gs_gi dX11_choir_127 flX11_134 (gg_47 b) rfl (show _ = nI n by first | exact hN | (simpa [us] using hN)) ?_
    refine go_iload_n dX11_choir_130 rfl ?_
    refine gs_iast (_) dX11_choir_131 (gg_48 b) (rfl) (by omega) rfl ?_
    refine go_aload_n dX11_choir_132 rfl ?_
    refine gs_gr dX11_choir_133 flX11_13 (gg_47 b) rfl ?_
    refine go_aload_n dX11_choir_136 rfl ?_
    refine gs_gi dX11_choir_137 flX11_134 (gg_47 b) rfl (show _ = nI n by first | exact hN | (simpa [us] using hN)) ?_
    refine go_iload_n dX11_choir_140 rfl ?_
    refine go_iconst (v := nI 5) dX11_choir_141 (by decide) ?_
    refine go_icmp_ne 155 dX11_choir_142 (by decide) (fun c142 => ?_) (fun c142 => ?_)
    · refine go_iload_n dX11_choir_155 rfl ?_
      refine gs_iast (_) dX11_choir_156 (gg_49 b) (rfl) (by omega) rfl ?_
      refine go_iconst (v := nI 0) dX11_choir_157 (by decide) ?_
      refine go_istore (lv' := [_, _, _, _, _, _, _, _]) dX11_choir_158 rfl rfl rfl ?_
      refine go_iload dX11_choir_160 rfl ?_
      refine go_iconst (v := nI 4) dX11_choir_162 (by decide) ?_
      refine go_icmp_ge 225 dX11_choir_163 (by decide) (fun z => absurd z (by decide)) (fun _ => ?_)
      refine go_aload_n dX11_choir_166 rfl ?_
      refine gs_gr dX11_choir_167 flX11_16 (gg_47 b) rfl ?_
      refine go_iconst (v := nI 4) dX11_choir_170 (by decide) ?_
      refine go_aload_n dX11_choir_171 rfl ?_
      refine gs_gi dX11_choir_172 flX11_134 (gg_47 b) rfl (show _ = nI n by first | exact hN | (simpa [us] using hN)) ?_
      refine go_imulN dX11_choir_175 ?_
      refine go_iload dX11_choir_176 rfl ?_
      refine go_iaddN dX11_choir_178 ?_
      refine go_iload_n dX11_choir_179 rfl ?_
      refine go_iconst (v := nI 5) dX11_choir_180 (by decide) ?_
      refine go_icmp_ne 212 dX11_choir_181 (by decide) (fun c181 => ?_) (fun c181 => ?_)
      · refine go_iload_n dX11_choir_212 rfl ?_
        refine go_iload dX11_choir_213 rfl ?_
        refine gs_callSi dX11_choir_215 csX11_choir_150 (cX11_digits_ok κ b _ _ _) rfl rfl rfl ⟨rfl, rfl⟩ rfl ?_
        refine gs_iast (_) dX11_choir_218 (gg_50 b) (rfl) (by omega) rfl ?_
        refine go_iinc (v := nI 1) (lv' := [_, _, _, _, _, _, _, _]) dX11_choir_219 rfl (by decide) rfl rfl rfl ?_
        refine go_goto 160 dX11_choir_222 (by decide) ?_
        refine go_iload dX11_choir_160 rfl ?_
        refine go_iconst (v := nI 4) dX11_choir_162 (by decide) ?_
        refine go_icmp_ge 225 dX11_choir_163 (by decide) (fun z => absurd z (by decide)) (fun _ => ?_)
        refine go_aload_n dX11_choir_166 rfl ?_
        refine gs_gr dX11_choir_167 flX11_16 (gg_47 b) rfl ?_
        refine go_iconst (v := nI 4) dX11_choir_170 (by decide) ?_
        refine go_aload_n dX11_choir_171 rfl ?_
        refine gs_gi dX11_choir_172 flX11_134 (gg_47 b) rfl (show _ = nI n by first | exact hN | (simpa [us] using hN)) ?_
        refine go_imulN dX11_choir_175 ?_
        refine go_iload dX11_choir_176 rfl ?_
        refine go_iaddN dX11_choir_178 ?_
        refine go_iload_n dX11_choir_179 rfl ?_
        refine go_iconst (v := nI 5) dX11_choir_180 (by decide) ?_
        refine go_icmp_ne 212 dX11_choir_181 (by decide) (fun c181 => ?_) (fun c181 => ?_)
        · refine go_iload_n dX11_choir_212 rfl ?_
          refine go_iload dX11_choir_213 rfl ?_
          refine gs_callSi dX11_choir_215 csX11_choir_150 (cX11_digits_ok κ b _ _ _) rfl rfl rfl ⟨rfl, rfl⟩ rfl ?_
          refine gs_iast (_) dX11_choir_218 (gg_50 b) (rfl) (by omega) rfl ?_
          refine go_iinc (v := nI 2) (lv' := [_, _, _, _, _, _, _, _]) dX11_choir_219 rfl (by decide) rfl rfl rfl ?_
          refine go_goto 160 dX11_choir_222 (by decide) ?_
          refine go_iload dX11_choir_160 rfl ?_
          refine go_iconst (v := nI 4) dX11_choir_162 (by decide) ?_
          refine go_icmp_ge 225 dX11_choir_163 (by decide) (fun z => absurd z (by decide)) (fun _ => ?_)
          refine go_aload_n dX11_choir_166 rfl ?_
          refine gs_gr dX11_choir_167 flX11_16 (gg_47 b) rfl ?_
          refine go_iconst (v := nI 4) dX11_choir_170 (by decide) ?_
          refine go_aload_n dX11_choir_171 rfl ?_
          refine gs_gi dX11_choir_172 flX11_134 (gg_47 b) rfl (show _ = nI n by first | exact hN | (simpa [us] using hN)) ?_
          refine go_imulN dX11_choir_175 ?_
          refine go_iload dX11_choir_176 rfl ?_
          refine go_iaddN dX11_choir_178 ?_
          refine go_iload_n dX11_choir_179 rfl ?_
          refine go_iconst (v := nI 5) dX11_choir_180 (by decide) ?_
          refine go_icmp_ne 212 dX11_choir_181 (by decide) (fun c181 => ?_) (fun c181 => ?_)
          · refine go_iload_n dX11_choir_212 rfl ?_
            refine go_iload dX11_choir_213 rfl ?_
            refine gs_callSi dX11_choir_215 csX11_choir_150 (cX11_digits_ok κ b _ _ _) rfl rfl rfl ⟨rfl, rfl⟩ rfl ?_
            refine gs_iast (_) dX11_choir_218 (gg_50 b) (rfl) (by omega) rfl ?_
            refine go_iinc (v := nI 3) (lv' := [_, _, _, _, _, _, _, _]) dX11_choir_219 rfl (by decide) rfl rfl rfl ?_
            refine go_goto 160 dX11_choir_222 (by decide) ?_
            refine go_iload dX11_choir_160 rfl ?_
            refine go_iconst (v := nI 4) dX11_choir_162 (by decide) ?_
            refine go_icmp_ge 225 dX11_choir_163 (by decide) (fun z => absurd z (by decide)) (fun _ => ?_)
            refine go_aload_n dX11_choir_166 rfl ?_
            refine gs_gr dX11_choir_167 flX11_16 (gg_47 b) rfl ?_
            refine go_iconst (v := nI 4) dX11_choir_170 (by decide) ?_
            refine go_aload_n dX11_choir_171 rfl ?_
            refine gs_gi dX11_choir_172 flX11_134 (gg_47 b) rfl (show _ = nI n by first | exact hN | (simpa [us] using hN)) ?_
            refine go_imulN dX11_choir_175 ?_
            refine go_iload dX11_choir_176 rfl ?_
            refine go_iaddN dX11_choir_178 ?_
            refine go_iload_n dX11_choir_179 rfl ?_
            refine go_iconst (v := nI 5) dX11_choir_180 (by decide) ?_
            refine go_icmp_ne 212 dX11_choir_181 (by decide) (fun c181 => ?_) (fun c181 => ?_)
            · refine go_iload_n dX11_choir_212 rfl ?_
              refine go_iload dX11_choir_213 rfl ?_
              refine gs_callSi dX11_choir_215 csX11_choir_150 (cX11_digits_ok κ b _ _ _) rfl rfl rfl ⟨rfl, rfl⟩ rfl ?_
              refine gs_iast (_) dX11_choir_218 (gg_50 b) (rfl) (by omega) rfl ?_
              refine go_iinc (v := nI 4) (lv' := [_, _, _, _, _, _, _, _]) dX11_choir_219 rfl (by decide) rfl rfl rfl ?_
              refine go_goto 160 dX11_choir_222 (by decide) ?_
              refine go_iload dX11_choir_160 rfl ?_
              refine go_iconst (v := nI 4) dX11_choir_162 (by decide) ?_
              refine go_icmp_ge 225 dX11_choir_163 (by decide) (fun _ => ?_) (fun z => absurd z (by decide))
              refine go_aload_n dX11_choir_225 rfl ?_
              refine gs_gr dX11_choir_226 flX11_19 (gg_47 b) rfl ?_
              refine go_aload_n dX11_choir_229 rfl ?_
              refine gs_gi dX11_choir_230 flX11_134 (gg_47 b) rfl (show _ = nI n by first | exact hN | (simpa [us] using hN)) ?_
              refine go_iload dX11_choir_233 rfl ?_
              refine gs_iast (_) dX11_choir_235 (gg_51 b) (rfl) (by omega) rfl ?_
              refine go_aload_n dX11_choir_236 rfl ?_
              refine gs_gr dX11_choir_237 flX11_22 (gg_47 b) rfl ?_
              refine go_aload_n dX11_choir_240 rfl ?_
              refine gs_gi dX11_choir_241 flX11_134 (gg_47 b) rfl (show _ = nI n by first | exact hN | (simpa [us] using hN)) ?_
              refine go_iconst (v := nI 5) dX11_choir_244 (by decide) ?_
              refine gs_iast (_) dX11_choir_245 (gg_52 b) (rfl) (by omega) rfl ?_
              refine go_aload_n dX11_choir_246 rfl ?_
              refine gs_gr dX11_choir_247 flX11_25 (gg_47 b) rfl ?_
              refine go_aload_n dX11_choir_250 rfl ?_
              refine gs_gi dX11_choir_251 flX11_134 (gg_47 b) rfl (show _ = nI n by first | exact hN | (simpa [us] using hN)) ?_
              refine go_iconst (v := -1) dX11_choir_254 (by decide) ?_
              refine gs_iast (_) dX11_choir_255 (gg_53 b) (rfl) (by omega) rfl ?_
              refine go_aload_n dX11_choir_256 rfl ?_
              refine gs_gr dX11_choir_257 flX11_28 (gg_47 b) rfl ?_
              refine go_aload_n dX11_choir_260 rfl ?_
              refine gs_gi dX11_choir_261 flX11_134 (gg_47 b) rfl (show _ = nI n by first | exact hN | (simpa [us] using hN)) ?_
              refine go_iconst (v := -1) dX11_choir_264 (by decide) ?_
              refine gs_iast (_) dX11_choir_265 (gg_54 b) (rfl) (by omega) rfl ?_
              refine go_aload_n dX11_choir_266 rfl ?_
              refine gs_gr dX11_choir_267 flX11_31 (gg_47 b) rfl ?_
              refine go_aload_n dX11_choir_270 rfl ?_
              refine gs_gi dX11_choir_271 flX11_134 (gg_47 b) rfl (show _ = nI n by first | exact hN | (simpa [us] using hN)) ?_
              refine go_iconst (v := -1) dX11_choir_274 (by decide) ?_
              refine gs_iast (_) dX11_choir_275 (gg_55 b) (rfl) (by omega) rfl ?_
              refine go_aload_n dX11_choir_276 rfl ?_
              refine gs_gr dX11_choir_277 flX11_34 (gg_47 b) rfl ?_
              refine go_aload_n dX11_choir_280 rfl ?_
              refine gs_gi dX11_choir_281 flX11_134 (gg_47 b) rfl (show _ = nI n by first | exact hN | (simpa [us] using hN)) ?_
              refine go_iconst (v := -1) dX11_choir_284 (by decide) ?_
              refine gs_iast (_) dX11_choir_285 (gg_56 b) (rfl) (by omega) rfl ?_
              refine go_aload_n dX11_choir_286 rfl ?_
              refine go_dup dX11_choir_287 rfl ?_
              refine gs_gi dX11_choir_288 flX11_134 (gg_47 b) rfl (show _ = nI n by first | exact hN | (simpa [us] using hN)) ?_
              refine go_iconst (v := nI 1) dX11_choir_291 (by decide) ?_
              refine go_iaddN dX11_choir_292 ?_
              refine gs_pi dX11_choir_293 flX11_134 (gg_47 b) rfl (fun q hq => by cases hq; exact ⟨rfl, rfl⟩) ?_
              refine go_aload_n dX11_choir_296 rfl ?_
              refine gs_gi dX11_choir_297 flX11_134 (gg_47 b) rfl (show _ = nI (n + 1) from rfl) ?_
              refine go_iconst (v := nI 1) dX11_choir_300 (by decide) ?_
              refine go_isubN dX11_choir_301 (by omega) ?_
              refine go_iret dX11_choir_302 rfl rfl ?_
              exact ⟨rfl, rfl⟩
            · exact absurd c181 hk
          · exact absurd c181 hk
        · exact absurd c181 hk
      · exact absurd c181 hk
    · exact absurd c142 hk
theorem cX11_choir_ok (κ : gm_K) (b : Bool) (σ : wg_S) (n m j r : Nat) (C : MI σ n m j r) (k t s x : Int32) : Fn κ mX11_choir [.ref 47, .int k, .int t, .int s, .int x] (gg b) σ (some (.int ((M_choir σ n k t s x).1))) (gg b) (M_choir σ n k t s x).2 := by
  refine go_start (by decide) (Nat.le_of_ble_eq_true rfl) ?_
  obtain ⟨⟨hN, hn⟩, ⟨hM, hm⟩, ⟨hJ, hj⟩, ⟨hR, hr⟩, hT, hX⟩ := id C
  have B1 : ∀ {c : Int32}, hs (nI n) c = true → vp_in c 16 := fun h => hs_in hn (by decide) h
  have fin : hs (nI 8) t = true → (k = nI 5 → ¬ x < 0 ∧ hs (σ 47 0) (x / nI 16) = true ∧ hs (σ 47 0) (rm16 x) = true) →
      Go κ mX11_choir 51 [some (.ref 47), some (.int k), some (.int t), some (.int s), some (.int x), some (.int (x / nI 16)), some (.int (x - x / nI 16 * nI 16)), none] [] (wd (gg b) σ) (0, 0) (fun z h' => z = some (.int (M_choir σ n k t s x).1) ∧ h' = wd (gg b) (M_choir σ n k t s x).2) := by
    intro hA hB
    have hB' : ¬ (k = nI 5 ∧ (x < 0 ∨ hs (σ 47 0) (x / nI 16) = false ∨ hs (σ 47 0) (rm16 x) = false)) := by
      rintro ⟨h1, h2⟩
      obtain ⟨a1, a2, a3⟩ := hB h1
      simp [a1, a2, a3] at h2
    rw [M_choir, if_neg (by simp [hA]), if_neg hB']
    have go110 : wi k (nI 0) (nI 5) = true → msu k s x = true → ¬ (k = nI 5 ∧ (x / nI 16 = rm16 x ∨ σ 48 (x / nI 16).toNatClampNeg = nI 5 ∨ σ 48 (rm16 x).toNatClampNeg = nI 5)) →
      Go κ mX11_choir 110 [some (.ref 47), some (.int k), some (.int t), some (.int s), some (.int x), some (.int (x / nI 16)), some (.int (x - x / nI 16 * nI 16)), none] [] (wd (gg b) σ) (0, 0) (fun z h' => z = some (.int (if σ 47 0 = nI 16 then (-4, σ) else if k = nI 5 then (nI n, s_mjo σ n (x / nI 16).toNatClampNeg (rm16 x).toNatClampNeg x) else (nI n, s_mad σ n k t s x)).1) ∧ h' = wd (gg b) (if σ 47 0 = nI 16 then (-4, σ) else if k = nI 5 then (nI n, s_mjo σ n (x / nI 16).toNatClampNeg (rm16 x).toNatClampNeg x) else (nI n, s_mad σ n k t s x)).2) := by
      intro _ _ _
      have hpq : k = nI 5 → hs (σ 47 0) (x / nI 16) = true ∧ hs (σ 47 0) (rm16 x) = true := fun h => (hB h).2
      refine go_aload_n dX11_choir_110 rfl ?_
      refine gs_gi dX11_choir_111 flX11_134 (gg_47 b) rfl (rfl) ?_
      refine go_bipush (v := nI 16) dX11_choir_114 (by decide) ?_
      refine go_icmp_ne 122 dX11_choir_116 (by decide) (fun c116 => ?_) (fun c116 => ?_)
      · have hlt : n < 16 := by
          rcases Nat.lt_or_ge n 16 with h | h
          · exact h
          · exact absurd (hN.trans (by rw [show n = 16 by omega])) c116
        rw [if_neg c116]
        by_cases hk : k = nI 5
        · obtain ⟨h1, h2⟩ := hpq hk
          obtain ⟨p, hp, ep⟩ := hs_ix (by omega) (hN ▸ h1)
          obtain ⟨q, hq, eq⟩ := hs_ix (by omega) (hN ▸ h2)
          rw [if_pos hk]
          rw [show x - x / nI 16 * nI 16 = nI q from eq, ep, show rm16 x = nI q from eq, nI_clamp (show p < 2 ^ 31 by omega), nI_clamp (show q < 2 ^ 31 by omega)]
          exact mch_j κ b σ n hlt hN k t s x hk p q hp hq
        · rw [if_neg hk]
          exact mch_a κ b σ n hlt hN k t s x _ _ hk
      · rw [if_pos c116]
        refine go_bipush (v := -4) dX11_choir_119 (by decide) ?_
        refine go_iret dX11_choir_121 rfl rfl ?_
        exact ⟨rfl, rfl⟩
    refine go_iload_n dX11_choir_51 rfl ?_
    refine go_i2l dX11_choir_52 ?_
    refine go_lconst (v := 0) dX11_choir_53 (by decide) ?_
    refine go_ldc2 dX11_choir_54 klX11_165 ?_
    refine gs_callSi dX11_choir_57 csX11_choir_145 (cX11_isIn_ok κ b σ _ (nI 0) (nI 5) _ _ (by decide) (by decide)) rfl rfl rfl ⟨rfl, rfl⟩ rfl ?_
    refine go_if_eqB 107 dX11_choir_60 (by decide) (fun c60 => ?_) (fun c60 => ?_)
    · rw [if_pos c60]
      refine go_bipush (v := -2) dX11_choir_107 (by decide) ?_
      refine go_iret dX11_choir_109 rfl rfl ?_
      exact ⟨rfl, rfl⟩
    · rw [if_neg (by simp [c60])]
      refine go_iload_n dX11_choir_63 rfl ?_
      refine go_iload_n dX11_choir_64 rfl ?_
      refine go_iload dX11_choir_65 rfl ?_
      refine gs_callSi dX11_choir_67 csX11_choir_167 (cX11_suits_ok κ b σ _ _ _) rfl rfl rfl ⟨rfl, rfl⟩ rfl ?_
      refine go_if_eqB 107 dX11_choir_70 (by decide) (fun c70 => ?_) (fun c70 => ?_)
      · rw [if_pos c70]
        refine go_bipush (v := -2) dX11_choir_107 (by decide) ?_
        refine go_iret dX11_choir_109 rfl rfl ?_
        exact ⟨rfl, rfl⟩
      · rw [if_neg (by simp [c70])]
        refine go_iload_n dX11_choir_73 rfl ?_
        refine go_iconst (v := nI 5) dX11_choir_74 (by decide) ?_
        refine go_icmp_ne 110 dX11_choir_75 (by decide) (fun c75 => ?_) (fun c75 => ?_)
        · rw [if_neg (fun z => c75 z.1)]
          exact go110 c60 c70 (fun z => c75 z.1)
        · refine go_iload dX11_choir_78 rfl ?_
          refine go_iload dX11_choir_80 rfl ?_
          refine go_icmp_eq 107 dX11_choir_82 (by decide) (fun c82 => ?_) (fun c82 => ?_)
          · rw [if_pos ⟨c75, Or.inl c82⟩]
            refine go_bipush (v := -2) dX11_choir_107 (by decide) ?_
            refine go_iret dX11_choir_109 rfl rfl ?_
            exact ⟨rfl, rfl⟩
          · refine go_aload_n dX11_choir_85 rfl ?_
            refine gs_gr dX11_choir_86 flX11_7 (gg_47 b) rfl ?_
            refine go_iload dX11_choir_89 rfl ?_
            refine gs_ialdI dX11_choir_91 (gg_48 b) (B1 (hN ▸ (hB c75).2.1)) (rfl) ?_
            refine go_iconst (v := nI 5) dX11_choir_92 (by decide) ?_
            refine go_icmp_eq 107 dX11_choir_93 (by decide) (fun c93 => ?_) (fun c93 => ?_)
            · rw [if_pos ⟨c75, Or.inr (Or.inl c93)⟩]
              refine go_bipush (v := -2) dX11_choir_107 (by decide) ?_
              refine go_iret dX11_choir_109 rfl rfl ?_
              exact ⟨rfl, rfl⟩
            · refine go_aload_n dX11_choir_96 rfl ?_
              refine gs_gr dX11_choir_97 flX11_7 (gg_47 b) rfl ?_
              refine go_iload dX11_choir_100 rfl ?_
              refine gs_ialdI dX11_choir_102 (gg_48 b) (B1 (hN ▸ (hB c75).2.2)) (rfl) ?_
              refine go_iconst (v := nI 5) dX11_choir_103 (by decide) ?_
              refine go_icmp_ne 110 dX11_choir_104 (by decide) (fun c104 => ?_) (fun c104 => ?_)
              · rw [if_neg (fun z => z.2.elim c82 (fun w => w.elim c93 c104))]
                exact go110 c60 c70 (fun z => z.2.elim c82 (fun w => w.elim c93 c104))
              · rw [if_pos ⟨c75, Or.inr (Or.inr c104)⟩]
                refine go_bipush (v := -2) dX11_choir_107 (by decide) ?_
                refine go_iret dX11_choir_109 rfl rfl ?_
                exact ⟨rfl, rfl⟩
  refine go_iload dX11_choir_0 rfl ?_
  refine go_bipush (v := nI 16) dX11_choir_2 (by decide) ?_
  refine go_idiv dX11_choir_4 (by decide) ?_
  refine go_istore (lv' := [_, _, _, _, _, _, _, _]) dX11_choir_5 rfl rfl rfl ?_
  refine go_iload dX11_choir_7 rfl ?_
  refine go_bipush (v := nI 16) dX11_choir_9 (by decide) ?_
  refine go_irem dX11_choir_11 (by decide) ?_
  refine go_istore (lv' := [_, _, _, _, _, _, _, _]) dX11_choir_12 rfl rfl rfl ?_
  refine go_iload_n dX11_choir_14 rfl ?_
  refine gs_callSi dX11_choir_15 csX11_choir_158 (cX11_isTown_ok κ b σ _) rfl rfl rfl ⟨rfl, rfl⟩ rfl ?_
  refine go_if_eqB 49 dX11_choir_18 (by decide) (fun c18 => ?_) (fun c18 => ?_)
  · refine go_iconst (v := -1) dX11_choir_49 (by decide) ?_
    refine go_iret dX11_choir_50 rfl rfl ?_
    rw [M_choir, if_pos c18]; exact ⟨rfl, rfl⟩
  · refine go_iload_n dX11_choir_21 rfl ?_
    refine go_iconst (v := nI 5) dX11_choir_22 (by decide) ?_
    refine go_icmp_ne 51 dX11_choir_23 (by decide) (fun c23 => ?_) (fun c23 => ?_)
    · exact fin c18 (fun h => absurd h c23)
    · refine go_iload dX11_choir_26 rfl ?_
      refine go_if_lt 49 dX11_choir_28 (by decide) (fun c28 => ?_) (fun c28 => ?_)
      · refine go_iconst (v := -1) dX11_choir_49 (by decide) ?_
        refine go_iret dX11_choir_50 rfl rfl ?_
        rw [M_choir, if_neg (by simp [c18]), if_pos ⟨c23, Or.inl c28⟩]; exact ⟨rfl, rfl⟩
      · refine go_aload_n dX11_choir_31 rfl ?_
        refine go_iload dX11_choir_32 rfl ?_
        refine gs_callVi dX11_choir_34 cvX11_choir_162 (cX11_isChoir_ok κ b σ _) rfl (gg_47 b) rfl rfl rfl ⟨rfl, rfl⟩ rfl ?_
        refine go_if_eqB 49 dX11_choir_37 (by decide) (fun c37 => ?_) (fun c37 => ?_)
        · refine go_iconst (v := -1) dX11_choir_49 (by decide) ?_
          refine go_iret dX11_choir_50 rfl rfl ?_
          rw [M_choir, if_neg (by simp [c18]), if_pos ⟨c23, Or.inr (Or.inl c37)⟩]; exact ⟨rfl, rfl⟩
        · refine go_aload_n dX11_choir_40 rfl ?_
          refine go_iload dX11_choir_41 rfl ?_
          refine gs_callVi dX11_choir_43 cvX11_choir_162 (cX11_isChoir_ok κ b σ _) rfl (gg_47 b) rfl rfl rfl ⟨rfl, rfl⟩ rfl ?_
          refine go_if_neB 51 dX11_choir_46 (by decide) (fun c46 => ?_) (fun c46 => ?_)
          · exact fin c18 (fun _ => ⟨c28, c37, c46⟩)
          · refine go_iconst (v := -1) dX11_choir_49 (by decide) ?_
            refine go_iret dX11_choir_50 rfl rfl ?_
            rw [M_choir, if_neg (by simp [c18]), if_pos ⟨c23, Or.inr (Or.inr c46)⟩]; exact ⟨rfl, rfl⟩
def M_day (σ : wg_S) (d : Int32) : Int32 × wg_S := if wi d (σ 47 10) (nI 3) = false then (-2, σ) else (σ 47 10, us σ 47 10 d)
theorem cX11_day_ok (κ : gm_K) (b : Bool) (σ : wg_S) (d : Int32) : Fn κ mX11_day [.ref 47, .int d] (gg b) σ (some (.int ((M_day σ d).1))) (gg b) (M_day σ d).2 := by
  refine go_start (by decide) (Nat.le_of_ble_eq_true rfl) ?_
  refine go_iload_n dX11_day_0 rfl ?_
  refine go_i2l dX11_day_1 ?_
  refine go_aload_n dX11_day_2 rfl ?_
  refine gs_gi dX11_day_3 flX11_171 (gg_47 b) rfl (rfl) ?_
  refine go_i2l dX11_day_6 ?_
  refine go_ldc2 dX11_day_7 klX11_156 ?_
  refine gs_callSi dX11_day_10 csX11_day_145 (cX11_isIn_ok κ b σ _ (σ 47 10) (nI 3) _ _ rfl (by decide)) rfl rfl rfl ⟨rfl, rfl⟩ rfl ?_
  refine go_if_neB 19 dX11_day_13 (by decide) (fun c13 => ?_) (fun c13 => ?_)
  · refine go_aload_n dX11_day_19 rfl ?_
    refine gs_gi dX11_day_20 flX11_171 (gg_47 b) rfl (rfl) ?_
    refine go_istore_n (lv' := [_, _, _]) dX11_day_23 rfl rfl rfl ?_
    refine go_aload_n dX11_day_24 rfl ?_
    refine go_iload_n dX11_day_25 rfl ?_
    refine gs_pi dX11_day_26 flX11_171 (gg_47 b) rfl (fun q hq => by cases hq; exact ⟨rfl, rfl⟩) ?_
    refine go_iload_n dX11_day_29 rfl ?_
    refine go_iret dX11_day_30 rfl rfl ?_
    refine ⟨?_, ?_⟩ <;> simp +decide [c13, M_day]
  · refine go_bipush (v := -2) dX11_day_16 (by decide) ?_
    refine go_iret dX11_day_18 rfl rfl ?_
    refine ⟨?_, ?_⟩ <;> simp +decide [c13, M_day]
def s_mso (σ : wg_S) (m : Nat) (k v h q : Int32) : wg_S := us (us (us (us (us σ 57 m k) 58 m v) 59 m h) 60 m q) 47 11 (nI (m + 1))
def M_song (σ : wg_S) (m : Nat) (k v h q : Int32) : Int32 × wg_S := if wi k (nI 1) (nI 63) = false then (-2, σ) else if wi v (nI 1) (nI 15) = false then (-2, σ) else if wi h (nI 0) (nI 9) = false then (-2, σ) else if wi q (nI 1) (nI 30) = false then (-2, σ) else if σ 47 11 = nI 9 then (-4, σ) else (nI m, s_mso σ m k v h q)
theorem cX11_song_ok (κ : gm_K) (b : Bool) (σ : wg_S) (n m j r : Nat) (C : MI σ n m j r) (k v h q : Int32) : Fn κ mX11_song [.ref 47, .int k, .int v, .int h, .int q] (gg b) σ (some (.int ((M_song σ m k v h q).1))) (gg b) (M_song σ m k v h q).2 := by
  refine go_start (by decide) (Nat.le_of_ble_eq_true rfl) ?_
  obtain ⟨⟨hN, hn⟩, ⟨hM, hm⟩, ⟨hJ, hj⟩, ⟨hR, hr⟩, hT, hX⟩ := id C
  refine go_iload_n dX11_song_0 rfl ?_
  refine go_i2l dX11_song_1 ?_
  refine go_lconst (v := 1) dX11_song_2 (by decide) ?_
  refine go_ldc2 dX11_song_3 klX11_174 ?_
  refine gs_callSi dX11_song_6 csX11_song_145 (cX11_isIn_ok κ b σ _ (nI 1) (nI 63) _ _ (by decide) (by decide)) rfl rfl rfl ⟨rfl, rfl⟩ rfl ?_
  refine go_if_eqB 49 dX11_song_9 (by decide) (fun c9 => ?_) (fun c9 => ?_)
  · refine go_bipush (v := -2) dX11_song_49 (by decide) ?_
    refine go_iret dX11_song_51 rfl rfl ?_
    refine ⟨?_, ?_⟩ <;> simp +decide [c9, M_song]
  · refine go_iload_n dX11_song_12 rfl ?_
    refine go_i2l dX11_song_13 ?_
    refine go_lconst (v := 1) dX11_song_14 (by decide) ?_
    refine go_ldc2 dX11_song_15 klX11_176 ?_
    refine gs_callSi dX11_song_18 csX11_song_145 (cX11_isIn_ok κ b σ _ (nI 1) (nI 15) _ _ (by decide) (by decide)) rfl rfl rfl ⟨rfl, rfl⟩ rfl ?_
    refine go_if_eqB 49 dX11_song_21 (by decide) (fun c21 => ?_) (fun c21 => ?_)
    · refine go_bipush (v := -2) dX11_song_49 (by decide) ?_
      refine go_iret dX11_song_51 rfl rfl ?_
      refine ⟨?_, ?_⟩ <;> simp +decide [c9, c21, M_song]
    · refine go_iload_n dX11_song_24 rfl ?_
      refine go_i2l dX11_song_25 ?_
      refine go_lconst (v := 0) dX11_song_26 (by decide) ?_
      refine go_ldc2 dX11_song_27 klX11_178 ?_
      refine gs_callSi dX11_song_30 csX11_song_145 (cX11_isIn_ok κ b σ _ (nI 0) (nI 9) _ _ (by decide) (by decide)) rfl rfl rfl ⟨rfl, rfl⟩ rfl ?_
      refine go_if_eqB 49 dX11_song_33 (by decide) (fun c33 => ?_) (fun c33 => ?_)
      · refine go_bipush (v := -2) dX11_song_49 (by decide) ?_
        refine go_iret dX11_song_51 rfl rfl ?_
        refine ⟨?_, ?_⟩ <;> simp +decide [c9, c21, c33, M_song]
      · refine go_iload dX11_song_36 rfl ?_
        refine go_i2l dX11_song_38 ?_
        refine go_lconst (v := 1) dX11_song_39 (by decide) ?_
        refine go_ldc2 dX11_song_40 klX11_180 ?_
        refine gs_callSi dX11_song_43 csX11_song_145 (cX11_isIn_ok κ b σ _ (nI 1) (nI 30) _ _ (by decide) (by decide)) rfl rfl rfl ⟨rfl, rfl⟩ rfl ?_
        refine go_if_neB 52 dX11_song_46 (by decide) (fun c46 => ?_) (fun c46 => ?_)
        · refine go_aload_n dX11_song_52 rfl ?_
          refine gs_gi dX11_song_53 flX11_137 (gg_47 b) rfl (rfl) ?_
          refine go_bipush (v := nI 9) dX11_song_56 (by decide) ?_
          refine go_icmp_ne 64 dX11_song_58 (by decide) (fun c58 => ?_) (fun c58 => ?_)
          · have hlt : m < 9 := by
              rcases Nat.lt_or_ge m 9 with h | h
              · exact h
              · exact absurd (hM.trans (by rw [show m = 9 by omega])) c58
            refine go_aload_n dX11_song_64 rfl ?_
            refine gs_gr dX11_song_65 flX11_37 (gg_47 b) rfl ?_
            refine go_aload_n dX11_song_68 rfl ?_
            refine gs_gi dX11_song_69 flX11_137 (gg_47 b) rfl (show _ = nI m by first | exact hM | (simpa [us] using hM)) ?_
            refine go_iload_n dX11_song_72 rfl ?_
            refine gs_iast (_) dX11_song_73 (gg_57 b) (rfl) (by omega) rfl ?_
            refine go_aload_n dX11_song_74 rfl ?_
            refine gs_gr dX11_song_75 flX11_40 (gg_47 b) rfl ?_
            refine go_aload_n dX11_song_78 rfl ?_
            refine gs_gi dX11_song_79 flX11_137 (gg_47 b) rfl (show _ = nI m by first | exact hM | (simpa [us] using hM)) ?_
            refine go_iload_n dX11_song_82 rfl ?_
            refine gs_iast (_) dX11_song_83 (gg_58 b) (rfl) (by omega) rfl ?_
            refine go_aload_n dX11_song_84 rfl ?_
            refine gs_gr dX11_song_85 flX11_43 (gg_47 b) rfl ?_
            refine go_aload_n dX11_song_88 rfl ?_
            refine gs_gi dX11_song_89 flX11_137 (gg_47 b) rfl (show _ = nI m by first | exact hM | (simpa [us] using hM)) ?_
            refine go_iload_n dX11_song_92 rfl ?_
            refine gs_iast (_) dX11_song_93 (gg_59 b) (rfl) (by omega) rfl ?_
            refine go_aload_n dX11_song_94 rfl ?_
            refine gs_gr dX11_song_95 flX11_46 (gg_47 b) rfl ?_
            refine go_aload_n dX11_song_98 rfl ?_
            refine gs_gi dX11_song_99 flX11_137 (gg_47 b) rfl (show _ = nI m by first | exact hM | (simpa [us] using hM)) ?_
            refine go_iload dX11_song_102 rfl ?_
            refine gs_iast (_) dX11_song_104 (gg_60 b) (rfl) (by omega) rfl ?_
            refine go_aload_n dX11_song_105 rfl ?_
            refine go_dup dX11_song_106 rfl ?_
            refine gs_gi dX11_song_107 flX11_137 (gg_47 b) rfl (show _ = nI m by first | exact hM | (simpa [us] using hM)) ?_
            refine go_iconst (v := nI 1) dX11_song_110 (by decide) ?_
            refine go_iaddN dX11_song_111 ?_
            refine gs_pi dX11_song_112 flX11_137 (gg_47 b) rfl (fun q hq => by cases hq; exact ⟨rfl, rfl⟩) ?_
            refine go_aload_n dX11_song_115 rfl ?_
            refine gs_gi dX11_song_116 flX11_137 (gg_47 b) rfl (show _ = nI (m + 1) from rfl) ?_
            refine go_iconst (v := nI 1) dX11_song_119 (by decide) ?_
            refine go_isubN dX11_song_120 (by omega) ?_
            refine go_iret dX11_song_121 rfl rfl ?_
            simp only [M_song, if_neg c58, c9, c21, c33, c46, c58]
            exact ⟨rfl, rfl⟩
          · refine go_bipush (v := -4) dX11_song_61 (by decide) ?_
            refine go_iret dX11_song_63 rfl rfl ?_
            refine ⟨?_, ?_⟩ <;> simp +decide [c9, c21, c33, c46, c58, M_song]
        · refine go_bipush (v := -2) dX11_song_49 (by decide) ?_
          refine go_iret dX11_song_51 rfl rfl ?_
          refine ⟨?_, ?_⟩ <;> simp +decide [c9, c21, c33, c46, M_song]
def s_mju (σ : wg_S) (j : Nat) (t : Int32) : wg_S := us (us σ 61 j t) 47 16 (nI (j + 1))
def M_judge (σ : wg_S) (j : Nat) (t : Int32) : Int32 × wg_S := if hs (nI 8) t = false then (-1, σ) else if σ 47 16 = nI 6 then (-4, σ) else (nI j, s_mju σ j t)
theorem cX11_judge_ok (κ : gm_K) (b : Bool) (σ : wg_S) (n m j r : Nat) (C : MI σ n m j r) (t : Int32) : Fn κ mX11_judge [.ref 47, .int t] (gg b) σ (some (.int ((M_judge σ j t).1))) (gg b) (M_judge σ j t).2 := by
  refine go_start (by decide) (Nat.le_of_ble_eq_true rfl) ?_
  obtain ⟨⟨hN, hn⟩, ⟨hM, hm⟩, ⟨hJ, hj⟩, ⟨hR, hr⟩, hT, hX⟩ := id C
  refine go_iload_n dX11_judge_0 rfl ?_
  refine gs_callSi dX11_judge_1 csX11_judge_158 (cX11_isTown_ok κ b σ _) rfl rfl rfl ⟨rfl, rfl⟩ rfl ?_
  refine go_if_neB 9 dX11_judge_4 (by decide) (fun c4 => ?_) (fun c4 => ?_)
  · refine go_aload_n dX11_judge_9 rfl ?_
    refine gs_gi dX11_judge_10 flX11_140 (gg_47 b) rfl (rfl) ?_
    refine go_bipush (v := nI 6) dX11_judge_13 (by decide) ?_
    refine go_icmp_ne 21 dX11_judge_15 (by decide) (fun c15 => ?_) (fun c15 => ?_)
    · have hlt : j < 6 := by
        rcases Nat.lt_or_ge j 6 with h | h
        · exact h
        · exact absurd (hJ.trans (by rw [show j = 6 by omega])) c15
      refine go_aload_n dX11_judge_21 rfl ?_
      refine gs_gr dX11_judge_22 flX11_49 (gg_47 b) rfl ?_
      refine go_aload_n dX11_judge_25 rfl ?_
      refine gs_gi dX11_judge_26 flX11_140 (gg_47 b) rfl (show _ = nI j by first | exact hJ | (simpa [us] using hJ)) ?_
      refine go_iload_n dX11_judge_29 rfl ?_
      refine gs_iast (_) dX11_judge_30 (gg_61 b) (rfl) (by omega) rfl ?_
      refine go_aload_n dX11_judge_31 rfl ?_
      refine go_dup dX11_judge_32 rfl ?_
      refine gs_gi dX11_judge_33 flX11_140 (gg_47 b) rfl (show _ = nI j by first | exact hJ | (simpa [us] using hJ)) ?_
      refine go_iconst (v := nI 1) dX11_judge_36 (by decide) ?_
      refine go_iaddN dX11_judge_37 ?_
      refine gs_pi dX11_judge_38 flX11_140 (gg_47 b) rfl (fun q hq => by cases hq; exact ⟨rfl, rfl⟩) ?_
      refine go_aload_n dX11_judge_41 rfl ?_
      refine gs_gi dX11_judge_42 flX11_140 (gg_47 b) rfl (show _ = nI (j + 1) from rfl) ?_
      refine go_iconst (v := nI 1) dX11_judge_45 (by decide) ?_
      refine go_isubN dX11_judge_46 (by omega) ?_
      refine go_iret dX11_judge_47 rfl rfl ?_
      simp only [M_judge, if_neg c15, c4, c15]
      exact ⟨rfl, rfl⟩
    · refine go_bipush (v := -4) dX11_judge_18 (by decide) ?_
      refine go_iret dX11_judge_20 rfl rfl ?_
      refine ⟨?_, ?_⟩ <;> simp +decide [c4, c15, M_judge]
  · refine go_iconst (v := -1) dX11_judge_7 (by decide) ?_
    refine go_iret dX11_judge_8 rfl rfl ?_
    refine ⟨?_, ?_⟩ <;> simp +decide [c4, M_judge]
def M_mark (σ : wg_S) (q c v : Int32) : Int32 × wg_S := if hs (σ 47 16) q = false then (-5, σ) else if hs (σ 47 0) c = false then (-5, σ) else if wi v (nI 0) (nI 100) = false then (-2, σ) else if σ 61 q.toNatClampNeg = σ 49 c.toNatClampNeg then (-3, σ) else (σ 62 (16 * q.toNatClampNeg + c.toNatClampNeg) - nI 1, us σ 62 (16 * q.toNatClampNeg + c.toNatClampNeg) (v + nI 1))
theorem cX11_mark_ok (κ : gm_K) (b : Bool) (σ : wg_S) (n m j r : Nat) (C : MI σ n m j r) (q c v : Int32) : Fn κ mX11_mark [.ref 47, .int q, .int c, .int v] (gg b) σ (some (.int ((M_mark σ q c v).1))) (gg b) (M_mark σ q c v).2 := by
  refine go_start (by decide) (Nat.le_of_ble_eq_true rfl) ?_
  obtain ⟨⟨hN, hn⟩, ⟨hM, hm⟩, ⟨hJ, hj⟩, ⟨hR, hr⟩, hT, hX⟩ := id C
  refine go_aload_n dX11_mark_0 rfl ?_
  refine go_iload_n dX11_mark_1 rfl ?_
  refine gs_callVi dX11_mark_2 cvX11_mark_182 (cX11_isJudge_ok κ b σ _) rfl (gg_47 b) rfl rfl rfl ⟨rfl, rfl⟩ rfl ?_
  refine go_if_eqB 16 dX11_mark_5 (by decide) (fun c5 => ?_) (fun c5 => ?_)
  · refine go_bipush (v := -5) dX11_mark_16 (by decide) ?_
    refine go_iret dX11_mark_18 rfl rfl ?_
    refine ⟨?_, ?_⟩ <;> simp +decide [c5, M_mark]
  · obtain ⟨y, hy, rfl⟩ := hs_ix (by omega) (hJ ▸ c5)
    have ey := nI_clamp (show y < 2 ^ 31 by omega)
    refine go_aload_n dX11_mark_8 rfl ?_
    refine go_iload_n dX11_mark_9 rfl ?_
    refine gs_callVi dX11_mark_10 cvX11_mark_162 (cX11_isChoir_ok κ b σ _) rfl (gg_47 b) rfl rfl rfl ⟨rfl, rfl⟩ rfl ?_
    refine go_if_neB 19 dX11_mark_13 (by decide) (fun c13 => ?_) (fun c13 => ?_)
    · obtain ⟨x, hx, rfl⟩ := hs_ix (by omega) (hN ▸ c13)
      have ex := nI_clamp (show x < 2 ^ 31 by omega)
      refine go_iload_n dX11_mark_19 rfl ?_
      refine go_i2l dX11_mark_20 ?_
      refine go_lconst (v := 0) dX11_mark_21 (by decide) ?_
      refine go_ldc2 dX11_mark_22 klX11_185 ?_
      refine gs_callSi dX11_mark_25 csX11_mark_145 (cX11_isIn_ok κ b σ _ (nI 0) (nI 100) _ _ (by decide) (by decide)) rfl rfl rfl ⟨rfl, rfl⟩ rfl ?_
      refine go_if_neB 34 dX11_mark_28 (by decide) (fun c28 => ?_) (fun c28 => ?_)
      · refine go_aload_n dX11_mark_34 rfl ?_
        refine gs_gr dX11_mark_35 flX11_49 (gg_47 b) rfl ?_
        refine go_iload_n dX11_mark_38 rfl ?_
        refine gs_iald (_) dX11_mark_39 (gg_61 b) (rfl) (by omega) rfl (rfl) ?_
        refine go_aload_n dX11_mark_40 rfl ?_
        refine gs_gr dX11_mark_41 flX11_13 (gg_47 b) rfl ?_
        refine go_iload_n dX11_mark_44 rfl ?_
        refine gs_iald (_) dX11_mark_45 (gg_49 b) (rfl) (by omega) rfl (rfl) ?_
        refine go_icmp_ne 52 dX11_mark_46 (by decide) (fun c46 => ?_) (fun c46 => ?_)
        · refine go_aload_n dX11_mark_52 rfl ?_
          refine gs_gr dX11_mark_53 flX11_52 (gg_47 b) rfl ?_
          refine go_bipush (v := nI 16) dX11_mark_56 (by decide) ?_
          refine go_iload_n dX11_mark_58 rfl ?_
          refine go_imulN dX11_mark_59 ?_
          refine go_iload_n dX11_mark_60 rfl ?_
          refine go_iaddN dX11_mark_61 ?_
          refine gs_iald (_) dX11_mark_62 (gg_62 b) (rfl) (by omega) rfl (rfl) ?_
          refine go_iconst (v := nI 1) dX11_mark_63 (by decide) ?_
          refine go_isub dX11_mark_64 ?_
          refine go_istore (lv' := [_, _, _, _, _]) dX11_mark_65 rfl rfl rfl ?_
          refine go_aload_n dX11_mark_67 rfl ?_
          refine gs_gr dX11_mark_68 flX11_52 (gg_47 b) rfl ?_
          refine go_bipush (v := nI 16) dX11_mark_71 (by decide) ?_
          refine go_iload_n dX11_mark_73 rfl ?_
          refine go_imulN dX11_mark_74 ?_
          refine go_iload_n dX11_mark_75 rfl ?_
          refine go_iaddN dX11_mark_76 ?_
          refine go_iload_n dX11_mark_77 rfl ?_
          refine go_iconst (v := nI 1) dX11_mark_78 (by decide) ?_
          refine go_iadd dX11_mark_79 ?_
          refine gs_iast (_) dX11_mark_80 (gg_62 b) (rfl) (by omega) rfl ?_
          refine go_iload dX11_mark_81 rfl ?_
          refine go_iret dX11_mark_83 rfl rfl ?_
          refine ⟨?_, ?_⟩ <;> simp +decide [c5, ey, c13, ex, c28, c46, M_mark]
        · refine go_bipush (v := -3) dX11_mark_49 (by decide) ?_
          refine go_iret dX11_mark_51 rfl rfl ?_
          refine ⟨?_, ?_⟩ <;> simp +decide [c5, ey, c13, ex, c28, c46, M_mark]
      · refine go_bipush (v := -2) dX11_mark_31 (by decide) ?_
        refine go_iret dX11_mark_33 rfl rfl ?_
        refine ⟨?_, ?_⟩ <;> simp +decide [c5, ey, c13, ex, c28, M_mark]
    · refine go_bipush (v := -5) dX11_mark_16 (by decide) ?_
      refine go_iret dX11_mark_18 rfl rfl ?_
      refine ⟨?_, ?_⟩ <;> simp +decide [c5, ey, c13, M_mark]
def mms (f : Nat → Int32) (n : Nat) : Int32 := sm (fun i => if f i ≤ 0 then 0 else f i - nI 1) n
def mmg (f : Nat → Int32) (n : Nat) : Int32 := sm (fun i => if f i ≤ 0 then 0 else nI 1) n
def mmv (f : Nat → Int32) (n : Nat) : Int32 := if mmg f n = 0 then -1 else mms f n / mmg f n
def mmc (σ : wg_S) (j c : Nat) : Int32 := mmv (fun i => σ 62 (16 * i + c)) j
theorem cX11_meanOf_ok (κ : gm_K) (b : Bool) (σ : wg_S) (j : Nat) (hj : j ≤ 6) (hJ : σ 47 16 = nI j) (c : Nat) (hc : c < 16) : Fn κ mX11_meanOf [.ref 47, .int (nI c)] (gg b) σ (some (.int (mmc σ j c))) (gg b) σ := by
  refine go_start (by decide) (Nat.le_of_ble_eq_true rfl) ?_
  refine go_iconst (v := nI 0) dX11_meanOf_0 (by decide) ?_
  refine go_istore_n (lv' := [_, _, _, _, _]) dX11_meanOf_1 rfl rfl rfl ?_
  refine go_iconst (v := nI 0) dX11_meanOf_2 (by decide) ?_
  refine go_istore_n (lv' := [_, _, _, _, _]) dX11_meanOf_3 rfl rfl rfl ?_
  refine go_iconst (v := nI 0) dX11_meanOf_4 (by decide) ?_
  refine go_istore (lv' := [_, _, _, _, _]) dX11_meanOf_5 rfl rfl rfl ?_
  skip
  have loop : ∀ (i : Nat), i ≤ j → Go κ mX11_meanOf 7 [some (.ref 47), some (.int (nI c)), some (.int (mmg (fun i => σ 62 (16 * i + c)) i)), some (.int (mms (fun i => σ 62 (16 * i + c)) i)), some (.int (nI i))] [] (wd (gg b) σ) (0, 0) (fun r h' => r = some (.int (mmc σ j c)) ∧ h' = wd (gg b) σ) := by
    refine lo_up j (fun i hi ih => ?_)
    refine go_iload dX11_meanOf_7 rfl ?_
    refine go_aload_n dX11_meanOf_9 rfl ?_
    refine gs_gi dX11_meanOf_10 flX11_140 (gg_47 b) rfl (hJ) ?_
    refine go_icmp_geN 81 dX11_meanOf_13 (by decide) (by omega) (by omega) (fun c13 => ?_) (fun c13 => ?_)
    · refine go_iload_n dX11_meanOf_81 rfl ?_
      refine go_if_ne 89 dX11_meanOf_82 (by decide) (fun c82 => ?_) (fun c82 => ?_)
      · refine go_iload_n dX11_meanOf_89 rfl ?_
        refine go_iload_n dX11_meanOf_90 rfl ?_
        refine go_idiv dX11_meanOf_91 (c82) ?_
        refine go_iret dX11_meanOf_92 rfl rfl ?_
        have e : i = j := by omega
        subst e
        exact ⟨by simp only [mmc, mmv, c13, c82]; simp [c13, c82], rfl⟩
      · refine go_iconst (v := -1) dX11_meanOf_85 (by decide) ?_
        refine go_goto 92 dX11_meanOf_86 (by decide) ?_
        refine go_iret dX11_meanOf_92 rfl rfl ?_
        have e : i = j := by omega
        subst e
        exact ⟨by simp only [mmc, mmv, c13, c82]; simp [c13, c82], rfl⟩
    · refine go_iload_n dX11_meanOf_16 rfl ?_
      refine go_aload_n dX11_meanOf_17 rfl ?_
      refine gs_gr dX11_meanOf_18 flX11_52 (gg_47 b) rfl ?_
      refine go_bipush (v := nI 16) dX11_meanOf_21 (by decide) ?_
      refine go_iload dX11_meanOf_23 rfl ?_
      refine go_imulN dX11_meanOf_25 ?_
      refine go_iload_n dX11_meanOf_26 rfl ?_
      refine go_iaddN dX11_meanOf_27 ?_
      refine gs_iald (_) dX11_meanOf_28 (gg_62 b) (rfl) (by omega) rfl (rfl) ?_
      refine go_if_le 36 dX11_meanOf_29 (by decide) (fun c29 => ?_) (fun c29 => ?_)
      · refine go_iconst (v := nI 0) dX11_meanOf_36 (by decide) ?_
        refine go_iadd dX11_meanOf_37 ?_
        refine go_istore_n (lv' := [_, _, _, _, _]) dX11_meanOf_38 rfl rfl rfl ?_
        refine go_iload_n dX11_meanOf_39 rfl ?_
        refine go_aload_n dX11_meanOf_40 rfl ?_
        refine gs_gr dX11_meanOf_41 flX11_52 (gg_47 b) rfl ?_
        refine go_bipush (v := nI 16) dX11_meanOf_44 (by decide) ?_
        refine go_iload dX11_meanOf_46 rfl ?_
        refine go_imulN dX11_meanOf_48 ?_
        refine go_iload_n dX11_meanOf_49 rfl ?_
        refine go_iaddN dX11_meanOf_50 ?_
        refine gs_iald (_) dX11_meanOf_51 (gg_62 b) (rfl) (by omega) rfl (rfl) ?_
        refine go_if_le 72 dX11_meanOf_52 (by decide) (fun c52 => ?_) (fun c52 => ?_)
        · refine go_iconst (v := nI 0) dX11_meanOf_72 (by decide) ?_
          refine go_iadd dX11_meanOf_73 ?_
          refine go_istore_n (lv' := [_, _, _, _, _]) dX11_meanOf_74 rfl rfl rfl ?_
          refine go_iincN (lv' := [_, _, _, _, _]) 1 dX11_meanOf_75 (by decide) rfl rfl rfl rfl ?_
          refine go_goto 7 dX11_meanOf_78 (by decide) ?_
          first
            | exact absurd c52 c29
            | exact absurd c29 c52
            | exact go_wk (by simp [lvle, mms, mmg, sm, nI_0, c13, c29, c52]) (ih c13)
        · refine go_aload_n dX11_meanOf_55 rfl ?_
          refine gs_gr dX11_meanOf_56 flX11_52 (gg_47 b) rfl ?_
          refine go_bipush (v := nI 16) dX11_meanOf_59 (by decide) ?_
          refine go_iload dX11_meanOf_61 rfl ?_
          refine go_imulN dX11_meanOf_63 ?_
          refine go_iload_n dX11_meanOf_64 rfl ?_
          refine go_iaddN dX11_meanOf_65 ?_
          refine gs_iald (_) dX11_meanOf_66 (gg_62 b) (rfl) (by omega) rfl (rfl) ?_
          refine go_iconst (v := nI 1) dX11_meanOf_67 (by decide) ?_
          refine go_isub dX11_meanOf_68 ?_
          refine go_goto 73 dX11_meanOf_69 (by decide) ?_
          refine go_iadd dX11_meanOf_73 ?_
          refine go_istore_n (lv' := [_, _, _, _, _]) dX11_meanOf_74 rfl rfl rfl ?_
          refine go_iincN (lv' := [_, _, _, _, _]) 1 dX11_meanOf_75 (by decide) rfl rfl rfl rfl ?_
          refine go_goto 7 dX11_meanOf_78 (by decide) ?_
          first
            | exact absurd c52 c29
            | exact absurd c29 c52
            | exact go_wk (by simp [lvle, mms, mmg, sm, nI_0, c13, c29, c52]) (ih c13)
      · refine go_iconst (v := nI 1) dX11_meanOf_32 (by decide) ?_
        refine go_goto 37 dX11_meanOf_33 (by decide) ?_
        refine go_iadd dX11_meanOf_37 ?_
        refine go_istore_n (lv' := [_, _, _, _, _]) dX11_meanOf_38 rfl rfl rfl ?_
        refine go_iload_n dX11_meanOf_39 rfl ?_
        refine go_aload_n dX11_meanOf_40 rfl ?_
        refine gs_gr dX11_meanOf_41 flX11_52 (gg_47 b) rfl ?_
        refine go_bipush (v := nI 16) dX11_meanOf_44 (by decide) ?_
        refine go_iload dX11_meanOf_46 rfl ?_
        refine go_imulN dX11_meanOf_48 ?_
        refine go_iload_n dX11_meanOf_49 rfl ?_
        refine go_iaddN dX11_meanOf_50 ?_
        refine gs_iald (_) dX11_meanOf_51 (gg_62 b) (rfl) (by omega) rfl (rfl) ?_
        refine go_if_le 72 dX11_meanOf_52 (by decide) (fun c52 => ?_) (fun c52 => ?_)
        · refine go_iconst (v := nI 0) dX11_meanOf_72 (by decide) ?_
          refine go_iadd dX11_meanOf_73 ?_
          refine go_istore_n (lv' := [_, _, _, _, _]) dX11_meanOf_74 rfl rfl rfl ?_
          refine go_iincN (lv' := [_, _, _, _, _]) 1 dX11_meanOf_75 (by decide) rfl rfl rfl rfl ?_
          refine go_goto 7 dX11_meanOf_78 (by decide) ?_
          first
            | exact absurd c52 c29
            | exact absurd c29 c52
            | exact go_wk (by simp [lvle, mms, mmg, sm, nI_0, c13, c29, c52]) (ih c13)
        · refine go_aload_n dX11_meanOf_55 rfl ?_
          refine gs_gr dX11_meanOf_56 flX11_52 (gg_47 b) rfl ?_
          refine go_bipush (v := nI 16) dX11_meanOf_59 (by decide) ?_
          refine go_iload dX11_meanOf_61 rfl ?_
          refine go_imulN dX11_meanOf_63 ?_
          refine go_iload_n dX11_meanOf_64 rfl ?_
          refine go_iaddN dX11_meanOf_65 ?_
          refine gs_iald (_) dX11_meanOf_66 (gg_62 b) (rfl) (by omega) rfl (rfl) ?_
          refine go_iconst (v := nI 1) dX11_meanOf_67 (by decide) ?_
          refine go_isub dX11_meanOf_68 ?_
          refine go_goto 73 dX11_meanOf_69 (by decide) ?_
          refine go_iadd dX11_meanOf_73 ?_
          refine go_istore_n (lv' := [_, _, _, _, _]) dX11_meanOf_74 rfl rfl rfl ?_
          refine go_iincN (lv' := [_, _, _, _, _]) 1 dX11_meanOf_75 (by decide) rfl rfl rfl rfl ?_
          refine go_goto 7 dX11_meanOf_78 (by decide) ?_
          first
            | exact absurd c52 c29
            | exact absurd c29 c52
            | exact go_wk (by simp [lvle, mms, mmg, sm, nI_0, c13, c29, c52]) (ih c13)
  exact loop 0 (Nat.zero_le _)
def M_mean (σ : wg_S) (j : Nat) (c : Int32) : Int32 := if hs (σ 47 0) c = false then -1 else mmc σ j c.toNatClampNeg
theorem cX11_mean_ok (κ : gm_K) (b : Bool) (σ : wg_S) (n m j r : Nat) (C : MI σ n m j r) (c : Int32) : Fn κ mX11_mean [.ref 47, .int c] (gg b) σ (some (.int (M_mean σ j c))) (gg b) σ := by
  refine go_start (by decide) (Nat.le_of_ble_eq_true rfl) ?_
  obtain ⟨⟨hN, hn⟩, ⟨hM, hm⟩, ⟨hJ, hj⟩, ⟨hR, hr⟩, hT, hX⟩ := id C
  refine go_aload_n dX11_mean_0 rfl ?_
  refine go_iload_n dX11_mean_1 rfl ?_
  refine gs_callVi dX11_mean_2 cvX11_mean_162 (cX11_isChoir_ok κ b σ _) rfl (gg_47 b) rfl rfl rfl ⟨rfl, rfl⟩ rfl ?_
  refine go_if_eqB 16 dX11_mean_5 (by decide) (fun c5 => ?_) (fun c5 => ?_)
  · refine go_iconst (v := -1) dX11_mean_16 (by decide) ?_
    refine go_iret dX11_mean_17 rfl rfl ?_
    exact ⟨by simp +decide [c5, M_mean], rfl⟩
  · obtain ⟨x, hx, rfl⟩ := hs_ix (by omega) (hN ▸ c5)
    have ex := nI_clamp (show x < 2 ^ 31 by omega)
    refine go_aload_n dX11_mean_8 rfl ?_
    refine go_iload_n dX11_mean_9 rfl ?_
    refine gs_callVi dX11_mean_10 cvX11_mean_187 (cX11_meanOf_ok κ b σ j hj hJ x (by omega)) rfl (gg_47 b) rfl rfl rfl ⟨rfl, rfl⟩ rfl ?_
    refine go_goto 17 dX11_mean_13 (by decide) ?_
    refine go_iret dX11_mean_17 rfl rfl ?_
    exact ⟨by simp +decide [c5, ex, M_mean], rfl⟩
def mss (p q : Nat → Int32) (n : Nat) : Int32 := sm (fun c => if p c ≤ 0 then 0 else if q c ≤ 0 then 0 else p c - q c) n
def msg (p q : Nat → Int32) (n : Nat) : Int32 := sm (fun c => if p c ≤ 0 then 0 else if q c ≤ 0 then 0 else nI 1) n
def msv (p q : Nat → Int32) (n : Nat) : Int32 := if msg p q n = 0 then -200 else if mss p q n < 0 then -((-mss p q n + msg p q n - nI 1) / msg p q n) else mss p q n / msg p q n
def M_scale (σ : wg_S) (n : Nat) (p q : Int32) : Int32 := if hs (σ 47 16) p = false then -200 else if hs (σ 47 16) q = false then -200 else if p = q then -200 else msv (fun c => σ 62 (16 * p.toNatClampNeg + c)) (fun c => σ 62 (16 * q.toNatClampNeg + c)) n
theorem cX11_scale_ok (κ : gm_K) (b : Bool) (σ : wg_S) (n m j r : Nat) (C : MI σ n m j r) (p q : Int32) : Fn κ mX11_scale [.ref 47, .int p, .int q] (gg b) σ (some (.int (M_scale σ n p q))) (gg b) σ := by
  refine go_start (by decide) (Nat.le_of_ble_eq_true rfl) ?_
  obtain ⟨⟨hN, hn⟩, ⟨hM, hm⟩, ⟨hJ, hj⟩, ⟨hR, hr⟩, hT, hX⟩ := id C
  refine go_aload_n dX11_scale_0 rfl ?_
  refine go_iload_n dX11_scale_1 rfl ?_
  refine gs_callVi dX11_scale_2 cvX11_scale_182 (cX11_isJudge_ok κ b σ _) rfl (gg_47 b) rfl rfl rfl ⟨rfl, rfl⟩ rfl ?_
  refine go_if_eqB 21 dX11_scale_5 (by decide) (fun c5 => ?_) (fun c5 => ?_)
  · refine go_sipush (v := -200) dX11_scale_21 (by decide) ?_
    refine go_iret dX11_scale_24 rfl rfl ?_
    exact ⟨by simp +decide [c5, M_scale], rfl⟩
  · refine go_aload_n dX11_scale_8 rfl ?_
    refine go_iload_n dX11_scale_9 rfl ?_
    refine gs_callVi dX11_scale_10 cvX11_scale_182 (cX11_isJudge_ok κ b σ _) rfl (gg_47 b) rfl rfl rfl ⟨rfl, rfl⟩ rfl ?_
    refine go_if_eqB 21 dX11_scale_13 (by decide) (fun c13 => ?_) (fun c13 => ?_)
    · refine go_sipush (v := -200) dX11_scale_21 (by decide) ?_
      refine go_iret dX11_scale_24 rfl rfl ?_
      exact ⟨by simp +decide [c5, c13, M_scale], rfl⟩
    · refine go_iload_n dX11_scale_16 rfl ?_
      refine go_iload_n dX11_scale_17 rfl ?_
      refine go_icmp_ne 25 dX11_scale_18 (by decide) (fun c18 => ?_) (fun c18 => ?_)
      · obtain ⟨x, hx, rfl⟩ := hs_ix (by omega) (hJ ▸ c5)
        obtain ⟨y, hy, rfl⟩ := hs_ix (by omega) (hJ ▸ c13)
        have ex := nI_clamp (show x < 2 ^ 31 by omega)
        have ey := nI_clamp (show y < 2 ^ 31 by omega)
        refine go_iconst (v := nI 0) dX11_scale_25 (by decide) ?_
        refine go_istore_n (lv' := [_, _, _, _, _, _, _]) dX11_scale_26 rfl rfl rfl ?_
        refine go_iconst (v := nI 0) dX11_scale_27 (by decide) ?_
        refine go_istore (lv' := [_, _, _, _, _, _, _]) dX11_scale_28 rfl rfl rfl ?_
        refine go_iconst (v := nI 0) dX11_scale_30 (by decide) ?_
        refine go_istore (lv' := [_, _, _, _, _, _, _]) dX11_scale_31 rfl rfl rfl ?_
        have hA : ¬ nI x = nI y := c18
        have loop : ∀ (i : Nat), i ≤ n → Go κ mX11_scale 33 [some (.ref 47), some (.int (nI x)), some (.int (nI y)), some (.int (msg (fun c => σ 62 (16 * x + c)) (fun c => σ 62 (16 * y + c)) i)), some (.int (mss (fun c => σ 62 (16 * x + c)) (fun c => σ 62 (16 * y + c)) i)), some (.int (nI i)), none] [] (wd (gg b) σ) (0, 0) (fun r h' => r = some (.int (M_scale σ n (nI x) (nI y))) ∧ h' = wd (gg b) σ) := by
          have hF : M_scale σ n (nI x) (nI y) = msv (fun c => σ 62 (16 * x + c)) (fun c => σ 62 (16 * y + c)) n := by simp [M_scale, c5, c13, hA, ex, ey]
          refine lo_up n (fun i hi ih => ?_)
          refine go_iload dX11_scale_33 rfl ?_
          refine go_aload_n dX11_scale_35 rfl ?_
          refine gs_gi dX11_scale_36 flX11_134 (gg_47 b) rfl (hN) ?_
          refine go_icmp_geN 137 dX11_scale_39 (by decide) (by omega) (by omega) (fun c39 => ?_) (fun c39 => ?_)
          · refine go_iload_n dX11_scale_137 rfl ?_
            refine go_if_ne 147 dX11_scale_138 (by decide) (fun c138 => ?_) (fun c138 => ?_)
            · refine go_iload dX11_scale_147 rfl ?_
              refine go_if_lt 159 dX11_scale_149 (by decide) (fun c149 => ?_) (fun c149 => ?_)
              · refine go_iload dX11_scale_159 rfl ?_
                refine go_ineg dX11_scale_161 ?_
                refine go_iload_n dX11_scale_162 rfl ?_
                refine gs_callSi dX11_scale_163 csX11_scale_191 (cX11_up_ok κ b σ _ _ c138) rfl rfl rfl ⟨rfl, rfl⟩ rfl ?_
                refine go_ineg dX11_scale_166 ?_
                refine go_iret dX11_scale_167 rfl rfl ?_
                have e : i = n := by omega
                subst e
                exact ⟨by rw [hF]; simp only [msv]; simp [c39, c138, c149], rfl⟩
              · refine go_iload dX11_scale_152 rfl ?_
                refine go_iload_n dX11_scale_154 rfl ?_
                refine go_idiv dX11_scale_155 (c138) ?_
                refine go_goto 167 dX11_scale_156 (by decide) ?_
                refine go_iret dX11_scale_167 rfl rfl ?_
                have e : i = n := by omega
                subst e
                exact ⟨by rw [hF]; simp only [msv]; simp [c39, c138, c149], rfl⟩
            · refine go_sipush (v := -200) dX11_scale_141 (by decide) ?_
              refine go_goto 167 dX11_scale_144 (by decide) ?_
              refine go_iret dX11_scale_167 rfl rfl ?_
              have e : i = n := by omega
              subst e
              exact ⟨by rw [hF]; simp only [msv]; simp [c39, c138], rfl⟩
          · refine go_aload_n dX11_scale_42 rfl ?_
            refine gs_gr dX11_scale_43 flX11_52 (gg_47 b) rfl ?_
            refine go_bipush (v := nI 16) dX11_scale_46 (by decide) ?_
            refine go_iload_n dX11_scale_48 rfl ?_
            refine go_imulN dX11_scale_49 ?_
            refine go_iload dX11_scale_50 rfl ?_
            refine go_iaddN dX11_scale_52 ?_
            refine gs_iald (_) dX11_scale_53 (gg_62 b) (rfl) (by omega) rfl (rfl) ?_
            refine go_if_le 76 dX11_scale_54 (by decide) (fun c54 => ?_) (fun c54 => ?_)
            · refine go_iconst (v := nI 0) dX11_scale_76 (by decide) ?_
              refine go_istore (lv' := [_, _, _, _, _, _, _]) dX11_scale_77 rfl rfl rfl ?_
              refine go_iload_n dX11_scale_79 rfl ?_
              refine go_iload dX11_scale_80 rfl ?_
              refine go_if_eq 89 dX11_scale_82 (by decide) (fun _ => ?_) (fun z => absurd z (by decide))
              refine go_iconst (v := nI 0) dX11_scale_89 (by decide) ?_
              refine go_iadd dX11_scale_90 ?_
              refine go_istore_n (lv' := [_, _, _, _, _, _, _]) dX11_scale_91 rfl rfl rfl ?_
              refine go_iload dX11_scale_92 rfl ?_
              refine go_iload dX11_scale_94 rfl ?_
              refine go_if_eq 127 dX11_scale_96 (by decide) (fun _ => ?_) (fun z => absurd z (by decide))
              refine go_iconst (v := nI 0) dX11_scale_127 (by decide) ?_
              refine go_iadd dX11_scale_128 ?_
              refine go_istore (lv' := [_, _, _, _, _, _, _]) dX11_scale_129 rfl rfl rfl ?_
              refine go_iincN (lv' := [_, _, _, _, _, _, _]) 1 dX11_scale_131 (by decide) rfl rfl rfl rfl ?_
              refine go_goto 33 dX11_scale_134 (by decide) ?_
              exact go_wk (by simp [lvle, mss, msg, sm, nI_0, c39, c54]) (ih c39)
            · refine go_aload_n dX11_scale_57 rfl ?_
              refine gs_gr dX11_scale_58 flX11_52 (gg_47 b) rfl ?_
              refine go_bipush (v := nI 16) dX11_scale_61 (by decide) ?_
              refine go_iload_n dX11_scale_63 rfl ?_
              refine go_imulN dX11_scale_64 ?_
              refine go_iload dX11_scale_65 rfl ?_
              refine go_iaddN dX11_scale_67 ?_
              refine gs_iald (_) dX11_scale_68 (gg_62 b) (rfl) (by omega) rfl (rfl) ?_
              refine go_if_le 76 dX11_scale_69 (by decide) (fun c69 => ?_) (fun c69 => ?_)
              · refine go_iconst (v := nI 0) dX11_scale_76 (by decide) ?_
                refine go_istore (lv' := [_, _, _, _, _, _, _]) dX11_scale_77 rfl rfl rfl ?_
                refine go_iload_n dX11_scale_79 rfl ?_
                refine go_iload dX11_scale_80 rfl ?_
                refine go_if_eq 89 dX11_scale_82 (by decide) (fun _ => ?_) (fun z => absurd z (by decide))
                refine go_iconst (v := nI 0) dX11_scale_89 (by decide) ?_
                refine go_iadd dX11_scale_90 ?_
                refine go_istore_n (lv' := [_, _, _, _, _, _, _]) dX11_scale_91 rfl rfl rfl ?_
                refine go_iload dX11_scale_92 rfl ?_
                refine go_iload dX11_scale_94 rfl ?_
                refine go_if_eq 127 dX11_scale_96 (by decide) (fun _ => ?_) (fun z => absurd z (by decide))
                refine go_iconst (v := nI 0) dX11_scale_127 (by decide) ?_
                refine go_iadd dX11_scale_128 ?_
                refine go_istore (lv' := [_, _, _, _, _, _, _]) dX11_scale_129 rfl rfl rfl ?_
                refine go_iincN (lv' := [_, _, _, _, _, _, _]) 1 dX11_scale_131 (by decide) rfl rfl rfl rfl ?_
                refine go_goto 33 dX11_scale_134 (by decide) ?_
                exact go_wk (by simp [lvle, mss, msg, sm, nI_0, c39, c54, c69]) (ih c39)
              · refine go_iconst (v := nI 1) dX11_scale_72 (by decide) ?_
                refine go_goto 77 dX11_scale_73 (by decide) ?_
                refine go_istore (lv' := [_, _, _, _, _, _, _]) dX11_scale_77 rfl rfl rfl ?_
                refine go_iload_n dX11_scale_79 rfl ?_
                refine go_iload dX11_scale_80 rfl ?_
                refine go_if_eq 89 dX11_scale_82 (by decide) (fun z => absurd z (by decide)) (fun _ => ?_)
                refine go_iconst (v := nI 1) dX11_scale_85 (by decide) ?_
                refine go_goto 90 dX11_scale_86 (by decide) ?_
                refine go_iadd dX11_scale_90 ?_
                refine go_istore_n (lv' := [_, _, _, _, _, _, _]) dX11_scale_91 rfl rfl rfl ?_
                refine go_iload dX11_scale_92 rfl ?_
                refine go_iload dX11_scale_94 rfl ?_
                refine go_if_eq 127 dX11_scale_96 (by decide) (fun z => absurd z (by decide)) (fun _ => ?_)
                refine go_aload_n dX11_scale_99 rfl ?_
                refine gs_gr dX11_scale_100 flX11_52 (gg_47 b) rfl ?_
                refine go_bipush (v := nI 16) dX11_scale_103 (by decide) ?_
                refine go_iload_n dX11_scale_105 rfl ?_
                refine go_imulN dX11_scale_106 ?_
                refine go_iload dX11_scale_107 rfl ?_
                refine go_iaddN dX11_scale_109 ?_
                refine gs_iald (_) dX11_scale_110 (gg_62 b) (rfl) (by omega) rfl (rfl) ?_
                refine go_aload_n dX11_scale_111 rfl ?_
                refine gs_gr dX11_scale_112 flX11_52 (gg_47 b) rfl ?_
                refine go_bipush (v := nI 16) dX11_scale_115 (by decide) ?_
                refine go_iload_n dX11_scale_117 rfl ?_
                refine go_imulN dX11_scale_118 ?_
                refine go_iload dX11_scale_119 rfl ?_
                refine go_iaddN dX11_scale_121 ?_
                refine gs_iald (_) dX11_scale_122 (gg_62 b) (rfl) (by omega) rfl (rfl) ?_
                refine go_isub dX11_scale_123 ?_
                refine go_goto 128 dX11_scale_124 (by decide) ?_
                refine go_iadd dX11_scale_128 ?_
                refine go_istore (lv' := [_, _, _, _, _, _, _]) dX11_scale_129 rfl rfl rfl ?_
                refine go_iincN (lv' := [_, _, _, _, _, _, _]) 1 dX11_scale_131 (by decide) rfl rfl rfl rfl ?_
                refine go_goto 33 dX11_scale_134 (by decide) ?_
                exact go_wk (by simp [lvle, mss, msg, sm, nI_0, c39, c54, c69]) (ih c39)
        exact go_wk (by exact ⟨rfl, rfl, rfl, rfl, rfl, rfl, trivial⟩) (loop 0 (Nat.zero_le _))
      · refine go_sipush (v := -200) dX11_scale_21 (by decide) ?_
        refine go_iret dX11_scale_24 rfl rfl ?_
        exact ⟨by simp +decide [c5, c13, c18, M_scale], rfl⟩
def M_about (σ : wg_S) (c w : Int32) : Int32 := if hs (σ 47 0) c = false then -1 else
  if w = nI 0 then σ 48 c.toNatClampNeg else if w = nI 1 then σ 49 c.toNatClampNeg else if w = nI 2 then msz σ c.toNatClampNeg
  else if w = nI 3 then bi (mth σ c.toNatClampNeg) else if w = nI 4 then σ 52 c.toNatClampNeg else if w = nI 5 then σ 53 c.toNatClampNeg
  else if w = nI 6 then σ 55 c.toNatClampNeg else if w = nI 7 then σ 56 c.toNatClampNeg else if w = nI 8 then σ 54 c.toNatClampNeg else -1
theorem cX11_about_ok (κ : gm_K) (b : Bool) (σ : wg_S) (n m j r : Nat) (C : MI σ n m j r) (c w : Int32) : Fn κ mX11_about [.ref 47, .int c, .int w] (gg b) σ (some (.int (M_about σ c w))) (gg b) σ := by
  refine go_start (by decide) (Nat.le_of_ble_eq_true rfl) ?_
  obtain ⟨⟨hN, hn⟩, ⟨hM, hm⟩, ⟨hJ, hj⟩, ⟨hR, hr⟩, hT, hX⟩ := id C
  refine go_aload_n dX11_about_0 rfl ?_
  refine go_iload_n dX11_about_1 rfl ?_
  refine gs_callVi dX11_about_2 cvX11_about_162 (cX11_isChoir_ok κ b σ _) rfl (gg_47 b) rfl rfl rfl ⟨rfl, rfl⟩ rfl ?_
  refine go_if_neB 10 dX11_about_5 (by decide) (fun c5 => ?_) (fun c5 => ?_)
  · obtain ⟨x, hx, rfl⟩ := hs_ix (by omega) (hN ▸ c5)
    have ex := nI_clamp (show x < 2 ^ 31 by omega)
    refine go_iload_n dX11_about_10 rfl ?_
    refine go_tsw 8 [60, 67, 74, 80, 94, 101, 108, 115, 122] 129 dX11_about_11 (by decide) (by decide) (fun c11 => ?_) (fun k hk c11 => ?_)
    · refine go_iconst (v := -1) dX11_about_129 (by decide) ?_
      refine go_iret dX11_about_130 rfl rfl ?_
      exact ⟨by simp [M_about, c5, c11 0 (by decide), c11 1 (by decide), c11 2 (by decide), c11 3 (by decide), c11 4 (by decide), c11 5 (by decide), c11 6 (by decide), c11 7 (by decide), c11 8 (by decide)], rfl⟩
    · match k, hk, c11 with
      | 0, _, c11 =>
        show Go κ mX11_about 60 _ _ _ _ _
        refine go_aload_n dX11_about_60 rfl ?_
        refine gs_gr dX11_about_61 flX11_7 (gg_47 b) rfl ?_
        refine go_iload_n dX11_about_64 rfl ?_
        refine gs_iald (_) dX11_about_65 (gg_48 b) (rfl) (by omega) rfl (rfl) ?_
        refine go_iret dX11_about_66 rfl rfl ?_
        exact ⟨by simp +decide [c5, ex, c11, M_about, bi], rfl⟩
      | 1, _, c11 =>
        show Go κ mX11_about 67 _ _ _ _ _
        refine go_aload_n dX11_about_67 rfl ?_
        refine gs_gr dX11_about_68 flX11_13 (gg_47 b) rfl ?_
        refine go_iload_n dX11_about_71 rfl ?_
        refine gs_iald (_) dX11_about_72 (gg_49 b) (rfl) (by omega) rfl (rfl) ?_
        refine go_iret dX11_about_73 rfl rfl ?_
        exact ⟨by simp +decide [c5, ex, c11, M_about, bi], rfl⟩
      | 2, _, c11 =>
        show Go κ mX11_about 74 _ _ _ _ _
        refine go_aload_n dX11_about_74 rfl ?_
        refine go_iload_n dX11_about_75 rfl ?_
        refine gs_callVi dX11_about_76 cvX11_about_197 (cX11_sizeOf_ok κ b σ x (by omega)) rfl (gg_47 b) rfl rfl rfl ⟨rfl, rfl⟩ rfl ?_
        refine go_iret dX11_about_79 rfl rfl ?_
        exact ⟨by simp +decide [c5, ex, c11, M_about, bi], rfl⟩
      | 3, _, c11 =>
        show Go κ mX11_about 80 _ _ _ _ _
        refine go_aload_n dX11_about_80 rfl ?_
        refine go_iload_n dX11_about_81 rfl ?_
        refine gs_callVi dX11_about_82 cvX11_about_200 (cX11_isThere_ok κ b σ x (by omega) (hX x hx)) rfl (gg_47 b) rfl rfl rfl ⟨rfl, rfl⟩ rfl ?_
        refine go_if_eqB 92 dX11_about_85 (by decide) (fun c85 => ?_) (fun c85 => ?_)
        · refine go_iconst (v := nI 0) dX11_about_92 (by decide) ?_
          refine go_iret dX11_about_93 rfl rfl ?_
          exact ⟨by simp +decide [c5, ex, c11, c85, M_about, bi], rfl⟩
        · refine go_iconst (v := nI 1) dX11_about_88 (by decide) ?_
          refine go_goto 93 dX11_about_89 (by decide) ?_
          refine go_iret dX11_about_93 rfl rfl ?_
          exact ⟨by simp +decide [c5, ex, c11, c85, M_about, bi], rfl⟩
      | 4, _, c11 =>
        show Go κ mX11_about 94 _ _ _ _ _
        refine go_aload_n dX11_about_94 rfl ?_
        refine gs_gr dX11_about_95 flX11_22 (gg_47 b) rfl ?_
        refine go_iload_n dX11_about_98 rfl ?_
        refine gs_iald (_) dX11_about_99 (gg_52 b) (rfl) (by omega) rfl (rfl) ?_
        refine go_iret dX11_about_100 rfl rfl ?_
        exact ⟨by simp +decide [c5, ex, c11, M_about, bi], rfl⟩
      | 5, _, c11 =>
        show Go κ mX11_about 101 _ _ _ _ _
        refine go_aload_n dX11_about_101 rfl ?_
        refine gs_gr dX11_about_102 flX11_25 (gg_47 b) rfl ?_
        refine go_iload_n dX11_about_105 rfl ?_
        refine gs_iald (_) dX11_about_106 (gg_53 b) (rfl) (by omega) rfl (rfl) ?_
        refine go_iret dX11_about_107 rfl rfl ?_
        exact ⟨by simp +decide [c5, ex, c11, M_about, bi], rfl⟩
      | 6, _, c11 =>
        show Go κ mX11_about 108 _ _ _ _ _
        refine go_aload_n dX11_about_108 rfl ?_
        refine gs_gr dX11_about_109 flX11_31 (gg_47 b) rfl ?_
        refine go_iload_n dX11_about_112 rfl ?_
        refine gs_iald (_) dX11_about_113 (gg_55 b) (rfl) (by omega) rfl (rfl) ?_
        refine go_iret dX11_about_114 rfl rfl ?_
        exact ⟨by simp +decide [c5, ex, c11, M_about, bi], rfl⟩
      | 7, _, c11 =>
        show Go κ mX11_about 115 _ _ _ _ _
        refine go_aload_n dX11_about_115 rfl ?_
        refine gs_gr dX11_about_116 flX11_34 (gg_47 b) rfl ?_
        refine go_iload_n dX11_about_119 rfl ?_
        refine gs_iald (_) dX11_about_120 (gg_56 b) (rfl) (by omega) rfl (rfl) ?_
        refine go_iret dX11_about_121 rfl rfl ?_
        exact ⟨by simp +decide [c5, ex, c11, M_about, bi], rfl⟩
      | 8, _, c11 =>
        show Go κ mX11_about 122 _ _ _ _ _
        refine go_aload_n dX11_about_122 rfl ?_
        refine gs_gr dX11_about_123 flX11_28 (gg_47 b) rfl ?_
        refine go_iload_n dX11_about_126 rfl ?_
        refine gs_iald (_) dX11_about_127 (gg_54 b) (rfl) (by omega) rfl (rfl) ?_
        refine go_iret dX11_about_128 rfl rfl ?_
        exact ⟨by simp +decide [c5, ex, c11, M_about, bi], rfl⟩
      | k + 9, hk, _ => exact absurd hk (by omega)
  · refine go_iconst (v := -1) dX11_about_8 (by decide) ?_
    refine go_iret dX11_about_9 rfl rfl ?_
    exact ⟨by simp +decide [c5, M_about, bi], rfl⟩
def M_voice (σ : wg_S) (c v : Int32) : Int32 := if hs (σ 47 0) c = false then -1 else if wi v (nI 0) (nI 3) = false then -1 else σ 50 (4 * c.toNatClampNeg + v.toNatClampNeg)
theorem cX11_voice_ok (κ : gm_K) (b : Bool) (σ : wg_S) (n m j r : Nat) (C : MI σ n m j r) (c v : Int32) : Fn κ mX11_voice [.ref 47, .int c, .int v] (gg b) σ (some (.int (M_voice σ c v))) (gg b) σ := by
  refine go_start (by decide) (Nat.le_of_ble_eq_true rfl) ?_
  obtain ⟨⟨hN, hn⟩, ⟨hM, hm⟩, ⟨hJ, hj⟩, ⟨hR, hr⟩, hT, hX⟩ := id C
  refine go_aload_n dX11_voice_0 rfl ?_
  refine go_iload_n dX11_voice_1 rfl ?_
  refine gs_callVi dX11_voice_2 cvX11_voice_162 (cX11_isChoir_ok κ b σ _) rfl (gg_47 b) rfl rfl rfl ⟨rfl, rfl⟩ rfl ?_
  refine go_if_eqB 33 dX11_voice_5 (by decide) (fun c5 => ?_) (fun c5 => ?_)
  · refine go_iconst (v := -1) dX11_voice_33 (by decide) ?_
    refine go_iret dX11_voice_34 rfl rfl ?_
    exact ⟨by simp +decide [c5, M_voice], rfl⟩
  · obtain ⟨x, hx, rfl⟩ := hs_ix (by omega) (hN ▸ c5)
    have ex := nI_clamp (show x < 2 ^ 31 by omega)
    refine go_iload_n dX11_voice_8 rfl ?_
    refine go_i2l dX11_voice_9 ?_
    refine go_lconst (v := 0) dX11_voice_10 (by decide) ?_
    refine go_ldc2 dX11_voice_11 klX11_156 ?_
    refine gs_callSi dX11_voice_14 csX11_voice_145 (cX11_isIn_ok κ b σ _ (nI 0) (nI 3) _ _ (by decide) (by decide)) rfl rfl rfl ⟨rfl, rfl⟩ rfl ?_
    refine go_if_eqB 33 dX11_voice_17 (by decide) (fun c17 => ?_) (fun c17 => ?_)
    · refine go_iconst (v := -1) dX11_voice_33 (by decide) ?_
      refine go_iret dX11_voice_34 rfl rfl ?_
      exact ⟨by simp +decide [c5, ex, c17, M_voice], rfl⟩
    · have c17' := c17
      rw [wi_hs _ 3 (by decide)] at c17'
      obtain ⟨y, hy, rfl⟩ := hs_ix (by decide) c17'
      have ey := nI_clamp (show y < 2 ^ 31 by omega)
      refine go_aload_n dX11_voice_20 rfl ?_
      refine gs_gr dX11_voice_21 flX11_16 (gg_47 b) rfl ?_
      refine go_iconst (v := nI 4) dX11_voice_24 (by decide) ?_
      refine go_iload_n dX11_voice_25 rfl ?_
      refine go_imulN dX11_voice_26 ?_
      refine go_iload_n dX11_voice_27 rfl ?_
      refine go_iaddN dX11_voice_28 ?_
      refine gs_iald (_) dX11_voice_29 (gg_50 b) (rfl) (by omega) rfl (rfl) ?_
      refine go_goto 34 dX11_voice_30 (by decide) ?_
      refine go_iret dX11_voice_34 rfl rfl ?_
      exact ⟨by simp +decide [c5, ex, c17, ey, M_voice], rfl⟩
def M_vote (σ : wg_S) (c w : Int32) : Int32 × wg_S := if hs (σ 47 0) c = false then (-5, σ) else if wi w (-1) (nI 7) = false then (-5, σ) else (σ 54 c.toNatClampNeg, us σ 54 c.toNatClampNeg w)
theorem cX11_vote_ok (κ : gm_K) (b : Bool) (σ : wg_S) (n m j r : Nat) (C : MI σ n m j r) (c w : Int32) : Fn κ mX11_vote [.ref 47, .int c, .int w] (gg b) σ (some (.int ((M_vote σ c w).1))) (gg b) (M_vote σ c w).2 := by
  refine go_start (by decide) (Nat.le_of_ble_eq_true rfl) ?_
  obtain ⟨⟨hN, hn⟩, ⟨hM, hm⟩, ⟨hJ, hj⟩, ⟨hR, hr⟩, hT, hX⟩ := id C
  refine go_aload_n dX11_vote_0 rfl ?_
  refine go_iload_n dX11_vote_1 rfl ?_
  refine gs_callVi dX11_vote_2 cvX11_vote_162 (cX11_isChoir_ok κ b σ _) rfl (gg_47 b) rfl rfl rfl ⟨rfl, rfl⟩ rfl ?_
  refine go_if_eqB 22 dX11_vote_5 (by decide) (fun c5 => ?_) (fun c5 => ?_)
  · refine go_bipush (v := -5) dX11_vote_22 (by decide) ?_
    refine go_iret dX11_vote_24 rfl rfl ?_
    refine ⟨?_, ?_⟩ <;> simp +decide [c5, M_vote]
  · obtain ⟨x, hx, rfl⟩ := hs_ix (by omega) (hN ▸ c5)
    have ex := nI_clamp (show x < 2 ^ 31 by omega)
    refine go_iload_n dX11_vote_8 rfl ?_
    refine go_i2l dX11_vote_9 ?_
    refine go_ldc2 dX11_vote_10 klX11_261 ?_
    refine go_ldc2 dX11_vote_13 klX11_143 ?_
    refine gs_callSi dX11_vote_16 csX11_vote_145 (cX11_isIn_ok κ b σ _ (-1) (nI 7) _ _ (by decide) (by decide)) rfl rfl rfl ⟨rfl, rfl⟩ rfl ?_
    refine go_if_neB 25 dX11_vote_19 (by decide) (fun c19 => ?_) (fun c19 => ?_)
    · refine go_aload_n dX11_vote_25 rfl ?_
      refine gs_gr dX11_vote_26 flX11_28 (gg_47 b) rfl ?_
      refine go_iload_n dX11_vote_29 rfl ?_
      refine gs_iald (_) dX11_vote_30 (gg_54 b) (rfl) (by omega) rfl (rfl) ?_
      refine go_istore_n (lv' := [_, _, _, _]) dX11_vote_31 rfl rfl rfl ?_
      refine go_aload_n dX11_vote_32 rfl ?_
      refine gs_gr dX11_vote_33 flX11_28 (gg_47 b) rfl ?_
      refine go_iload_n dX11_vote_36 rfl ?_
      refine go_iload_n dX11_vote_37 rfl ?_
      refine gs_iast (_) dX11_vote_38 (gg_54 b) (rfl) (by omega) rfl ?_
      refine go_iload_n dX11_vote_39 rfl ?_
      refine go_iret dX11_vote_40 rfl rfl ?_
      refine ⟨?_, ?_⟩ <;> simp +decide [c5, ex, c19, M_vote]
    · refine go_bipush (v := -5) dX11_vote_22 (by decide) ?_
      refine go_iret dX11_vote_24 rfl rfl ?_
      refine ⟨?_, ?_⟩ <;> simp +decide [c5, ex, c19, M_vote]
def M_tall (σ : wg_S) (c t : Int32) : Int32 × wg_S := if hs (σ 47 0) c = false then (-1, σ) else if wi t (nI 0) (nI 9) = false then (-2, σ) else (σ 52 c.toNatClampNeg, us σ 52 c.toNatClampNeg t)
theorem cX11_tall_ok (κ : gm_K) (b : Bool) (σ : wg_S) (n m j r : Nat) (C : MI σ n m j r) (c t : Int32) : Fn κ mX11_tall [.ref 47, .int c, .int t] (gg b) σ (some (.int ((M_tall σ c t).1))) (gg b) (M_tall σ c t).2 := by
  refine go_start (by decide) (Nat.le_of_ble_eq_true rfl) ?_
  obtain ⟨⟨hN, hn⟩, ⟨hM, hm⟩, ⟨hJ, hj⟩, ⟨hR, hr⟩, hT, hX⟩ := id C
  refine go_aload_n dX11_tall_0 rfl ?_
  refine go_iload_n dX11_tall_1 rfl ?_
  refine gs_callVi dX11_tall_2 cvX11_tall_162 (cX11_isChoir_ok κ b σ _) rfl (gg_47 b) rfl rfl rfl ⟨rfl, rfl⟩ rfl ?_
  refine go_if_neB 10 dX11_tall_5 (by decide) (fun c5 => ?_) (fun c5 => ?_)
  · obtain ⟨x, hx, rfl⟩ := hs_ix (by omega) (hN ▸ c5)
    have ex := nI_clamp (show x < 2 ^ 31 by omega)
    refine go_iload_n dX11_tall_10 rfl ?_
    refine go_i2l dX11_tall_11 ?_
    refine go_lconst (v := 0) dX11_tall_12 (by decide) ?_
    refine go_ldc2 dX11_tall_13 klX11_178 ?_
    refine gs_callSi dX11_tall_16 csX11_tall_145 (cX11_isIn_ok κ b σ _ (nI 0) (nI 9) _ _ (by decide) (by decide)) rfl rfl rfl ⟨rfl, rfl⟩ rfl ?_
    refine go_if_neB 25 dX11_tall_19 (by decide) (fun c19 => ?_) (fun c19 => ?_)
    · refine go_aload_n dX11_tall_25 rfl ?_
      refine gs_gr dX11_tall_26 flX11_22 (gg_47 b) rfl ?_
      refine go_iload_n dX11_tall_29 rfl ?_
      refine gs_iald (_) dX11_tall_30 (gg_52 b) (rfl) (by omega) rfl (rfl) ?_
      refine go_istore_n (lv' := [_, _, _, _]) dX11_tall_31 rfl rfl rfl ?_
      refine go_aload_n dX11_tall_32 rfl ?_
      refine gs_gr dX11_tall_33 flX11_22 (gg_47 b) rfl ?_
      refine go_iload_n dX11_tall_36 rfl ?_
      refine go_iload_n dX11_tall_37 rfl ?_
      refine gs_iast (_) dX11_tall_38 (gg_52 b) (rfl) (by omega) rfl ?_
      refine go_iload_n dX11_tall_39 rfl ?_
      refine go_iret dX11_tall_40 rfl rfl ?_
      refine ⟨?_, ?_⟩ <;> simp +decide [c5, ex, c19, M_tall]
    · refine go_bipush (v := -2) dX11_tall_22 (by decide) ?_
      refine go_iret dX11_tall_24 rfl rfl ?_
      refine ⟨?_, ?_⟩ <;> simp +decide [c5, ex, c19, M_tall]
  · refine go_iconst (v := -1) dX11_tall_8 (by decide) ?_
    refine go_iret dX11_tall_9 rfl rfl ?_
    refine ⟨?_, ?_⟩ <;> simp +decide [c5, M_tall]
