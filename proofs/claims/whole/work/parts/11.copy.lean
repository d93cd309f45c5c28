/-! a whole row written: System.arraycopy of ints -/
def ua (σ : wg_S) (p : Nat) (f : Nat → Int32) : wg_S := fun p' => if p' = p then f else σ p'
theorem ua_s {σ : wg_S} {p : Nat} {f : Nat → Int32} : ua σ p f p = f := by simp [ua]
theorem ua_p {σ : wg_S} {p q : Nat} {f : Nat → Int32} (h : q ≠ p) : ua σ p f q = σ q := by simp [ua, h]
theorem ua_us {σ : wg_S} {p k : Nat} {v : Int32} : us σ p k v = ua σ p (upd (σ p) k v) := rfl
theorem ua_ua {σ : wg_S} {p : Nat} {f g : Nat → Int32} : ua (ua σ p f) p g = ua σ p g := by
  funext x
  by_cases h : x = p
  · subst h; rw [ua_s, ua_s]
  · rw [ua_p h, ua_p h, ua_p h]
theorem ua_cm {σ : wg_S} {p q : Nat} {f g : Nat → Int32} (h : p ≠ q) : ua (ua σ p f) q g = ua (ua σ q g) p f := by
  funext x
  by_cases h1 : x = p
  · subst h1; rw [ua_p h, ua_s, ua_s]
  · by_cases h2 : x = q
    · subst h2; rw [ua_s, ua_p h1, ua_s]
    · rw [ua_p h2, ua_p h1, ua_p h1, ua_p h2]
theorem ua_id {σ : wg_S} {p : Nat} : ua σ p (σ p) = σ := by
  funext x
  by_cases h : x = p
  · subst h; rw [ua_s]
  · rw [ua_p h]
theorem ua_u {σ : wg_S} {p k : Nat} {f : Nat → Int32} {v : Int32} : us (ua σ p f) p k v = ua σ p (upd f k v) := by rw [ua_us, ua_s, ua_ua]
theorem ua_un {σ : wg_S} {p q k : Nat} {f : Nat → Int32} {v : Int32} (h : p ≠ q) : us (ua σ p f) q k v = ua (us σ q k v) p f := by rw [ua_us, ua_cm h, ua_p (Ne.symm h), ← ua_us]
theorem wd_setU {g : wg_G} {σ : wg_S} {p t len : Nat} {f : Nat → Int32} (hg : g[p]? = some (.inr (t, len))) : (wd g σ).set p (.inl (t, len, f)) = wd g (ua σ p f) := by
  have hne : ∀ (i : Nat), i ≠ p → ∀ e, wg_e (ua σ p f) i e = wg_e σ i e := by
    intro i hi e
    have h1 : ua σ p f i = σ i := ua_p hi
    have h2 : wg_f (ua σ p f) i = wg_f σ i := by
      funext k' d
      cases d <;> simp [wg_f, h1]
    cases e with
    | inl o => simp [wg_e, h2]
    | inr a => simp [wg_e, h1]
  apply List.ext_getElem?
  intro i
  by_cases hi : i = p
  · subst hi
    have hl : i < g.length := (List.getElem?_eq_some_iff.mp hg).1
    rw [List.getElem?_set_self (by simp [wd]; exact hl)]
    simp [wd, List.getElem?_mapIdx, hg, wg_e, ua_s]
  · rw [List.getElem?_set_ne (Ne.symm hi)]
    simp only [wd, List.getElem?_mapIdx]
    cases g[i]? with
    | none => rfl
    | some d' => simp [hne i hi]
theorem gm_R.setL {κ : gm_K} {h : gm_H} {s : State} {H H1 : Heap} {locs L : List Loc} (R : gm_R κ h s H locs) {p : Nat} {e0 e : gm_E} (hp : h[p]? = some e0) (he : va_at κ.2.1 vwCl (κ.2.2.2.1 + p, gm_e κ e) H1) (hz : H1.size = H.size) (oq : ∀ q : Nat, q ≠ κ.2.2.2.1 + p → H1[q]? = H[q]?) (hL : ∀ q ∈ L, κ.2.2.2.1 ≤ q.base) : gm_R κ (h.set p e) s H1 (locs ++ L) := by
  have R1 := R.set (k := 0) hp he hz oq
  refine ⟨R1.1, R1.2.1, R1.2.2.1, fun q hq => ?_⟩
  rcases List.mem_append.mp hq with h3 | h3
  · exact R.2.2.2 q h3
  · exact hL q h3
theorem gm_ac : Cond.native arraycopyName ∈ lw_tbl ∧ Cond.static arraycopyName ∈ lw_tbl ∧ Cond.initialized "java/lang/System" ∈ lw_tbl := by decide +kernel
theorem nn_i (z : Int32) (hz : ¬ z < 0) : z.toInt = (z.toNatClampNeg : Int) := by
  have hz0 : (0 : Int) ≤ z.toInt := by
    have := Int32.not_lt.mp hz
    simpa using Int32.le_iff_toInt_le.mp this
  show z.toInt = ((z.toInt.toNat : Nat) : Int)
  omega
theorem go_copy {κ : gm_K} {μ : gm_M} {pc : Nat} {lv : List (Option Value)} {st : List Value} {h : gm_H} {n : Nat × Nat} {Φ : Option Value → gm_H → Prop} {idx b0 b1 n0 n1 : Nat} {f g : Nat → Int32} {sp dp m' : Int32} (hd : decode μ.2.1 pc = .ok (.invokestatic idx, 3)) (hl : Cond.methodLink μ.1.cls idx arraycopyName ∈ lw_tbl) (hb0 : h[b0]? = some (.inl (0, n0, f))) (hb1 : h[b1]? = some (.inl (0, n1, g))) (h1 : ¬ sp < 0) (h2 : ¬ dp < 0) (h3 : ¬ m' < 0) (h4 : sp.toNatClampNeg + m'.toNatClampNeg ≤ n0) (h5 : dp.toNatClampNeg + m'.toNatClampNeg ≤ n1) (hf : Nat.ble 1 μ.2.2.2.2.frames = true) (hc : Nat.ble ((st.map fun v => v.category).sum + 18) μ.2.2.2.2.locals = true)
    (kk : Go κ μ (pc + 3) lv st (h.set b1 (.inl (0, n1, va_cpy f g sp.toNatClampNeg dp.toNatClampNeg m'.toNatClampNeg))) n Φ) : Go κ μ pc lv (.int m' :: .int dp :: .ref b1 :: .int sp :: .ref b0 :: st) h n Φ := by
  intro p e s m args below meth c H locs ls F R L T hT X
  have hts := F.2.2.2.2.2.2.1
  have hK := F.2.2.2.2.2.2.2.2.1.1
  have hc0 : H[κ.2.2.2.1 + b0]? = some (vp_cell (κ.2.2.1 0) (n0, .inl f)) := R.1.2 b0 _ (gm_w_get hb0)
  have hc1 : H[κ.2.2.2.1 + b1]? = some (vp_cell (κ.2.2.1 0) (n1, .inl g)) := R.1.2 b1 _ (gm_w_get hb1)
  obtain ⟨-, k0, hk0, cm0, hkk0⟩ := (hK.2 0 _ rfl).1 n0 (fun j => .int (f j))
  have hcs : ((st.map (gm_v κ)).map fun v => v.category) = st.map fun v => v.category := by
    rw [List.map_map]
    exact List.map_congr_left (fun v _ => gm_cat κ v)
  have hcl := Nat.le_of_ble_eq_true hc
  obtain ⟨vm', X', step⟩ := X.arraycopy F.1 F.2.2.2.2.2.1 (hts _ hl rfl) (hts _ gm_ac.1 rfl) (hts _ gm_ac.2.1 rfl) (hts _ gm_ac.2.2 rfl) (src := κ.2.2.2.1 + b0) (dst := κ.2.2.2.1 + b1) (cs := vp_cell (κ.2.2.1 0) (n0, .inl f)) (cd := vp_cell (κ.2.2.1 0) (n1, .inl g)) (srcPos := sp) (destPos := dp) (n := m') (by rw [hT]; exact hc0) (by rw [hT]; exact hc1)
    (fun _ h => by cases h) (fun _ h => by cases h) (fun h => by cases h) (fun h => by cases h) hk0 hk0 hkk0 hkk0 (by simp [refKind]) h1 h2 h3
    (by rw [nn_i sp h1, nn_i m' h3]; show ¬ _ > ((arrV (κ.2.2.1 0) n0 (fun j => .int (f j))).slots.size : Int); rw [arrV_size]; omega)
    (by rw [nn_i dp h2, nn_i m' h3]; show ¬ _ > ((arrV (κ.2.2.1 0) n1 (fun j => .int (g j))).slots.size : Int); rw [arrV_size]; omega)
    (fun vm₁ _ i hi => by
      have e : (vp_cell (κ.2.2.1 0) (n0, .inl f)).slots.getD (sp.toNatClampNeg + i) .null = .int (f (sp.toNatClampNeg + i)) := by
        show (arrV (κ.2.2.1 0) n0 (fun j => .int (f j))).slots.getD _ _ = _
        rw [Array.getD_eq_getD_getElem?, arrV_read _ _ (by omega)]
        rfl
      refine ⟨?_, ?_⟩
      · rw [e]
        rfl
      · rw [e]
        exact trivial)
    (g := F0 m pc ls (.int m' :: .int dp :: .ref (κ.2.2.2.1 + b1) :: .int sp :: .ref (κ.2.2.2.1 + b0) :: st.map (gm_v κ))) rfl (L.1.trans F.2.2.1.symm) (rest := st.map (gm_v κ)) rfl (by rw [F.2.1]; exact hd) (Nat.le_of_ble_eq_true hf) (by
      show 2 * 0 + _ + (nativeFrameWords "java/lang/System" "arraycopy" 5 + 11) ≤ _
      rw [hcs, show nativeFrameWords "java/lang/System" "arraycopy" 5 = 7 by decide]
      omega)
  have e1 : copied (vp_cell (κ.2.2.1 0) (n0, .inl f)) (vp_cell (κ.2.2.1 0) (n1, .inl g)) sp dp m' = vp_cell (κ.2.2.1 0) (n1, .inl (va_cpy f g sp.toNatClampNeg dp.toNatClampNeg m'.toNatClampNeg)) := va_copied (fun z => .int z) _ _ f g h4
  rw [e1] at X' step
  have hlt : κ.2.2.2.1 + b1 < H.size := (Array.getElem?_eq_some_iff.mp hc1).1
  have hheap : ((T.setVm vm').setCell (κ.2.2.2.1 + b1) (vp_cell (κ.2.2.1 0) (n1, .inl (va_cpy f g sp.toNatClampNeg dp.toNatClampNeg m'.toNatClampNeg)))).heap = H.setIfInBounds (κ.2.2.2.1 + b1) (vp_cell (κ.2.2.1 0) (n1, .inl (va_cpy f g sp.toNatClampNeg dp.toNatClampNeg m'.toNatClampNeg))) := by rw [← hT]; rfl
  have oq : ∀ q : Nat, q ≠ κ.2.2.2.1 + b1 → (H.setIfInBounds (κ.2.2.2.1 + b1) (vp_cell (κ.2.2.1 0) (n1, .inl (va_cpy f g sp.toNatClampNeg dp.toNatClampNeg m'.toNatClampNeg))))[q]? = H[q]? := fun q hq => by simp [Array.getElem?_setIfInBounds, Ne.symm hq]
  obtain ⟨t, a1, b1'⟩ := kk p e s m args below meth c _ _ ls F (R.setL hb1 (show (H.setIfInBounds (κ.2.2.2.1 + b1) _)[κ.2.2.2.1 + b1]? = some _ by simp [Array.getElem?_setIfInBounds, hlt]) (by simp) oq (fun q hq => by
      obtain ⟨z, -, hz⟩ := List.mem_map.mp hq
      rw [← hz]
      exact Nat.le_add_right _ _)) L _ hheap X'
  exact ⟨t, step t a1, b1'⟩
theorem gs_copy {κ : gm_K} {μ : gm_M} {pc : Nat} {lv : List (Option Value)} {st : List Value} {g : wg_G} {σ : wg_S} {n : Nat × Nat} {Φ : Option Value → gm_H → Prop} {idx b0 b1 n0 n1 k : Nat} (hd : decode μ.2.1 pc = .ok (.invokestatic idx, 3)) (hl : Cond.methodLink μ.1.cls idx arraycopyName ∈ lw_tbl) (hb0 : g[b0]? = some (.inr (0, n0))) (hb1 : g[b1]? = some (.inr (0, n1))) (h4 : k ≤ n0) (h5 : k ≤ n1) (hk : k < 65536) (hf : Nat.ble 1 μ.2.2.2.2.frames = true) (hc : Nat.ble ((st.map fun v => v.category).sum + 18) μ.2.2.2.2.locals = true)
    (kk : Go κ μ (pc + 3) lv st (wd g (ua σ b1 (va_cpy (σ b0) (σ b1) 0 0 k))) n Φ) : Go κ μ pc lv (.int (nI k) :: .int (nI 0) :: .ref b1 :: .int (nI 0) :: .ref b0 :: st) (wd g σ) n Φ := by
  have e0 : (nI 0).toNatClampNeg = 0 := by decide
  have ek : (nI k).toNatClampNeg = k := nI_clamp (by omega)
  refine go_copy hd hl (wd_a hb0) (wd_a hb1) (by decide) (by decide) (nI_pos (by omega)) (by rw [e0, ek]; omega) (by rw [e0, ek]; omega) hf hc ?_
  rw [e0, ek, wd_setU hb1]
  exact kk
