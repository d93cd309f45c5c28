theorem cl_in_0 : (u_ws RX0 TX0 8).all (fun w => decide (w ∈ lw_tbl) && goodWord w) = true := by decide +kernel
theorem cl_in_1 : (u_ws RX1 TX1 2).all (fun w => decide (w ∈ lw_tbl) && goodWord w) = true := by decide +kernel
theorem cl_in_2 : (u_ws RX2 TX2 3).all (fun w => decide (w ∈ lw_tbl) && goodWord w) = true := by decide +kernel
theorem cl_in_3 : (u_ws RX3 TX3 3).all (fun w => decide (w ∈ lw_tbl) && goodWord w) = true := by decide +kernel
theorem cl_in_4 : (u_ws RX4 TX4 3).all (fun w => decide (w ∈ lw_tbl) && goodWord w) = true := by decide +kernel
theorem cl_in_5 : (u_ws RX5 TX5 7).all (fun w => decide (w ∈ lw_tbl) && goodWord w) = true := by decide +kernel
theorem cl_in_6 : (u_ws RX6 TX6 7).all (fun w => decide (w ∈ lw_tbl) && goodWord w) = true := by decide +kernel
theorem cl_in_7 : (u_ws RX7 TX7 5).all (fun w => decide (w ∈ lw_tbl) && goodWord w) = true := by decide +kernel
theorem cl_in_8 : (u_ws RX8 TX8 9).all (fun w => decide (w ∈ lw_tbl) && goodWord w) = true := by decide +kernel
theorem cl_in_9 : (u_ws RX9 TX9 9).all (fun w => decide (w ∈ lw_tbl) && goodWord w) = true := by decide +kernel
theorem cl_in_10 : (u_ws RX10 TX10 11).all (fun w => decide (w ∈ lw_tbl) && goodWord w) = true := by decide +kernel
theorem cl_in_11 : (u_ws RX11 TX11 50).all (fun w => decide (w ∈ lw_tbl) && goodWord w) = true := by decide +kernel
theorem cl_gd {ws : List Cond} (h : ws.all (fun w => decide (w ∈ lw_tbl) && goodWord w) = true) : ∀ w ∈ ws, w ∈ lw_gd := by
  intro w hw
  have h1 := List.all_eq_true.mp h w hw
  simp only [Bool.and_eq_true, decide_eq_true_eq] at h1
  exact List.mem_filter.mpr h1
theorem cl_ok : ∀ (ci : Nat) (q : vw_C), vwCl[ci]? = some q → (∀ w ∈ u_ws q.1 q.2.1 q.2.2, w ∈ lw_gd) ∧ ∃ ty : Nat → FieldType, (∀ k, k < q.2.2 → parseFieldDescriptor (q.2.1 k).2.2.1 = some (ty k)) ∧ (∀ a, a < q.2.2 → ∀ b, b < q.2.2 → a ≠ b → (q.2.1 a).2.1 ≠ (q.2.1 b).2.1) := by
  intro ci q h
  match ci, h with
  | 0, h => cases h; exact ⟨cl_gd cl_in_0, tyX0, tyX0_ok, nmX0⟩
  | 1, h => cases h; exact ⟨cl_gd cl_in_1, tyX1, tyX1_ok, nmX1⟩
  | 2, h => cases h; exact ⟨cl_gd cl_in_2, tyX2, tyX2_ok, nmX2⟩
  | 3, h => cases h; exact ⟨cl_gd cl_in_3, tyX3, tyX3_ok, nmX3⟩
  | 4, h => cases h; exact ⟨cl_gd cl_in_4, tyX4, tyX4_ok, nmX4⟩
  | 5, h => cases h; exact ⟨cl_gd cl_in_5, tyX5, tyX5_ok, nmX5⟩
  | 6, h => cases h; exact ⟨cl_gd cl_in_6, tyX6, tyX6_ok, nmX6⟩
  | 7, h => cases h; exact ⟨cl_gd cl_in_7, tyX7, tyX7_ok, nmX7⟩
  | 8, h => cases h; exact ⟨cl_gd cl_in_8, tyX8, tyX8_ok, nmX8⟩
  | 9, h => cases h; exact ⟨cl_gd cl_in_9, tyX9, tyX9_ok, nmX9⟩
  | 10, h => cases h; exact ⟨cl_gd cl_in_10, tyX10, tyX10_ok, nmX10⟩
  | 11, h => cases h; exact ⟨cl_gd cl_in_11, tyX11, tyX11_ok, nmX11⟩
  | ci + 12, h => simp [vwCl] at h
/-- a field's link in the tables: of the class 'own', entry idx, is field k of the class number ci -/
def gm_FL (own : String) (idx ci k : Nat) : Prop := ∃ q : vw_C, vwCl[ci]? = some q ∧ k < q.2.2 ∧ Cond.fieldLink own idx (q.2.1 k).1 (q.2.1 k).2.1 (q.2.1 k).2.2.1 ∈ lw_tbl
theorem gm_hts {κ : gm_K} {μ : gm_M} {p : Program} {s : State} {m : MethodId} {args : Array Value} {meth : Method} {c : Code} (F : gm_F κ μ p s m args meth c) : ∀ w ∈ lw_gd, w.before args s = true := fun w hw => F.2.2.2.2.2.2.1 w (List.mem_filter.mp hw).1 (List.mem_filter.mp hw).2
theorem gm_R.set {κ : gm_K} {h : gm_H} {s : State} {H H1 : Heap} {locs : List Loc} (R : gm_R κ h s H locs) {p k : Nat} {e0 e : gm_E} (hp : h[p]? = some e0) (he : va_at κ.2.1 vwCl (κ.2.2.2.1 + p, gm_e κ e) H1) (hz : H1.size = H.size) (oq : ∀ q : Nat, q ≠ κ.2.2.2.1 + p → H1[q]? = H[q]?) : gm_R κ (h.set p e) s H1 (locs ++ [⟨κ.2.2.2.1 + p, k⟩]) := by
  refine ⟨⟨by rw [hz, R.1.1, List.length_set], ?_⟩, R.2.put hz oq (Nat.le_add_right _ _)⟩
  rw [← gm_w_set]
  exact R.1.2.set (gm_w_D κ h) (gm_w_get hp) he oq
section GH
variable {κ : gm_K} {μ : gm_M} {pc : Nat} {lv : List (Option Value)} {st : List Value} {h : gm_H} {n : Nat × Nat} {Φ : Option Value → gm_H → Prop}
theorem go_get {b ci k idx : Nat} {fs : List Value} {v : Value} (hd : decode μ.2.1 pc = .ok (.getfield idx, 3)) (hfl : gm_FL μ.1.cls idx ci k) (hb : h[b]? = some (.inr (ci, fs))) (hv : fs[k]? = some v) (kk : Go κ μ (pc + 3) lv (v :: st) h n Φ) : Go κ μ pc lv (.ref b :: st) h n Φ := by
  intro p e s m args below meth c H locs ls F R L
  obtain ⟨q, hq, hk, hw⟩ := hfl
  obtain ⟨hin, ty, hty, hnm⟩ := cl_ok ci q hq
  exact va_get (C := q.1) (T := q.2.1) (N := q.2.2) (v := gm_v κ v) F.1 F.2.1 (gm_hts F) hin F.2.2.2.2.2.1 F.2.2.2.2.2.2.2.2.1.1 R.1.2 b (gm_w_get hb) hq k hk (F.2.2.2.2.2.2.1 _ hw rfl) (fun _ z => z) (by simp [hv]) hd (kk p e s m args below meth c H locs ls F R L)
theorem go_put {b ci k idx : Nat} {fs : List Value} {v : Value} {ty : FieldType} (hd : decode μ.2.1 pc = .ok (.putfield idx, 3)) (hfl : gm_FL μ.1.cls idx ci k) (hb : h[b]? = some (.inr (ci, fs))) (hq0 : ∀ q : vw_C, vwCl[ci]? = some q → (q.2.1 k).2.2.2 = false ∧ parseFieldDescriptor (q.2.1 k).2.2.1 = some ty) (hn : narrow ty (gm_v κ v) = gm_v κ v) (hfit : fits ty (gm_v κ v) = true) (hl : Nat.ble (k + 1) fs.length = true)
    (kk : Go κ μ (pc + 3) lv st (h.set b (.inr (ci, fs.set k v))) n Φ) : Go κ μ pc lv (v :: .ref b :: st) h n Φ := by
  intro p e s m args below meth c H locs ls F R L
  obtain ⟨q, hq, hk, hw⟩ := hfl
  obtain ⟨hfin, hdt⟩ := hq0 q hq
  obtain ⟨hin, ty0, hty, hnm⟩ := cl_ok ci q hq
  have hK := F.2.2.2.2.2.2.2.2.1.1
  have hts := gm_hts F
  have hown := F.2.2.2.2.2.1
  have hap := va_apart (own := μ.1.cls) hts hin ty0 hty hnm hK hq
  obtain ⟨r, h1, cell, q1, q2, q3, q4⟩ := R.1.2 b _ (gm_w_get hb)
  have hr : r = q := Option.some.inj (h1.symm.trans hq)
  subst hr
  obtain ⟨hS, hfc, kC, hkC, hkind⟩ := hK.1 ci _ hq
  obtain ⟨cf, kf, fi, f, hi, hsl⟩ := hS k hk
  have hlay := hts _ (hin _ (u_in_lay hk))
  unfold u_lay at hlay
  rw [if_neg (by rw [hfin]; decide)] at hlay
  have hst := (u_facts hfc hkC (u_lays hts hin hk) hi).1
  have h6 := u_store hfc hkC hkind hlay hi hdt hn hfit
  have hll := Nat.le_of_ble_eq_true hl
  refine W.putK F.1 F.2.1 (f := f) ⟨hown, F.2.2.2.2.2.2.1 _ hw rfl, ⟨_, _, _, hi⟩, hst⟩ (by rw [q2]; exact h6) q1 q3 (by rw [hsl]; exact k2_hasslot (q4 k hk)) rfl rfl hd fun H' e1 e2 e3 => ?_
  rw [hsl] at e1 ⊢
  refine kk p e s m args below meth c H' _ ls F (R.set hb ?_ e2 e3) L
  refine ⟨_, hq, ?_⟩
  rw [show (fs.set k v).map (gm_v κ) = (fs.map (gm_v κ)).set k (gm_v κ v) from List.map_set]
  exact t_OB.to (V := updV (vp_V (fs.map (gm_v κ))) k (gm_v κ v)) ⟨_, e1, q2, q3, t_set q4 hap hk (gm_v κ v)⟩ (fun j _ => vp_updV_set (by simp; omega) (gm_v κ v) j)
theorem go_putF {b ci k idx : Nat} {fs : List Value} {v : Value} {ty : FieldType} (hd : decode μ.2.1 pc = .ok (.putfield idx, 3)) (hfl : gm_FL μ.1.cls idx ci k) (hb : h[b]? = some (.inr (ci, fs))) (hname : μ.1.name = "<init>") (hq0 : ∀ q : vw_C, vwCl[ci]? = some q → (q.2.1 k).2.2.2 = true ∧ (q.2.1 k).1 = μ.1.cls ∧ parseFieldDescriptor (q.2.1 k).2.2.1 = some ty) (hn : narrow ty (gm_v κ v) = gm_v κ v) (hfit : fits ty (gm_v κ v) = true) (hl : Nat.ble (k + 1) fs.length = true)
    (kk : Go κ μ (pc + 3) lv st (h.set b (.inr (ci, fs.set k v))) n Φ) : Go κ μ pc lv (v :: .ref b :: st) h n Φ := by
  intro p e s m args below meth c H locs ls F R L
  obtain ⟨q, hq, hk, hw⟩ := hfl
  obtain ⟨hfin, hdecl, hdt⟩ := hq0 q hq
  obtain ⟨hin, ty0, hty, hnm⟩ := cl_ok ci q hq
  have hK := F.2.2.2.2.2.2.2.2.1.1
  have hts := gm_hts F
  have hown := F.2.2.2.2.2.1
  have hin2 := F.2.2.2.2.2.2.2.1.trans hname
  have hap := va_apart (own := μ.1.cls) hts hin ty0 hty hnm hK hq
  obtain ⟨r, h1, cell, q1, q2, q3, q4⟩ := R.1.2 b _ (gm_w_get hb)
  have hr : r = q := Option.some.inj (h1.symm.trans hq)
  subst hr
  obtain ⟨hS, hfc, kC, hkC, hkind⟩ := hK.1 ci _ hq
  obtain ⟨cf, kf, fi, f, hi, hsl⟩ := hS k hk
  have hlay := hts _ (hin _ (u_in_lay hk))
  unfold u_lay at hlay
  rw [if_pos hfin] at hlay
  have hst := (u_facts hfc hkC (u_lays hts hin hk) hi).1
  have hcf : m.cls = cf := by
    obtain ⟨_, _, c', _, _, _, -, -, hf', -, -, -, hown2, -⟩ := Cond.laysFinal_spec hlay
    have e1 : c' = cf := by have := hi.symm.trans hf'; simp at this; exact this.1.symm
    rw [hdecl] at hown2
    rw [← e1]; exact Option.some.inj (hown.symm.trans hown2)
  have h6 := u_fits hfc hkC hkind (Or.inr hlay) hi hdt hn hfit
  have hll := Nat.le_of_ble_eq_true hl
  refine W.putFinK F.1 F.2.1 hown (F.2.2.2.2.2.2.1 _ hw rfl) hi hst hcf hin2 (by rw [q2]; exact h6) q1 q3 (by rw [hsl]; exact k2_hasslot (q4 k hk)) rfl rfl hd fun H' e1 e2 e3 => ?_
  rw [hsl] at e1 ⊢
  refine kk p e s m args below meth c H' _ ls F (R.set hb ?_ e2 e3) L
  refine ⟨_, hq, ?_⟩
  rw [show (fs.set k v).map (gm_v κ) = (fs.map (gm_v κ)).set k (gm_v κ v) from List.map_set]
  exact t_OB.to (V := updV (vp_V (fs.map (gm_v κ))) k (gm_v κ v)) ⟨_, e1, q2, q3, t_set q4 hap hk (gm_v κ v)⟩ (fun j _ => vp_updV_set (by simp; omega) (gm_v κ v) j)
theorem go_alen {b t len : Nat} {f : Nat → Int32} {v : Int32} (hd : decode μ.2.1 pc = .ok (.arraylength, 1)) (hb : h[b]? = some (.inl (t, len, f))) (ht : t < 4) (hv : Int32.ofNat len = v) (kk : Go κ μ (pc + 1) lv (.int v :: st) h n Φ) : Go κ μ pc lv (.ref b :: st) h n Φ := by
  intro p e s m args below meth c H locs ls F R L
  have hK := F.2.2.2.2.2.2.2.2.1.1
  have k1 := kk p e s m args below meth c H locs ls F R L
  rcases (show t = 0 ∨ t = 1 ∨ t = 2 ∨ t = 3 by omega) with rfl | rfl | rfl | rfl
  · exact va_alen F.1 F.2.1 hK R.1.2 b 0 (gm_w_get hb) rfl hv hd k1
  · exact va_alen F.1 F.2.1 hK R.1.2 b 1 (gm_w_get hb) rfl hv hd k1
  · exact va_alen F.1 F.2.1 hK R.1.2 b 2 (gm_w_get hb) rfl hv hd k1
  · exact va_alen F.1 F.2.1 hK R.1.2 b 3 (gm_w_get hb) rfl hv hd k1
theorem go_iald {b len : Nat} {f : Nat → Int32} {i : Int32} (hd : decode μ.2.1 pc = .ok (.iaload, 1)) (hb : h[b]? = some (.inl (0, len, f))) (hi : vp_in i len) (kk : Go κ μ (pc + 1) lv (.int (f i.toNatClampNeg) :: st) h n Φ) : Go κ μ pc lv (.int i :: .ref b :: st) h n Φ := by
  intro p e s m args below meth c H locs ls F R L
  exact va_iald F.1 F.2.1 F.2.2.2.2.2.2.2.2.1.1 R.1.2 b 0 (gm_w_get hb) rfl hi hd (kk p e s m args below meth c H locs ls F R L)
theorem go_bald {b len : Nat} {f : Nat → Int32} {i : Int32} (hd : decode μ.2.1 pc = .ok (.baload, 1)) (hb : h[b]? = some (.inl (1, len, f))) (hi : vp_in i len) (kk : Go κ μ (pc + 1) lv (.int (f i.toNatClampNeg) :: st) h n Φ) : Go κ μ pc lv (.int i :: .ref b :: st) h n Φ := by
  intro p e s m args below meth c H locs ls F R L
  exact va_bald F.1 F.2.1 F.2.2.2.2.2.2.2.2.1.1 R.1.2 b 1 (gm_w_get hb) rfl hi hd (kk p e s m args below meth c H locs ls F R L)
theorem go_cald {b len : Nat} {f : Nat → Int32} {i : Int32} (hd : decode μ.2.1 pc = .ok (.caload, 1)) (hb : h[b]? = some (.inl (2, len, f))) (hi : vp_in i len) (kk : Go κ μ (pc + 1) lv (.int (f i.toNatClampNeg) :: st) h n Φ) : Go κ μ pc lv (.int i :: .ref b :: st) h n Φ := by
  intro p e s m args below meth c H locs ls F R L
  exact va_cald F.1 F.2.1 F.2.2.2.2.2.2.2.2.1.1 R.1.2 b 2 (gm_w_get hb) rfl hi hd (kk p e s m args below meth c H locs ls F R L)
theorem go_zald {b len : Nat} {f : Nat → Int32} {i : Int32} (hd : decode μ.2.1 pc = .ok (.baload, 1)) (hb : h[b]? = some (.inl (3, len, f))) (hi : vp_in i len) (kk : Go κ μ (pc + 1) lv (.int (f i.toNatClampNeg) :: st) h n Φ) : Go κ μ pc lv (.int i :: .ref b :: st) h n Φ := by
  intro p e s m args below meth c H locs ls F R L
  exact va_zald F.1 F.2.1 F.2.2.2.2.2.2.2.2.1.1 R.1.2 b 3 (gm_w_get hb) rfl hi hd (kk p e s m args below meth c H locs ls F R L)
theorem go_iast {b len : Nat} {f : Nat → Int32} {i x : Int32} (hd : decode μ.2.1 pc = .ok (.iastore, 1)) (hb : h[b]? = some (.inl (0, len, f))) (hi : vp_in i len) (kk : Go κ μ (pc + 1) lv st (h.set b (.inl (0, len, upd f i.toNatClampNeg x))) n Φ) : Go κ μ pc lv (.int x :: .int i :: .ref b :: st) h n Φ := by
  intro p e s m args below meth c H locs ls F R L
  have hK := F.2.2.2.2.2.2.2.2.1.1
  refine W.iast F.1 F.2.1 (R.1.2 b _ (gm_w_get hb)) ((hK.2 0 _ rfl).1 len (fun j => .int (f j))) (fun q => by cases q) (by show ¬ (i < 0 ∨ (arrV _ _ _).slots.size ≤ _); rw [arrV_size]; exact hi) rfl rfl hd fun H1 e1 z oq => ?_
  refine kk p e s m args below meth c H1 _ ls F (R.set hb ?_ z oq) L
  show H1[_]? = some (vp_cell _ _)
  rw [e1]
  rw [vp_cell_i, vp_cell_i, arrV_store]
  congr 2
  funext q
  by_cases hq : q = i.toNatClampNeg
  · subst hq
    simp [updV, upd, vp_nar]
    try rfl
  · simp [updV, upd, hq]
theorem go_bast {b len : Nat} {f : Nat → Int32} {i x : Int32} (hd : decode μ.2.1 pc = .ok (.bastore, 1)) (hb : h[b]? = some (.inl (1, len, f))) (hi : vp_in i len) (kk : Go κ μ (pc + 1) lv st (h.set b (.inl (1, len, upd f i.toNatClampNeg (vp_nar .byte x)))) n Φ) : Go κ μ pc lv (.int x :: .int i :: .ref b :: st) h n Φ := by
  intro p e s m args below meth c H locs ls F R L
  have hK := F.2.2.2.2.2.2.2.2.1.1
  refine W.bast F.1 F.2.1 (R.1.2 b _ (gm_w_get hb)) ((hK.2 1 _ rfl).1 len (fun j => .int (f j))) (fun q => by cases q) (by show ¬ (i < 0 ∨ (arrV _ _ _).slots.size ≤ _); rw [arrV_size]; exact hi) rfl rfl hd fun H1 e1 z oq => ?_
  refine kk p e s m args below meth c H1 _ ls F (R.set hb ?_ z oq) L
  show H1[_]? = some (vp_cell _ _)
  rw [e1]
  rw [vp_cell_i, vp_cell_i, arrV_store]
  congr 2
  funext q
  by_cases hq : q = i.toNatClampNeg
  · subst hq
    simp [updV, upd, vp_nar]
    try rfl
  · simp [updV, upd, hq]
theorem go_cast {b len : Nat} {f : Nat → Int32} {i x : Int32} (hd : decode μ.2.1 pc = .ok (.castore, 1)) (hb : h[b]? = some (.inl (2, len, f))) (hi : vp_in i len) (kk : Go κ μ (pc + 1) lv st (h.set b (.inl (2, len, upd f i.toNatClampNeg (vp_nar .char x)))) n Φ) : Go κ μ pc lv (.int x :: .int i :: .ref b :: st) h n Φ := by
  intro p e s m args below meth c H locs ls F R L
  have hK := F.2.2.2.2.2.2.2.2.1.1
  refine W.cast F.1 F.2.1 (R.1.2 b _ (gm_w_get hb)) ((hK.2 2 _ rfl).1 len (fun j => .int (f j))) (fun q => by cases q) (by show ¬ (i < 0 ∨ (arrV _ _ _).slots.size ≤ _); rw [arrV_size]; exact hi) rfl rfl hd fun H1 e1 z oq => ?_
  refine kk p e s m args below meth c H1 _ ls F (R.set hb ?_ z oq) L
  show H1[_]? = some (vp_cell _ _)
  rw [e1]
  rw [vp_cell_i, vp_cell_i, arrV_store]
  congr 2
  funext q
  by_cases hq : q = i.toNatClampNeg
  · subst hq
    simp [updV, upd, vp_nar]
    try rfl
  · simp [updV, upd, hq]
theorem go_zast {b len : Nat} {f : Nat → Int32} {i x : Int32} (hd : decode μ.2.1 pc = .ok (.bastore, 1)) (hb : h[b]? = some (.inl (3, len, f))) (hi : vp_in i len) (kk : Go κ μ (pc + 1) lv st (h.set b (.inl (3, len, upd f i.toNatClampNeg (vp_nar .boolean x)))) n Φ) : Go κ μ pc lv (.int x :: .int i :: .ref b :: st) h n Φ := by
  intro p e s m args below meth c H locs ls F R L
  have hK := F.2.2.2.2.2.2.2.2.1.1
  refine W.zast F.1 F.2.1 (R.1.2 b _ (gm_w_get hb)) ((hK.2 3 _ rfl).1 len (fun j => .int (f j))) (fun q => by cases q) (by show ¬ (i < 0 ∨ (arrV _ _ _).slots.size ≤ _); rw [arrV_size]; exact hi) rfl rfl hd fun H1 e1 z oq => ?_
  refine kk p e s m args below meth c H1 _ ls F (R.set hb ?_ z oq) L
  show H1[_]? = some (vp_cell _ _)
  rw [e1]
  rw [vp_cell_i, vp_cell_i, arrV_store]
  congr 2
  funext q
  by_cases hq : q = i.toNatClampNeg
  · subst hq
    simp [updV, upd, vp_nar]
    try rfl
  · simp [updV, upd, hq]
end GH
