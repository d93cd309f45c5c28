/-! THE WORLD BY A GRAPH: which cell is what never changes; what the cells hold is one function: sg p k is the field k, or the element k, of the cell at place p -/
abbrev wg_G : Type := List ((Nat × List (Option Nat)) ⊕ (Nat × Nat))
abbrev wg_S : Type := Nat → Nat → Int32
def wg_f (σ : wg_S) (p : Nat) (k : Nat) : Option Nat → Value
  | none => .int (σ p k)
  | some q => .ref q
def wg_e (σ : wg_S) (p : Nat) : (Nat × List (Option Nat)) ⊕ (Nat × Nat) → gm_E
  | .inl o => .inr (o.1, o.2.mapIdx (wg_f σ p))
  | .inr a => .inl (a.1, a.2, σ p)
def wd (g : wg_G) (σ : wg_S) : gm_H := g.mapIdx (wg_e σ)
def us (σ : wg_S) (p k : Nat) (v : Int32) : wg_S := fun p' => if p' = p then upd (σ p) k v else σ p'
theorem us_s {σ : wg_S} {p k : Nat} {v : Int32} : us σ p k v p k = v := by simp [us, upd]
theorem us_p {σ : wg_S} {p k p' : Nat} {v : Int32} (h : p' ≠ p) : us σ p k v p' = σ p' := by simp [us, h]
theorem us_k {σ : wg_S} {p k k' : Nat} {v : Int32} (h : k' ≠ k) : us σ p k v p k' = σ p k' := by simp [us, upd, h]
theorem us_e {σ : wg_S} {p k : Nat} {v : Int32} : us σ p k v p = upd (σ p) k v := by simp [us]
theorem wd_o {g : wg_G} {σ : wg_S} {p : Nat} {o : Nat × List (Option Nat)} (h : g[p]? = some (.inl o)) : (wd g σ)[p]? = some (.inr (o.1, o.2.mapIdx (wg_f σ p))) := by
  simp [wd, List.getElem?_mapIdx, h, wg_e]
theorem wd_a {g : wg_G} {σ : wg_S} {p : Nat} {a : Nat × Nat} (h : g[p]? = some (.inr a)) : (wd g σ)[p]? = some (.inl (a.1, a.2, σ p)) := by
  simp [wd, List.getElem?_mapIdx, h, wg_e]
theorem wg_e_ne {σ : wg_S} {p p' k : Nat} {v : Int32} (h : p' ≠ p) (e : (Nat × List (Option Nat)) ⊕ (Nat × Nat)) : wg_e (us σ p k v) p' e = wg_e σ p' e := by
  have h1 : us σ p k v p' = σ p' := us_p h
  have h2 : wg_f (us σ p k v) p' = wg_f σ p' := by
    funext k' d
    cases d <;> simp [wg_f, h1]
  cases e with
  | inl o => simp [wg_e, h2]
  | inr a => simp [wg_e, h1]
theorem wd_set {g : wg_G} {σ : wg_S} {p k : Nat} {v : Int32} {e : gm_E} {d : (Nat × List (Option Nat)) ⊕ (Nat × Nat)} (hg : g[p]? = some d) (he : e = wg_e (us σ p k v) p d) : (wd g σ).set p e = wd g (us σ p k v) := by
  apply List.ext_getElem?
  intro i
  by_cases hi : i = p
  · subst hi
    have hl : i < g.length := (List.getElem?_eq_some_iff.mp hg).1
    rw [List.getElem?_set_self (by simp [wd]; exact hl)]
    simp [wd, List.getElem?_mapIdx, hg, he]
  · rw [List.getElem?_set_ne (Ne.symm hi)]
    simp only [wd, List.getElem?_mapIdx]
    cases g[i]? with
    | none => rfl
    | some d' => simp [wg_e_ne hi]
theorem wd_setF {g : wg_G} {σ : wg_S} {p k : Nat} {v : Int32} {ci : Nat} {fds : List (Option Nat)} (hg : g[p]? = some (.inl (ci, fds))) (hk : fds[k]? = some none) : (wd g σ).set p (.inr (ci, (fds.mapIdx (wg_f σ p)).set k (.int v))) = wd g (us σ p k v) := by
  refine wd_set hg ?_
  simp only [wg_e]
  congr 2
  apply List.ext_getElem?
  intro i
  have hl : k < fds.length := (List.getElem?_eq_some_iff.mp hk).1
  by_cases hi : i = k
  · subst hi
    rw [List.getElem?_set_self (by simp; exact hl)]
    simp [List.getElem?_mapIdx, hk, wg_f, us_s]
  · rw [List.getElem?_set_ne (Ne.symm hi)]
    simp only [List.getElem?_mapIdx]
    cases fds[i]? with
    | none => rfl
    | some d => cases d <;> simp [wg_f, us_k hi]
theorem wd_setA {g : wg_G} {σ : wg_S} {p k : Nat} {v : Int32} {t len : Nat} (hg : g[p]? = some (.inr (t, len))) : (wd g σ).set p (.inl (t, len, upd (σ p) k v)) = wd g (us σ p k v) := by
  refine wd_set hg ?_
  simp [wg_e, us_e]
section GS
variable {κ : gm_K} {μ : gm_M} {pc : Nat} {lv : List (Option Value)} {st : List Value} {g : wg_G} {σ : wg_S} {n : Nat × Nat} {Φ : Option Value → gm_H → Prop}
theorem gs_gi {p ci k idx : Nat} {fds : List (Option Nat)} (hd : decode μ.2.1 pc = .ok (.getfield idx, 3)) (hfl : gm_FL μ.1.cls idx ci k) (hg : g[p]? = some (.inl (ci, fds))) (hk : fds[k]? = some none) {v : Int32} (hv : σ p k = v) (kk : Go κ μ (pc + 3) lv (.int v :: st) (wd g σ) n Φ) : Go κ μ pc lv (.ref p :: st) (wd g σ) n Φ :=
  go_get hd hfl (wd_o hg) (v := .int v) (by simp [List.getElem?_mapIdx, hk, wg_f, hv]) kk
theorem gs_gr {p ci k idx q : Nat} {fds : List (Option Nat)} (hd : decode μ.2.1 pc = .ok (.getfield idx, 3)) (hfl : gm_FL μ.1.cls idx ci k) (hg : g[p]? = some (.inl (ci, fds))) (hk : fds[k]? = some (some q)) (kk : Go κ μ (pc + 3) lv (.ref q :: st) (wd g σ) n Φ) : Go κ μ pc lv (.ref p :: st) (wd g σ) n Φ :=
  go_get hd hfl (wd_o hg) (v := .ref q) (by simp [List.getElem?_mapIdx, hk, wg_f]) kk
theorem gs_pi {p ci k idx : Nat} {fds : List (Option Nat)} {v : Int32} (hd : decode μ.2.1 pc = .ok (.putfield idx, 3)) (hfl : gm_FL μ.1.cls idx ci k) (hg : g[p]? = some (.inl (ci, fds))) (hk : fds[k]? = some none) (hq0 : ∀ q : vw_C, vwCl[ci]? = some q → (q.2.1 k).2.2.2 = false ∧ parseFieldDescriptor (q.2.1 k).2.2.1 = some .int) (kk : Go κ μ (pc + 3) lv st (wd g (us σ p k v)) n Φ) : Go κ μ pc lv (.int v :: .ref p :: st) (wd g σ) n Φ := by
  refine go_put (ty := .int) hd hfl (wd_o hg) hq0 rfl rfl ?_ ?_
  · have hl : k < fds.length := (List.getElem?_eq_some_iff.mp hk).1
    simp only [List.length_mapIdx]
    exact Nat.ble_eq_true_of_le hl
  · rw [wd_setF hg hk]; exact kk
theorem gs_pz {p ci k idx : Nat} {fds : List (Option Nat)} {v : Int32} (hd : decode μ.2.1 pc = .ok (.putfield idx, 3)) (hfl : gm_FL μ.1.cls idx ci k) (hg : g[p]? = some (.inl (ci, fds))) (hk : fds[k]? = some none) (hq0 : ∀ q : vw_C, vwCl[ci]? = some q → (q.2.1 k).2.2.2 = false ∧ parseFieldDescriptor (q.2.1 k).2.2.1 = some .boolean) (hv : narrow .boolean (.int v) = .int v) (hf : fits .boolean (.int v) = true) (kk : Go κ μ (pc + 3) lv st (wd g (us σ p k v)) n Φ) : Go κ μ pc lv (.int v :: .ref p :: st) (wd g σ) n Φ := by
  refine go_put (ty := .boolean) hd hfl (wd_o hg) hq0 hv hf ?_ ?_
  · have hl : k < fds.length := (List.getElem?_eq_some_iff.mp hk).1
    simp only [List.length_mapIdx]
    exact Nat.ble_eq_true_of_le hl
  · rw [wd_setF hg hk]; exact kk
theorem gs_len {p t len : Nat} {v : Int32} (hd : decode μ.2.1 pc = .ok (.arraylength, 1)) (hg : g[p]? = some (.inr (t, len))) (ht : t < 4) (hv : Int32.ofNat len = v) (kk : Go κ μ (pc + 1) lv (.int v :: st) (wd g σ) n Φ) : Go κ μ pc lv (.ref p :: st) (wd g σ) n Φ := go_alen hd (wd_a hg) ht hv kk
theorem gs_iald {p len : Nat} {i : Int32} (j : Nat) (hd : decode μ.2.1 pc = .ok (.iaload, 1)) (hg : g[p]? = some (.inr (0, len))) (hi : i = nI j) (hj : j < len) (hl : Nat.ble len 65536 = true) {v : Int32} (hv : σ p j = v) (kk : Go κ μ (pc + 1) lv (.int v :: st) (wd g σ) n Φ) : Go κ μ pc lv (.int i :: .ref p :: st) (wd g σ) n Φ := by
  have hb := Nat.le_of_ble_eq_true hl
  subst hv
  subst hi
  refine go_iald hd (wd_a hg) (vp_in_nI hj (by omega)) ?_
  rw [nI_clamp (by omega)]
  exact kk
theorem gs_bald {p len : Nat} {i : Int32} (j : Nat) (hd : decode μ.2.1 pc = .ok (.baload, 1)) (hg : g[p]? = some (.inr (1, len))) (hi : i = nI j) (hj : j < len) (hl : Nat.ble len 65536 = true) {v : Int32} (hv : σ p j = v) (kk : Go κ μ (pc + 1) lv (.int v :: st) (wd g σ) n Φ) : Go κ μ pc lv (.int i :: .ref p :: st) (wd g σ) n Φ := by
  have hb := Nat.le_of_ble_eq_true hl
  subst hv
  subst hi
  refine go_bald hd (wd_a hg) (vp_in_nI hj (by omega)) ?_
  rw [nI_clamp (by omega)]
  exact kk
theorem gs_cald {p len : Nat} {i : Int32} (j : Nat) (hd : decode μ.2.1 pc = .ok (.caload, 1)) (hg : g[p]? = some (.inr (2, len))) (hi : i = nI j) (hj : j < len) (hl : Nat.ble len 65536 = true) {v : Int32} (hv : σ p j = v) (kk : Go κ μ (pc + 1) lv (.int v :: st) (wd g σ) n Φ) : Go κ μ pc lv (.int i :: .ref p :: st) (wd g σ) n Φ := by
  have hb := Nat.le_of_ble_eq_true hl
  subst hv
  subst hi
  refine go_cald hd (wd_a hg) (vp_in_nI hj (by omega)) ?_
  rw [nI_clamp (by omega)]
  exact kk
theorem gs_zald {p len : Nat} {i : Int32} (j : Nat) (hd : decode μ.2.1 pc = .ok (.baload, 1)) (hg : g[p]? = some (.inr (3, len))) (hi : i = nI j) (hj : j < len) (hl : Nat.ble len 65536 = true) {v : Int32} (hv : σ p j = v) (kk : Go κ μ (pc + 1) lv (.int v :: st) (wd g σ) n Φ) : Go κ μ pc lv (.int i :: .ref p :: st) (wd g σ) n Φ := by
  have hb := Nat.le_of_ble_eq_true hl
  subst hv
  subst hi
  refine go_zald hd (wd_a hg) (vp_in_nI hj (by omega)) ?_
  rw [nI_clamp (by omega)]
  exact kk
theorem gs_iast {p len : Nat} {i x : Int32} (j : Nat) (hd : decode μ.2.1 pc = .ok (.iastore, 1)) (hg : g[p]? = some (.inr (0, len))) (hi : i = nI j) (hj : j < len) (hl : Nat.ble len 65536 = true) (kk : Go κ μ (pc + 1) lv st (wd g (us σ p j x)) n Φ) : Go κ μ pc lv (.int x :: .int i :: .ref p :: st) (wd g σ) n Φ := by
  have hb := Nat.le_of_ble_eq_true hl
  subst hi
  refine go_iast hd (wd_a hg) (vp_in_nI hj (by omega)) ?_
  rw [nI_clamp (by omega)]
  have e := wd_setA (g := g) (σ := σ) (p := p) (k := j) (v := x) hg
  rw [e]
  exact kk
theorem gs_bast {p len : Nat} {i x : Int32} (j : Nat) (hd : decode μ.2.1 pc = .ok (.bastore, 1)) (hg : g[p]? = some (.inr (1, len))) (hi : i = nI j) (hj : j < len) (hl : Nat.ble len 65536 = true) (kk : Go κ μ (pc + 1) lv st (wd g (us σ p j (vp_nar .byte x))) n Φ) : Go κ μ pc lv (.int x :: .int i :: .ref p :: st) (wd g σ) n Φ := by
  have hb := Nat.le_of_ble_eq_true hl
  subst hi
  refine go_bast hd (wd_a hg) (vp_in_nI hj (by omega)) ?_
  rw [nI_clamp (by omega)]
  have e := wd_setA (g := g) (σ := σ) (p := p) (k := j) (v := (vp_nar .byte x)) hg
  rw [e]
  exact kk
theorem gs_cast {p len : Nat} {i x : Int32} (j : Nat) (hd : decode μ.2.1 pc = .ok (.castore, 1)) (hg : g[p]? = some (.inr (2, len))) (hi : i = nI j) (hj : j < len) (hl : Nat.ble len 65536 = true) (kk : Go κ μ (pc + 1) lv st (wd g (us σ p j (vp_nar .char x))) n Φ) : Go κ μ pc lv (.int x :: .int i :: .ref p :: st) (wd g σ) n Φ := by
  have hb := Nat.le_of_ble_eq_true hl
  subst hi
  refine go_cast hd (wd_a hg) (vp_in_nI hj (by omega)) ?_
  rw [nI_clamp (by omega)]
  have e := wd_setA (g := g) (σ := σ) (p := p) (k := j) (v := (vp_nar .char x)) hg
  rw [e]
  exact kk
theorem gs_zast {p len : Nat} {i x : Int32} (j : Nat) (hd : decode μ.2.1 pc = .ok (.bastore, 1)) (hg : g[p]? = some (.inr (3, len))) (hi : i = nI j) (hj : j < len) (hl : Nat.ble len 65536 = true) (kk : Go κ μ (pc + 1) lv st (wd g (us σ p j (vp_nar .boolean x))) n Φ) : Go κ μ pc lv (.int x :: .int i :: .ref p :: st) (wd g σ) n Φ := by
  have hb := Nat.le_of_ble_eq_true hl
  subst hi
  refine go_zast hd (wd_a hg) (vp_in_nI hj (by omega)) ?_
  rw [nI_clamp (by omega)]
  have e := wd_setA (g := g) (σ := σ) (p := p) (k := j) (v := (vp_nar .boolean x)) hg
  rw [e]
  exact kk
/-- a contract by a function: the answer R, the cells behind it -/
def Fn (κ : gm_K) (μ : gm_M) (av : List Value) (g : wg_G) (σ : wg_S) (R : Option Value) (g' : wg_G) (σ' : wg_S) : Prop := Ct κ μ av (wd g σ) (fun r h' => r = R ∧ h' = wd g' σ')
theorem gs_callVi {μ' : gm_M} {idx k b ci : Nat} {As stk : List Value} {fds : List (Option Nat)} {x : Int32} {g' : wg_G} {σ' : wg_S} (hd : decode μ.2.1 pc = .ok (.invokevirtual idx, 3)) (hw : gm_CV μ μ' idx k) (hC : Fn κ μ' (.ref b :: As) g σ (some (.int x)) g' σ') (hst : stk = As.reverse ++ .ref b :: st) (hb : g[b]? = some (.inl (ci, fds))) (hci : (vwCl[ci]?).map Prod.fst = some μ'.1.cls) (hk : As.length = k) (hs : Nat.ble ((st.map fun v => v.category).sum) 8 = true) (h0 : μ'.2.2.2.2.cells = 0 ∧ μ'.2.2.2.2.slots = 0) (hn : (Nat.ble n.1 μ.2.2.2.2.cells && Nat.ble n.2 μ.2.2.2.2.slots) = true)
    (kk : Go κ μ (pc + 3) lv (.int x :: st) (wd g' σ') n Φ) : Go κ μ pc lv stk (wd g σ) n Φ :=
  go_callV hd hw hC hst (wd_o hb) hci hk hs (by rw [h0.1, h0.2]; exact hn) (fun r h' hq => by obtain ⟨rfl, rfl⟩ := hq; rw [h0.1, h0.2]; exact kk)
theorem gs_callVv {μ' : gm_M} {idx k b ci : Nat} {As stk : List Value} {fds : List (Option Nat)} {g' : wg_G} {σ' : wg_S} (hd : decode μ.2.1 pc = .ok (.invokevirtual idx, 3)) (hw : gm_CV μ μ' idx k) (hC : Fn κ μ' (.ref b :: As) g σ none g' σ') (hst : stk = As.reverse ++ .ref b :: st) (hb : g[b]? = some (.inl (ci, fds))) (hci : (vwCl[ci]?).map Prod.fst = some μ'.1.cls) (hk : As.length = k) (hs : Nat.ble ((st.map fun v => v.category).sum) 8 = true) (h0 : μ'.2.2.2.2.cells = 0 ∧ μ'.2.2.2.2.slots = 0) (hn : (Nat.ble n.1 μ.2.2.2.2.cells && Nat.ble n.2 μ.2.2.2.2.slots) = true)
    (kk : Go κ μ (pc + 3) lv (st) (wd g' σ') n Φ) : Go κ μ pc lv stk (wd g σ) n Φ :=
  go_callV hd hw hC hst (wd_o hb) hci hk hs (by rw [h0.1, h0.2]; exact hn) (fun r h' hq => by obtain ⟨rfl, rfl⟩ := hq; rw [h0.1, h0.2]; exact kk)
theorem gs_callSi {μ' : gm_M} {idx k : Nat} {As stk : List Value} {x : Int32} {g' : wg_G} {σ' : wg_S} (hd : decode μ.2.1 pc = .ok (.invokestatic idx, 3)) (hw : gm_CS μ μ' idx k) (hC : Fn κ μ' As g σ (some (.int x)) g' σ') (hst : stk = As.reverse ++ st) (hk : As.length = k) (hs : Nat.ble ((st.map fun v => v.category).sum) 8 = true) (h0 : μ'.2.2.2.2.cells = 0 ∧ μ'.2.2.2.2.slots = 0) (hn : (Nat.ble n.1 μ.2.2.2.2.cells && Nat.ble n.2 μ.2.2.2.2.slots) = true)
    (kk : Go κ μ (pc + 3) lv (.int x :: st) (wd g' σ') n Φ) : Go κ μ pc lv stk (wd g σ) n Φ :=
  go_callS hd hw hC hst hk hs (by rw [h0.1, h0.2]; exact hn) (fun r h' hq => by obtain ⟨rfl, rfl⟩ := hq; rw [h0.1, h0.2]; exact kk)
theorem gs_callSv {μ' : gm_M} {idx k : Nat} {As stk : List Value} {g' : wg_G} {σ' : wg_S} (hd : decode μ.2.1 pc = .ok (.invokestatic idx, 3)) (hw : gm_CS μ μ' idx k) (hC : Fn κ μ' As g σ none g' σ') (hst : stk = As.reverse ++ st) (hk : As.length = k) (hs : Nat.ble ((st.map fun v => v.category).sum) 8 = true) (h0 : μ'.2.2.2.2.cells = 0 ∧ μ'.2.2.2.2.slots = 0) (hn : (Nat.ble n.1 μ.2.2.2.2.cells && Nat.ble n.2 μ.2.2.2.2.slots) = true)
    (kk : Go κ μ (pc + 3) lv (st) (wd g' σ') n Φ) : Go κ μ pc lv stk (wd g σ) n Φ :=
  go_callS hd hw hC hst hk hs (by rw [h0.1, h0.2]; exact hn) (fun r h' hq => by obtain ⟨rfl, rfl⟩ := hq; rw [h0.1, h0.2]; exact kk)
theorem gs_callSNi {μ' : gm_M} {idx k : Nat} {host : String} {As stk : List Value} {x : Int32} {g' : wg_G} {σ' : wg_S} (hd : decode μ.2.1 pc = .ok (.invokestatic idx, 3)) (hw : gm_CSN μ μ' idx k host) (hC : Fn κ μ' As g σ (some (.int x)) g' σ') (hst : stk = As.reverse ++ st) (hk : As.length = k) (hs : Nat.ble ((st.map fun v => v.category).sum) 8 = true) (h0 : μ'.2.2.2.2.cells = 0 ∧ μ'.2.2.2.2.slots = 0) (hn : (Nat.ble n.1 μ.2.2.2.2.cells && Nat.ble n.2 μ.2.2.2.2.slots) = true)
    (kk : Go κ μ (pc + 3) lv (.int x :: st) (wd g' σ') n Φ) : Go κ μ pc lv stk (wd g σ) n Φ :=
  go_callSN hd hw hC hst hk hs (by rw [h0.1, h0.2]; exact hn) (fun r h' hq => by obtain ⟨rfl, rfl⟩ := hq; rw [h0.1, h0.2]; exact kk)
theorem gs_callSNv {μ' : gm_M} {idx k : Nat} {host : String} {As stk : List Value} {g' : wg_G} {σ' : wg_S} (hd : decode μ.2.1 pc = .ok (.invokestatic idx, 3)) (hw : gm_CSN μ μ' idx k host) (hC : Fn κ μ' As g σ none g' σ') (hst : stk = As.reverse ++ st) (hk : As.length = k) (hs : Nat.ble ((st.map fun v => v.category).sum) 8 = true) (h0 : μ'.2.2.2.2.cells = 0 ∧ μ'.2.2.2.2.slots = 0) (hn : (Nat.ble n.1 μ.2.2.2.2.cells && Nat.ble n.2 μ.2.2.2.2.slots) = true)
    (kk : Go κ μ (pc + 3) lv (st) (wd g' σ') n Φ) : Go κ μ pc lv stk (wd g σ) n Φ :=
  go_callSN hd hw hC hst hk hs (by rw [h0.1, h0.2]; exact hn) (fun r h' hq => by obtain ⟨rfl, rfl⟩ := hq; rw [h0.1, h0.2]; exact kk)
end GS
