/-! constructors: the heap is pre ++ (the object :: what it made), the object at place p -/
section GC
variable {κ : gm_K} {μ : gm_M} {pc : Nat} {lv : List (Option Value)} {st : List Value} {pre tl : gm_H} {e : gm_E} {p : Nat} {n : Nat × Nat} {Φ : Option Value → gm_H → Prop}
theorem gc_0 (hp : pre.length = p) : (pre ++ (e :: tl))[p]? = some e := by subst hp; simp
theorem gc_s {e' : gm_E} (hp : pre.length = p) : (pre ++ (e :: tl)).set p e' = pre ++ (e' :: tl) := by subst hp; simp
theorem gc_i {i q : Nat} (hp : pre.length = p) (hq : p + (i + 1) = q) : (pre ++ (e :: tl))[q]? = tl[i]? := by
  subst hp
  subst hq
  rw [List.getElem?_append_right (by omega), show pre.length + (i + 1) - pre.length = i + 1 by omega, List.getElem?_cons_succ]
theorem gc_si {i q : Nat} {x : gm_E} (hp : pre.length = p) (hq : p + (i + 1) = q) : (pre ++ (e :: tl)).set q x = pre ++ (e :: tl.set i x) := by
  subst hp
  subst hq
  rw [List.set_append_right _ _ (by omega), show pre.length + (i + 1) - pre.length = i + 1 by omega, List.set_cons_succ]
theorem gc_l {q : Nat} (hp : pre.length = p) (hq : p + (tl.length + 1) = q) : (pre ++ (e :: tl)).length = q := by
  rw [List.length_append, List.length_cons, hp, hq]
theorem gc_ls {t0 : gm_H} {x y : gm_E} : (t0 ++ [x]).set t0.length y = t0 ++ [y] := by
  rw [List.set_append_right _ _ (Nat.le_refl _), Nat.sub_self]
  rfl
theorem gc_df {q : vw_C} {ty : Nat → FieldType} {fs : List Value} (hty : ∀ k, k < q.2.2 → parseFieldDescriptor (q.2.1 k).2.2.1 = some (ty k)) (h : (List.range q.2.2).map (fun j => defaultValue (ty j)) = fs) : ∀ j, j < q.2.2 → (parseFieldDescriptor (q.2.1 j).2.2.1).map defaultValue = some (fs.getD j .null) := by
  intro j hj
  rw [hty j hj, ← h]
  simp [hj]
theorem gc_put {ci k idx : Nat} {fs : List Value} {v : Value} {ty : FieldType} (fs' : List Value) (hp : pre.length = p) (hd : decode μ.2.1 pc = .ok (.putfield idx, 3)) (hfl : gm_FL μ.1.cls idx ci k) (hq0 : ∀ q : vw_C, vwCl[ci]? = some q → (q.2.1 k).2.2.2 = false ∧ parseFieldDescriptor (q.2.1 k).2.2.1 = some ty) (hn : narrow ty (gm_v κ v) = gm_v κ v) (hfit : fits ty (gm_v κ v) = true) (hl : Nat.ble (k + 1) fs.length = true) (hfs : fs.set k v = fs')
    (kk : Go κ μ (pc + 3) lv st (pre ++ (.inr (ci, fs') :: tl)) n Φ) : Go κ μ pc lv (v :: .ref p :: st) (pre ++ (.inr (ci, fs) :: tl)) n Φ := by
  refine go_put hd hfl (gc_0 hp) hq0 hn hfit hl ?_
  rw [gc_s hp, hfs]
  exact kk
theorem gc_putF {ci k idx : Nat} {fs : List Value} {v : Value} {ty : FieldType} (fs' : List Value) (hp : pre.length = p) (hd : decode μ.2.1 pc = .ok (.putfield idx, 3)) (hfl : gm_FL μ.1.cls idx ci k) (hname : μ.1.name = "<init>") (hq0 : ∀ q : vw_C, vwCl[ci]? = some q → (q.2.1 k).2.2.2 = true ∧ (q.2.1 k).1 = μ.1.cls ∧ parseFieldDescriptor (q.2.1 k).2.2.1 = some ty) (hn : narrow ty (gm_v κ v) = gm_v κ v) (hfit : fits ty (gm_v κ v) = true) (hl : Nat.ble (k + 1) fs.length = true) (hfs : fs.set k v = fs')
    (kk : Go κ μ (pc + 3) lv st (pre ++ (.inr (ci, fs') :: tl)) n Φ) : Go κ μ pc lv (v :: .ref p :: st) (pre ++ (.inr (ci, fs) :: tl)) n Φ := by
  refine go_putF hd hfl (gc_0 hp) hname hq0 hn hfit hl ?_
  rw [gc_s hp, hfs]
  exact kk
theorem gc_get {ci k idx : Nat} {fs : List Value} {v : Value} (hp : pre.length = p) (hd : decode μ.2.1 pc = .ok (.getfield idx, 3)) (hfl : gm_FL μ.1.cls idx ci k) (hv : fs[k]? = some v) (kk : Go κ μ (pc + 3) lv (v :: st) (pre ++ (.inr (ci, fs) :: tl)) n Φ) : Go κ μ pc lv (.ref p :: st) (pre ++ (.inr (ci, fs) :: tl)) n Φ :=
  go_get hd hfl (gc_0 hp) hv kk
theorem gc_na0 {x : Int32} (N q : Nat) (hp : pre.length = p) (hq : p + (tl.length + 1) = q) (hd : decode μ.2.1 pc = .ok (.newarray .int, 2)) (hx : ¬ x < 0) (hN : x.toNatClampNeg = N) (hb : N * componentBytes .int ≤ 536870912) (hc : (Nat.ble (n.1 + 1) μ.2.2.2.2.cells && Nat.ble (n.2 + N) μ.2.2.2.2.slots) = true)
    (kk : Go κ μ (pc + 2) lv (.ref q :: st) (pre ++ (e :: (tl ++ [.inl (0, N, fun _ => 0)]))) (n.1 + 1, n.2 + N) Φ) : Go κ μ pc lv (.int x :: st) (pre ++ (e :: tl)) n Φ := by
  refine go_newa0 N hd ac_int hx hN hb hc ?_
  rw [gc_l hp hq, List.append_assoc, List.cons_append]
  exact kk
theorem gc_na1 {x : Int32} (N q : Nat) (hp : pre.length = p) (hq : p + (tl.length + 1) = q) (hd : decode μ.2.1 pc = .ok (.newarray .byte, 2)) (hx : ¬ x < 0) (hN : x.toNatClampNeg = N) (hb : N * componentBytes .byte ≤ 536870912) (hc : (Nat.ble (n.1 + 1) μ.2.2.2.2.cells && Nat.ble (n.2 + N) μ.2.2.2.2.slots) = true)
    (kk : Go κ μ (pc + 2) lv (.ref q :: st) (pre ++ (e :: (tl ++ [.inl (1, N, fun _ => 0)]))) (n.1 + 1, n.2 + N) Φ) : Go κ μ pc lv (.int x :: st) (pre ++ (e :: tl)) n Φ := by
  refine go_newa1 N hd ac_byte hx hN hb hc ?_
  rw [gc_l hp hq, List.append_assoc, List.cons_append]
  exact kk
theorem gc_na2 {x : Int32} (N q : Nat) (hp : pre.length = p) (hq : p + (tl.length + 1) = q) (hd : decode μ.2.1 pc = .ok (.newarray .char, 2)) (hx : ¬ x < 0) (hN : x.toNatClampNeg = N) (hb : N * componentBytes .char ≤ 536870912) (hc : (Nat.ble (n.1 + 1) μ.2.2.2.2.cells && Nat.ble (n.2 + N) μ.2.2.2.2.slots) = true)
    (kk : Go κ μ (pc + 2) lv (.ref q :: st) (pre ++ (e :: (tl ++ [.inl (2, N, fun _ => 0)]))) (n.1 + 1, n.2 + N) Φ) : Go κ μ pc lv (.int x :: st) (pre ++ (e :: tl)) n Φ := by
  refine go_newa2 N hd ac_char hx hN hb hc ?_
  rw [gc_l hp hq, List.append_assoc, List.cons_append]
  exact kk
theorem gc_na3 {x : Int32} (N q : Nat) (hp : pre.length = p) (hq : p + (tl.length + 1) = q) (hd : decode μ.2.1 pc = .ok (.newarray .boolean, 2)) (hx : ¬ x < 0) (hN : x.toNatClampNeg = N) (hb : N * componentBytes .boolean ≤ 536870912) (hc : (Nat.ble (n.1 + 1) μ.2.2.2.2.cells && Nat.ble (n.2 + N) μ.2.2.2.2.slots) = true)
    (kk : Go κ μ (pc + 2) lv (.ref q :: st) (pre ++ (e :: (tl ++ [.inl (3, N, fun _ => 0)]))) (n.1 + 1, n.2 + N) Φ) : Go κ μ pc lv (.int x :: st) (pre ++ (e :: tl)) n Φ := by
  refine go_newa3 N hd ac_boolean hx hN hb hc ?_
  rw [gc_l hp hq, List.append_assoc, List.cons_append]
  exact kk
theorem gc_iast {tl0 : gm_H} {len : Nat} {f : Nat → Int32} {i x y : Int32} (j q : Nat) (hp : pre.length = p) (hq : p + (tl0.length + 1) = q) (hd : decode μ.2.1 pc = .ok (.iastore, 1)) (hi : i = nI j) (hj : j < len) (hl : Nat.ble len 65536 = true) (hy : x = y)
    (kk : Go κ μ (pc + 1) lv st (pre ++ (e :: (tl0 ++ [.inl (0, len, upd f j y)]))) n Φ) : Go κ μ pc lv (.int x :: .int i :: .ref q :: st) (pre ++ (e :: (tl0 ++ [.inl (0, len, f)]))) n Φ := by
  have hb := Nat.le_of_ble_eq_true hl
  subst hi
  refine go_iast (f := f) (len := len) hd (by rw [gc_i hp hq]; simp) (vp_in_nI hj (by omega)) ?_
  rw [nI_clamp (by omega), gc_si hp hq, hy]
  rw [gc_ls]
  exact kk
theorem gc_cast {tl0 : gm_H} {len : Nat} {f : Nat → Int32} {i x y : Int32} (j q : Nat) (hp : pre.length = p) (hq : p + (tl0.length + 1) = q) (hd : decode μ.2.1 pc = .ok (.castore, 1)) (hi : i = nI j) (hj : j < len) (hl : Nat.ble len 65536 = true) (hy : vp_nar .char x = y)
    (kk : Go κ μ (pc + 1) lv st (pre ++ (e :: (tl0 ++ [.inl (2, len, upd f j y)]))) n Φ) : Go κ μ pc lv (.int x :: .int i :: .ref q :: st) (pre ++ (e :: (tl0 ++ [.inl (2, len, f)]))) n Φ := by
  have hb := Nat.le_of_ble_eq_true hl
  subst hi
  refine go_cast (f := f) (len := len) hd (by rw [gc_i hp hq]; simp) (vp_in_nI hj (by omega)) ?_
  rw [nI_clamp (by omega), gc_si hp hq, hy]
  rw [gc_ls]
  exact kk
def fil (len : Nat) (v : Int32) (f : Nat → Int32) (i : Nat) : Nat → Int32 := fun k => if k < i then v else f k
theorem cJ7_fill_ok (κ : gm_K) (h : gm_H) (q len : Nat) (f : Nat → Int32) (v : Int32) (hq : h[q]? = some (.inl (0, len, f))) (hl : len ≤ 1000) : Ct κ mJ7_fill_53178 [.ref q, .int v] h (fun r h' => r = none ∧ h' = h.set q (.inl (0, len, fil len v f len))) := by
  refine go_startF (by decide +kernel) (Nat.le_of_ble_eq_true rfl) ?_
  have hql : q < h.length := (List.getElem?_eq_some_iff.mp hq).1
  have ha : ∀ g, (h.set q (.inl (0, len, g)))[q]? = some (.inl (0, len, g)) := fun g => by rw [List.getElem?_set_self hql]
  have h0 : h = h.set q (.inl (0, len, fil len v f 0)) := by
    have : fil len v f 0 = f := by funext k; simp [fil]
    rw [this]
    obtain ⟨hlt, e⟩ := List.getElem?_eq_some_iff.mp hq
    rw [← e]
    exact (List.set_getElem_self hlt).symm
  refine go_iconst (v := nI 0) dJ7_fill_53178_0 (by decide) ?_
  refine go_istore_n (lv' := [_, _, _, _]) dJ7_fill_53178_1 rfl rfl rfl ?_
  refine go_aload_n dJ7_fill_53178_2 rfl ?_
  refine go_alen (v := nI len) dJ7_fill_53178_3 hq (by decide) rfl ?_
  refine go_istore_n (lv' := [_, _, _, _]) dJ7_fill_53178_4 rfl rfl rfl ?_
  refine go_heap h0 ?_
  refine lo_up len (P := fun i => Go κ mJ7_fill_53178 5 [some (.ref q), some (.int v), some (.int (nI i)), some (.int (nI len))] [] (h.set q (.inl (0, len, fil len v f i))) (0, 0) _) (fun i hi ih => ?_) 0 (Nat.zero_le _)
  refine go_iload_n dJ7_fill_53178_5 rfl ?_
  refine go_iload_n dJ7_fill_53178_6 rfl ?_
  refine go_icmp_geN 20 dJ7_fill_53178_7 (by decide) (by omega) (by omega) (fun c7 => ?_) (fun c7 => ?_)
  · refine go_vret dJ7_fill_53178_20 rfl rfl ?_
    have e : i = len := by omega
    subst e
    exact ⟨rfl, rfl⟩
  · refine go_aload_n dJ7_fill_53178_10 rfl ?_
    refine go_iload_n dJ7_fill_53178_11 rfl ?_
    refine go_iload_n dJ7_fill_53178_12 rfl ?_
    refine go_iast dJ7_fill_53178_13 (ha _) (vp_in_nI c7 (by omega)) ?_
    refine go_iincN (lv' := [_, _, _, _]) 1 dJ7_fill_53178_14 (by decide) rfl rfl rfl rfl ?_
    refine go_goto 5 dJ7_fill_53178_17 (by decide) ?_
    refine go_heap ?_ (ih c7)
    rw [List.set_set, nI_clamp (by omega)]
    congr 4
    funext k
    by_cases hk : k = i
    · subst hk; simp [upd, fil]
    · simp only [upd, fil, if_neg hk]
      by_cases h2 : k < i
      · rw [if_pos h2, if_pos (by omega)]
      · rw [if_neg h2, if_neg (by omega)]
theorem gc_fill {idx len : Nat} {f : Nat → Int32} {v : Int32} (i q : Nat) (hp : pre.length = p) (hq : p + (i + 1) = q) (ht : tl[i]? = some (.inl (0, len, f))) (hl : Nat.ble len 1000 = true) (hd : decode μ.2.1 pc = .ok (.invokestatic idx, 3)) (hw : gm_CS μ mJ7_fill_53178 idx 2) (hs : Nat.ble ((st.map fun v => v.category).sum) 8 = true) (hn : (Nat.ble n.1 μ.2.2.2.2.cells && Nat.ble n.2 μ.2.2.2.2.slots) = true)
    (kk : Go κ μ (pc + 3) lv st (pre ++ (e :: tl.set i (.inl (0, len, fil len v f len)))) n Φ) : Go κ μ pc lv (.int v :: .ref q :: st) (pre ++ (e :: tl)) n Φ := by
  refine go_callS hd hw (cJ7_fill_ok κ _ q len f v (by rw [gc_i hp hq]; exact ht) (Nat.le_of_ble_eq_true hl)) (As := [.ref q, .int v]) (st := st) rfl rfl hs hn (fun r h' hq' => ?_)
  obtain ⟨rfl, rfl⟩ := hq'
  rw [gc_si hp hq]
  exact kk
theorem gc_no {idx : Nat} (ci : Nat) {q : vw_C} (fs : List Value) (z : Nat) (hp : pre.length = p) (hz : p + (tl.length + 1) = z) (hd : decode μ.2.1 pc = .ok (.new idx, 3)) (hq : vwCl[ci]? = some q) (hcl : Cond.classLink μ.1.cls idx q.1 ∈ lw_tbl) (hins : Cond.instantiable q.1 q.2.2 ∈ lw_tbl) (hini : Cond.initialized q.1 ∈ lw_tbl) (hfs : ∀ j, j < q.2.2 → (parseFieldDescriptor (q.2.1 j).2.2.1).map defaultValue = some (fs.getD j .null)) (hc : (Nat.ble (n.1 + 1) μ.2.2.2.2.cells && Nat.ble (n.2 + q.2.2) μ.2.2.2.2.slots) = true)
    (kk : Go κ μ (pc + 3) lv (.ref z :: st) ((pre ++ (e :: tl)) ++ [.inr (ci, fs)]) (n.1 + 1, n.2 + q.2.2) Φ) : Go κ μ pc lv st (pre ++ (e :: tl)) n Φ := by
  refine go_new ci fs hd hq hcl hins hini hfs hc ?_
  rw [gc_l hp hz]
  exact kk
theorem gc_ci {μ' : gm_M} {idx k q : Nat} {As stk : List Value} {x0 : gm_E} (L : gm_H) (hd : decode μ.2.1 pc = .ok (.invokespecial idx, 3)) (hw : gm_CI μ μ' idx k ∨ gm_CIN μ μ' idx k "SongField") (hC : Ct κ μ' (.ref q :: As) ((pre ++ (e :: tl)) ++ [x0]) (fun r h' => r = none ∧ h' = (pre ++ (e :: tl)) ++ L)) (hst : stk = As.reverse ++ .ref q :: st) (hk : As.length = k) (hs : Nat.ble ((st.map fun v => v.category).sum) 8 = true) (hn : (Nat.ble (n.1 + μ'.2.2.2.2.cells) μ.2.2.2.2.cells && Nat.ble (n.2 + μ'.2.2.2.2.slots) μ.2.2.2.2.slots) = true)
    (kk : Go κ μ (pc + 3) lv st (pre ++ (e :: (tl ++ L))) (n.1 + μ'.2.2.2.2.cells, n.2 + μ'.2.2.2.2.slots) Φ) : Go κ μ pc lv stk ((pre ++ (e :: tl)) ++ [x0]) n Φ := by
  have k2 : ∀ (r : Option Value) (h' : gm_H), (r = none ∧ h' = (pre ++ (e :: tl)) ++ L) → Go κ μ (pc + 3) lv (r.toList ++ st) h' (n.1 + μ'.2.2.2.2.cells, n.2 + μ'.2.2.2.2.slots) Φ := by
    intro r h' hq
    obtain ⟨rfl, rfl⟩ := hq
    rw [List.append_assoc, List.cons_append]
    exact kk
  rcases hw with hw | hw
  · exact go_callI hd hw hC hst hk hs hn k2
  · exact go_callIN hd hw hC hst hk hs hn k2
end GC
def LX0_init : gm_H := [.inr (0, [.int (nI 0), .ref 2, .ref 3, .ref 4, .ref 5, .ref 6, .ref 7, .ref 8]), .inl (0, 16, fun _ => 0), .inl (0, 16, fun _ => 0), .inl (0, 16, fun _ => 0), .inl (0, 64, fun _ => 0), .inl (0, 16, fun _ => 0), .inl (0, 16, fun _ => 0), .inl (0, 16, fun _ => 0)]
theorem cX0_init_ok (κ : gm_K) (pre : gm_H) (hp : pre.length = 1) : Ct κ mX0_init [.ref 1] (pre ++ [.inr (0, [.int 0, .null, .null, .null, .null, .null, .null, .null])]) (fun r h' => r = none ∧ h' = pre ++ LX0_init) := by
  refine go_start (by decide) (Nat.le_of_ble_eq_true rfl) ?_
  refine go_aload_n dX0_init_0 rfl ?_
  refine go_objInit dX0_init_1 obX0_init_3 rfl rfl ?_
  refine go_aload_n dX0_init_4 rfl ?_
  refine go_iconst (v := nI 0) dX0_init_5 (by decide) ?_
  refine gc_put (ty := .int) [.int (nI 0), .null, .null, .null, .null, .null, .null, .null] hp dX0_init_6 flX0_9 (fun q hq => by cases hq; exact ⟨rfl, rfl⟩) rfl rfl rfl rfl ?_
  refine go_aload_n dX0_init_9 rfl ?_
  refine go_bipush (v := nI 16) dX0_init_10 (by decide) ?_
  refine gc_na0 16 2 hp (by first | rfl | simp) dX0_init_12 (by decide) (by decide) (by decide) rfl ?_
  refine gc_putF (ty := .array .int) [.int (nI 0), .ref 2, .null, .null, .null, .null, .null, .null] hp dX0_init_14 flX0_15 rfl (fun q hq => by cases hq; exact ⟨rfl, rfl, rfl⟩) rfl rfl rfl rfl ?_
  refine go_aload_n dX0_init_17 rfl ?_
  refine go_bipush (v := nI 16) dX0_init_18 (by decide) ?_
  refine gc_na0 16 3 hp (by first | rfl | simp) dX0_init_20 (by decide) (by decide) (by decide) rfl ?_
  refine gc_putF (ty := .array .int) [.int (nI 0), .ref 2, .ref 3, .null, .null, .null, .null, .null] hp dX0_init_22 flX0_19 rfl (fun q hq => by cases hq; exact ⟨rfl, rfl, rfl⟩) rfl rfl rfl rfl ?_
  refine go_aload_n dX0_init_25 rfl ?_
  refine go_bipush (v := nI 16) dX0_init_26 (by decide) ?_
  refine gc_na0 16 4 hp (by first | rfl | simp) dX0_init_28 (by decide) (by decide) (by decide) rfl ?_
  refine gc_putF (ty := .array .int) [.int (nI 0), .ref 2, .ref 3, .ref 4, .null, .null, .null, .null] hp dX0_init_30 flX0_22 rfl (fun q hq => by cases hq; exact ⟨rfl, rfl, rfl⟩) rfl rfl rfl rfl ?_
  refine go_aload_n dX0_init_33 rfl ?_
  refine go_bipush (v := nI 64) dX0_init_34 (by decide) ?_
  refine gc_na0 64 5 hp (by first | rfl | simp) dX0_init_36 (by decide) (by decide) (by decide) rfl ?_
  refine gc_putF (ty := .array .int) [.int (nI 0), .ref 2, .ref 3, .ref 4, .ref 5, .null, .null, .null] hp dX0_init_38 flX0_25 rfl (fun q hq => by cases hq; exact ⟨rfl, rfl, rfl⟩) rfl rfl rfl rfl ?_
  refine go_aload_n dX0_init_41 rfl ?_
  refine go_bipush (v := nI 16) dX0_init_42 (by decide) ?_
  refine gc_na0 16 6 hp (by first | rfl | simp) dX0_init_44 (by decide) (by decide) (by decide) rfl ?_
  refine gc_putF (ty := .array .int) [.int (nI 0), .ref 2, .ref 3, .ref 4, .ref 5, .ref 6, .null, .null] hp dX0_init_46 flX0_28 rfl (fun q hq => by cases hq; exact ⟨rfl, rfl, rfl⟩) rfl rfl rfl rfl ?_
  refine go_aload_n dX0_init_49 rfl ?_
  refine go_bipush (v := nI 16) dX0_init_50 (by decide) ?_
  refine gc_na0 16 7 hp (by first | rfl | simp) dX0_init_52 (by decide) (by decide) (by decide) rfl ?_
  refine gc_putF (ty := .array .int) [.int (nI 0), .ref 2, .ref 3, .ref 4, .ref 5, .ref 6, .ref 7, .null] hp dX0_init_54 flX0_31 rfl (fun q hq => by cases hq; exact ⟨rfl, rfl, rfl⟩) rfl rfl rfl rfl ?_
  refine go_aload_n dX0_init_57 rfl ?_
  refine go_bipush (v := nI 16) dX0_init_58 (by decide) ?_
  refine gc_na0 16 8 hp (by first | rfl | simp) dX0_init_60 (by decide) (by decide) (by decide) rfl ?_
  refine gc_putF (ty := .array .int) [.int (nI 0), .ref 2, .ref 3, .ref 4, .ref 5, .ref 6, .ref 7, .ref 8] hp dX0_init_62 flX0_34 rfl (fun q hq => by cases hq; exact ⟨rfl, rfl, rfl⟩) rfl rfl rfl rfl ?_
  refine go_vret dX0_init_65 rfl rfl ?_
  exact ⟨rfl, rfl⟩
def LX7_init : gm_H := [.inr (7, [.int (nI 0), .ref 10, .ref 11, .ref 12, .ref 13]), .inl (0, 9, fun _ => 0), .inl (0, 9, fun _ => 0), .inl (0, 9, fun _ => 0), .inl (0, 9, fun _ => 0)]
theorem cX7_init_ok (κ : gm_K) (pre : gm_H) (hp : pre.length = 9) : Ct κ mX7_init [.ref 9] (pre ++ [.inr (7, [.int 0, .null, .null, .null, .null])]) (fun r h' => r = none ∧ h' = pre ++ LX7_init) := by
  refine go_start (by decide) (Nat.le_of_ble_eq_true rfl) ?_
  refine go_aload_n dX7_init_0 rfl ?_
  refine go_objInit dX7_init_1 obX7_init_3 rfl rfl ?_
  refine go_aload_n dX7_init_4 rfl ?_
  refine go_iconst (v := nI 0) dX7_init_5 (by decide) ?_
  refine gc_put (ty := .int) [.int (nI 0), .null, .null, .null, .null] hp dX7_init_6 flX7_9 (fun q hq => by cases hq; exact ⟨rfl, rfl⟩) rfl rfl rfl rfl ?_
  refine go_aload_n dX7_init_9 rfl ?_
  refine go_bipush (v := nI 9) dX7_init_10 (by decide) ?_
  refine gc_na0 9 10 hp (by first | rfl | simp) dX7_init_12 (by decide) (by decide) (by decide) rfl ?_
  refine gc_putF (ty := .array .int) [.int (nI 0), .ref 10, .null, .null, .null] hp dX7_init_14 flX7_15 rfl (fun q hq => by cases hq; exact ⟨rfl, rfl, rfl⟩) rfl rfl rfl rfl ?_
  refine go_aload_n dX7_init_17 rfl ?_
  refine go_bipush (v := nI 9) dX7_init_18 (by decide) ?_
  refine gc_na0 9 11 hp (by first | rfl | simp) dX7_init_20 (by decide) (by decide) (by decide) rfl ?_
  refine gc_putF (ty := .array .int) [.int (nI 0), .ref 10, .ref 11, .null, .null] hp dX7_init_22 flX7_19 rfl (fun q hq => by cases hq; exact ⟨rfl, rfl, rfl⟩) rfl rfl rfl rfl ?_
  refine go_aload_n dX7_init_25 rfl ?_
  refine go_bipush (v := nI 9) dX7_init_26 (by decide) ?_
  refine gc_na0 9 12 hp (by first | rfl | simp) dX7_init_28 (by decide) (by decide) (by decide) rfl ?_
  refine gc_putF (ty := .array .int) [.int (nI 0), .ref 10, .ref 11, .ref 12, .null] hp dX7_init_30 flX7_22 rfl (fun q hq => by cases hq; exact ⟨rfl, rfl, rfl⟩) rfl rfl rfl rfl ?_
  refine go_aload_n dX7_init_33 rfl ?_
  refine go_bipush (v := nI 9) dX7_init_34 (by decide) ?_
  refine gc_na0 9 13 hp (by first | rfl | simp) dX7_init_36 (by decide) (by decide) (by decide) rfl ?_
  refine gc_putF (ty := .array .int) [.int (nI 0), .ref 10, .ref 11, .ref 12, .ref 13] hp dX7_init_38 flX7_25 rfl (fun q hq => by cases hq; exact ⟨rfl, rfl, rfl⟩) rfl rfl rfl rfl ?_
  refine go_vret dX7_init_41 rfl rfl ?_
  exact ⟨rfl, rfl⟩
def LX2_init : gm_H := [.inr (2, [.int (nI 0), .ref 15, .ref 16]), .inl (0, 6, fun _ => 0), .inl (0, 96, fil 96 (-1) (fun _ => 0) 96)]
theorem cX2_init_ok (κ : gm_K) (pre : gm_H) (hp : pre.length = 14) : Ct κ mX2_init [.ref 14] (pre ++ [.inr (2, [.int 0, .null, .null])]) (fun r h' => r = none ∧ h' = pre ++ LX2_init) := by
  refine go_start (by decide) (Nat.le_of_ble_eq_true rfl) ?_
  refine go_aload_n dX2_init_0 rfl ?_
  refine go_objInit dX2_init_1 obX2_init_3 rfl rfl ?_
  refine go_aload_n dX2_init_4 rfl ?_
  refine go_iconst (v := nI 0) dX2_init_5 (by decide) ?_
  refine gc_put (ty := .int) [.int (nI 0), .null, .null] hp dX2_init_6 flX2_9 (fun q hq => by cases hq; exact ⟨rfl, rfl⟩) rfl rfl rfl rfl ?_
  refine go_aload_n dX2_init_9 rfl ?_
  refine go_bipush (v := nI 6) dX2_init_10 (by decide) ?_
  refine gc_na0 6 15 hp (by first | rfl | simp) dX2_init_12 (by decide) (by decide) (by decide) rfl ?_
  refine gc_putF (ty := .array .int) [.int (nI 0), .ref 15, .null] hp dX2_init_14 flX2_15 rfl (fun q hq => by cases hq; exact ⟨rfl, rfl, rfl⟩) rfl rfl rfl rfl ?_
  refine go_aload_n dX2_init_17 rfl ?_
  refine go_bipush (v := nI 96) dX2_init_18 (by decide) ?_
  refine gc_na0 96 16 hp (by first | rfl | simp) dX2_init_20 (by decide) (by decide) (by decide) rfl ?_
  refine gc_putF (ty := .array .int) [.int (nI 0), .ref 15, .ref 16] hp dX2_init_22 flX2_19 rfl (fun q hq => by cases hq; exact ⟨rfl, rfl, rfl⟩) rfl rfl rfl rfl ?_
  refine go_aload_n dX2_init_25 rfl ?_
  refine gc_get hp dX2_init_26 flX2_19 rfl ?_
  refine go_iconst (v := -1) dX2_init_29 (by decide) ?_
  refine gc_fill 1 16 hp rfl rfl rfl dX2_init_30 csX2_init_22 rfl rfl ?_
  refine go_vret dX2_init_33 rfl rfl ?_
  exact ⟨rfl, rfl⟩
def LX9_init : gm_H := [.inr (9, [.int (nI 0), .int (nI 0), .int (nI 0), .int (-1), .int (nI 0), .ref 18, .ref 19, .ref 20, .ref 21]), .inl (0, 120, fun _ => 0), .inl (0, 2, fun _ => 0), .inl (0, 2, fun _ => 0), .inl (0, 2, fun _ => 0)]
theorem cX9_init_ok (κ : gm_K) (pre : gm_H) (hp : pre.length = 17) : Ct κ mX9_init [.ref 17] (pre ++ [.inr (9, [.int 0, .int 0, .int 0, .int 0, .int 0, .null, .null, .null, .null])]) (fun r h' => r = none ∧ h' = pre ++ LX9_init) := by
  refine go_start (by decide) (Nat.le_of_ble_eq_true rfl) ?_
  refine go_aload_n dX9_init_0 rfl ?_
  refine go_objInit dX9_init_1 obX9_init_3 rfl rfl ?_
  refine go_aload_n dX9_init_4 rfl ?_
  refine go_iconst (v := nI 0) dX9_init_5 (by decide) ?_
  refine gc_put (ty := .int) [.int (nI 0), .int 0, .int 0, .int 0, .int 0, .null, .null, .null, .null] hp dX9_init_6 flX9_9 (fun q hq => by cases hq; exact ⟨rfl, rfl⟩) rfl rfl rfl rfl ?_
  refine go_aload_n dX9_init_9 rfl ?_
  refine go_iconst (v := nI 0) dX9_init_10 (by decide) ?_
  refine gc_put (ty := .int) [.int (nI 0), .int (nI 0), .int 0, .int 0, .int 0, .null, .null, .null, .null] hp dX9_init_11 flX9_15 (fun q hq => by cases hq; exact ⟨rfl, rfl⟩) rfl rfl rfl rfl ?_
  refine go_aload_n dX9_init_14 rfl ?_
  refine go_iconst (v := nI 0) dX9_init_15 (by decide) ?_
  refine gc_put (ty := .boolean) [.int (nI 0), .int (nI 0), .int (nI 0), .int 0, .int 0, .null, .null, .null, .null] hp dX9_init_16 flX9_18 (fun q hq => by cases hq; exact ⟨rfl, rfl⟩) rfl rfl rfl rfl ?_
  refine go_aload_n dX9_init_19 rfl ?_
  refine go_iconst (v := -1) dX9_init_20 (by decide) ?_
  refine gc_put (ty := .int) [.int (nI 0), .int (nI 0), .int (nI 0), .int (-1), .int 0, .null, .null, .null, .null] hp dX9_init_21 flX9_22 (fun q hq => by cases hq; exact ⟨rfl, rfl⟩) rfl rfl rfl rfl ?_
  refine go_aload_n dX9_init_24 rfl ?_
  refine go_iconst (v := nI 0) dX9_init_25 (by decide) ?_
  refine gc_put (ty := .int) [.int (nI 0), .int (nI 0), .int (nI 0), .int (-1), .int (nI 0), .null, .null, .null, .null] hp dX9_init_26 flX9_25 (fun q hq => by cases hq; exact ⟨rfl, rfl⟩) rfl rfl rfl rfl ?_
  refine go_aload_n dX9_init_29 rfl ?_
  refine go_bipush (v := nI 120) dX9_init_30 (by decide) ?_
  refine gc_na0 120 18 hp (by first | rfl | simp) dX9_init_32 (by decide) (by decide) (by decide) rfl ?_
  refine gc_putF (ty := .array .int) [.int (nI 0), .int (nI 0), .int (nI 0), .int (-1), .int (nI 0), .ref 18, .null, .null, .null] hp dX9_init_34 flX9_28 rfl (fun q hq => by cases hq; exact ⟨rfl, rfl, rfl⟩) rfl rfl rfl rfl ?_
  refine go_aload_n dX9_init_37 rfl ?_
  refine go_iconst (v := nI 2) dX9_init_38 (by decide) ?_
  refine gc_na0 2 19 hp (by first | rfl | simp) dX9_init_39 (by decide) (by decide) (by decide) rfl ?_
  refine gc_putF (ty := .array .int) [.int (nI 0), .int (nI 0), .int (nI 0), .int (-1), .int (nI 0), .ref 18, .ref 19, .null, .null] hp dX9_init_41 flX9_32 rfl (fun q hq => by cases hq; exact ⟨rfl, rfl, rfl⟩) rfl rfl rfl rfl ?_
  refine go_aload_n dX9_init_44 rfl ?_
  refine go_iconst (v := nI 2) dX9_init_45 (by decide) ?_
  refine gc_na0 2 20 hp (by first | rfl | simp) dX9_init_46 (by decide) (by decide) (by decide) rfl ?_
  refine gc_putF (ty := .array .int) [.int (nI 0), .int (nI 0), .int (nI 0), .int (-1), .int (nI 0), .ref 18, .ref 19, .ref 20, .null] hp dX9_init_48 flX9_35 rfl (fun q hq => by cases hq; exact ⟨rfl, rfl, rfl⟩) rfl rfl rfl rfl ?_
  refine go_aload_n dX9_init_51 rfl ?_
  refine go_iconst (v := nI 2) dX9_init_52 (by decide) ?_
  refine gc_na0 2 21 hp (by first | rfl | simp) dX9_init_53 (by decide) (by decide) (by decide) rfl ?_
  refine gc_putF (ty := .array .int) [.int (nI 0), .int (nI 0), .int (nI 0), .int (-1), .int (nI 0), .ref 18, .ref 19, .ref 20, .ref 21] hp dX9_init_55 flX9_38 rfl (fun q hq => by cases hq; exact ⟨rfl, rfl, rfl⟩) rfl rfl rfl rfl ?_
  refine go_vret dX9_init_58 rfl rfl ?_
  exact ⟨rfl, rfl⟩
def LX6_init : gm_H := [.inr (6, [.int (nI 0), .ref 23, .ref 24, .ref 25, .ref 26, .ref 27, .ref 28]), .inl (3, 12, fun _ => 0), .inl (0, 12, fun _ => 0), .inl (0, 12, fun _ => 0), .inl (0, 24, fun _ => 0), .inl (0, 24, fun _ => 0), .inl (0, 24, fun _ => 0)]
theorem cX6_init_ok (κ : gm_K) (pre : gm_H) (hp : pre.length = 22) : Ct κ mX6_init [.ref 22] (pre ++ [.inr (6, [.int 0, .null, .null, .null, .null, .null, .null])]) (fun r h' => r = none ∧ h' = pre ++ LX6_init) := by
  refine go_start (by decide) (Nat.le_of_ble_eq_true rfl) ?_
  refine go_aload_n dX6_init_0 rfl ?_
  refine go_objInit dX6_init_1 obX6_init_3 rfl rfl ?_
  refine go_aload_n dX6_init_4 rfl ?_
  refine go_iconst (v := nI 0) dX6_init_5 (by decide) ?_
  refine gc_put (ty := .int) [.int (nI 0), .null, .null, .null, .null, .null, .null] hp dX6_init_6 flX6_9 (fun q hq => by cases hq; exact ⟨rfl, rfl⟩) rfl rfl rfl rfl ?_
  refine go_aload_n dX6_init_9 rfl ?_
  refine go_bipush (v := nI 12) dX6_init_10 (by decide) ?_
  refine gc_na3 12 23 hp (by first | rfl | simp) dX6_init_12 (by decide) (by decide) (by decide) rfl ?_
  refine gc_putF (ty := .array .boolean) [.int (nI 0), .ref 23, .null, .null, .null, .null, .null] hp dX6_init_14 flX6_15 rfl (fun q hq => by cases hq; exact ⟨rfl, rfl, rfl⟩) rfl rfl rfl rfl ?_
  refine go_aload_n dX6_init_17 rfl ?_
  refine go_bipush (v := nI 12) dX6_init_18 (by decide) ?_
  refine gc_na0 12 24 hp (by first | rfl | simp) dX6_init_20 (by decide) (by decide) (by decide) rfl ?_
  refine gc_putF (ty := .array .int) [.int (nI 0), .ref 23, .ref 24, .null, .null, .null, .null] hp dX6_init_22 flX6_19 rfl (fun q hq => by cases hq; exact ⟨rfl, rfl, rfl⟩) rfl rfl rfl rfl ?_
  refine go_aload_n dX6_init_25 rfl ?_
  refine go_bipush (v := nI 12) dX6_init_26 (by decide) ?_
  refine gc_na0 12 25 hp (by first | rfl | simp) dX6_init_28 (by decide) (by decide) (by decide) rfl ?_
  refine gc_putF (ty := .array .int) [.int (nI 0), .ref 23, .ref 24, .ref 25, .null, .null, .null] hp dX6_init_30 flX6_23 rfl (fun q hq => by cases hq; exact ⟨rfl, rfl, rfl⟩) rfl rfl rfl rfl ?_
  refine go_aload_n dX6_init_33 rfl ?_
  refine go_bipush (v := nI 24) dX6_init_34 (by decide) ?_
  refine gc_na0 24 26 hp (by first | rfl | simp) dX6_init_36 (by decide) (by decide) (by decide) rfl ?_
  refine gc_putF (ty := .array .int) [.int (nI 0), .ref 23, .ref 24, .ref 25, .ref 26, .null, .null] hp dX6_init_38 flX6_26 rfl (fun q hq => by cases hq; exact ⟨rfl, rfl, rfl⟩) rfl rfl rfl rfl ?_
  refine go_aload_n dX6_init_41 rfl ?_
  refine go_bipush (v := nI 24) dX6_init_42 (by decide) ?_
  refine gc_na0 24 27 hp (by first | rfl | simp) dX6_init_44 (by decide) (by decide) (by decide) rfl ?_
  refine gc_putF (ty := .array .int) [.int (nI 0), .ref 23, .ref 24, .ref 25, .ref 26, .ref 27, .null] hp dX6_init_46 flX6_29 rfl (fun q hq => by cases hq; exact ⟨rfl, rfl, rfl⟩) rfl rfl rfl rfl ?_
  refine go_aload_n dX6_init_49 rfl ?_
  refine go_bipush (v := nI 24) dX6_init_50 (by decide) ?_
  refine gc_na0 24 28 hp (by first | rfl | simp) dX6_init_52 (by decide) (by decide) (by decide) rfl ?_
  refine gc_putF (ty := .array .int) [.int (nI 0), .ref 23, .ref 24, .ref 25, .ref 26, .ref 27, .ref 28] hp dX6_init_54 flX6_32 rfl (fun q hq => by cases hq; exact ⟨rfl, rfl, rfl⟩) rfl rfl rfl rfl ?_
  refine go_vret dX6_init_57 rfl rfl ?_
  exact ⟨rfl, rfl⟩
def LX8_init : gm_H := [.inr (8, [.int (nI 4), .int (nI 20), .ref 30, .ref 31, .ref 1, .ref 32, .ref 33, .int (nI 0), .int (nI 0)]), .inl (0, 16, fil 16 (-1) (fun _ => 0) 16), .inl (0, 16, fil 16 (-1) (fun _ => 0) 16), .inl (0, 4, fun _ => 0), .inl (0, 4, fun _ => 0)]
theorem cX8_init_ok (κ : gm_K) (pre : gm_H) (hp : pre.length = 29) : Ct κ mX8_init [.ref 29, .ref 1] (pre ++ [.inr (8, [.int 0, .int 0, .null, .null, .null, .null, .null, .int 0, .int 0])]) (fun r h' => r = none ∧ h' = pre ++ LX8_init) := by
  refine go_start (by decide) (Nat.le_of_ble_eq_true rfl) ?_
  refine go_aload_n dX8_init_0 rfl ?_
  refine go_objInit dX8_init_1 obX8_init_3 rfl rfl ?_
  refine go_aload_n dX8_init_4 rfl ?_
  refine go_iconst (v := nI 4) dX8_init_5 (by decide) ?_
  refine gc_put (ty := .int) [.int (nI 4), .int 0, .null, .null, .null, .null, .null, .int 0, .int 0] hp dX8_init_6 flX8_9 (fun q hq => by cases hq; exact ⟨rfl, rfl⟩) rfl rfl rfl rfl ?_
  refine go_aload_n dX8_init_9 rfl ?_
  refine go_bipush (v := nI 20) dX8_init_10 (by decide) ?_
  refine gc_put (ty := .int) [.int (nI 4), .int (nI 20), .null, .null, .null, .null, .null, .int 0, .int 0] hp dX8_init_12 flX8_15 (fun q hq => by cases hq; exact ⟨rfl, rfl⟩) rfl rfl rfl rfl ?_
  refine go_aload_n dX8_init_15 rfl ?_
  refine go_bipush (v := nI 16) dX8_init_16 (by decide) ?_
  refine gc_na0 16 30 hp (by first | rfl | simp) dX8_init_18 (by decide) (by decide) (by decide) rfl ?_
  refine gc_putF (ty := .array .int) [.int (nI 4), .int (nI 20), .ref 30, .null, .null, .null, .null, .int 0, .int 0] hp dX8_init_20 flX8_18 rfl (fun q hq => by cases hq; exact ⟨rfl, rfl, rfl⟩) rfl rfl rfl rfl ?_
  refine go_aload_n dX8_init_23 rfl ?_
  refine go_bipush (v := nI 16) dX8_init_24 (by decide) ?_
  refine gc_na0 16 31 hp (by first | rfl | simp) dX8_init_26 (by decide) (by decide) (by decide) rfl ?_
  refine gc_putF (ty := .array .int) [.int (nI 4), .int (nI 20), .ref 30, .ref 31, .null, .null, .null, .int 0, .int 0] hp dX8_init_28 flX8_22 rfl (fun q hq => by cases hq; exact ⟨rfl, rfl, rfl⟩) rfl rfl rfl rfl ?_
  refine go_aload_n dX8_init_31 rfl ?_
  refine go_iconst (v := nI 4) dX8_init_32 (by decide) ?_
  refine gc_na0 4 32 hp (by first | rfl | simp) dX8_init_33 (by decide) (by decide) (by decide) rfl ?_
  refine gc_putF (ty := .array .int) [.int (nI 4), .int (nI 20), .ref 30, .ref 31, .null, .ref 32, .null, .int 0, .int 0] hp dX8_init_35 flX8_25 rfl (fun q hq => by cases hq; exact ⟨rfl, rfl, rfl⟩) rfl rfl rfl rfl ?_
  refine go_aload_n dX8_init_38 rfl ?_
  refine go_iconst (v := nI 4) dX8_init_39 (by decide) ?_
  refine gc_na0 4 33 hp (by first | rfl | simp) dX8_init_40 (by decide) (by decide) (by decide) rfl ?_
  refine gc_putF (ty := .array .int) [.int (nI 4), .int (nI 20), .ref 30, .ref 31, .null, .ref 32, .ref 33, .int 0, .int 0] hp dX8_init_42 flX8_28 rfl (fun q hq => by cases hq; exact ⟨rfl, rfl, rfl⟩) rfl rfl rfl rfl ?_
  refine go_aload_n dX8_init_45 rfl ?_
  refine go_iconst (v := nI 0) dX8_init_46 (by decide) ?_
  refine gc_put (ty := .int) [.int (nI 4), .int (nI 20), .ref 30, .ref 31, .null, .ref 32, .ref 33, .int (nI 0), .int 0] hp dX8_init_47 flX8_31 (fun q hq => by cases hq; exact ⟨rfl, rfl⟩) rfl rfl rfl rfl ?_
  refine go_aload_n dX8_init_50 rfl ?_
  refine go_iconst (v := nI 0) dX8_init_51 (by decide) ?_
  refine gc_put (ty := .int) [.int (nI 4), .int (nI 20), .ref 30, .ref 31, .null, .ref 32, .ref 33, .int (nI 0), .int (nI 0)] hp dX8_init_52 flX8_34 (fun q hq => by cases hq; exact ⟨rfl, rfl⟩) rfl rfl rfl rfl ?_
  refine go_aload_n dX8_init_55 rfl ?_
  refine go_aload_n dX8_init_56 rfl ?_
  refine gc_putF (ty := .object "SongField$Choirs") [.int (nI 4), .int (nI 20), .ref 30, .ref 31, .ref 1, .ref 32, .ref 33, .int (nI 0), .int (nI 0)] hp dX8_init_57 flX8_37 rfl (fun q hq => by cases hq; exact ⟨rfl, rfl, rfl⟩) rfl rfl rfl rfl ?_
  refine go_aload_n dX8_init_60 rfl ?_
  refine gc_get hp dX8_init_61 flX8_18 rfl ?_
  refine go_iconst (v := -1) dX8_init_64 (by decide) ?_
  refine gc_fill 0 30 hp rfl rfl rfl dX8_init_65 csX8_init_41 rfl rfl ?_
  refine go_aload_n dX8_init_68 rfl ?_
  refine gc_get hp dX8_init_69 flX8_22 rfl ?_
  refine go_iconst (v := -1) dX8_init_72 (by decide) ?_
  refine gc_fill 1 31 hp rfl rfl rfl dX8_init_73 csX8_init_41 rfl rfl ?_
  refine go_vret dX8_init_76 rfl rfl ?_
  exact ⟨rfl, rfl⟩
def LX5_init : gm_H := [.inr (5, [.int (nI 0), .ref 35, .int (nI 0), .ref 36, .ref 37, .ref 38, .ref 39]), .inl (0, 9, fun _ => 0), .inl (0, 9, fun _ => 0), .inl (0, 9, fun _ => 0), .inl (0, 81, fun _ => 0), .inl (0, 0, fun _ => 0)]
theorem cX5_init_ok (κ : gm_K) (pre : gm_H) (hp : pre.length = 34) : Ct κ mX5_init [.ref 34] (pre ++ [.inr (5, [.int 0, .null, .int 0, .null, .null, .null, .null])]) (fun r h' => r = none ∧ h' = pre ++ LX5_init) := by
  refine go_start (by decide) (Nat.le_of_ble_eq_true rfl) ?_
  refine go_aload_n dX5_init_0 rfl ?_
  refine go_objInit dX5_init_1 obX5_init_3 rfl rfl ?_
  refine go_aload_n dX5_init_4 rfl ?_
  refine go_iconst (v := nI 0) dX5_init_5 (by decide) ?_
  refine gc_put (ty := .int) [.int (nI 0), .null, .int 0, .null, .null, .null, .null] hp dX5_init_6 flX5_9 (fun q hq => by cases hq; exact ⟨rfl, rfl⟩) rfl rfl rfl rfl ?_
  refine go_aload_n dX5_init_9 rfl ?_
  refine go_bipush (v := nI 9) dX5_init_10 (by decide) ?_
  refine gc_na0 9 35 hp (by first | rfl | simp) dX5_init_12 (by decide) (by decide) (by decide) rfl ?_
  refine gc_putF (ty := .array .int) [.int (nI 0), .ref 35, .int 0, .null, .null, .null, .null] hp dX5_init_14 flX5_15 rfl (fun q hq => by cases hq; exact ⟨rfl, rfl, rfl⟩) rfl rfl rfl rfl ?_
  refine go_aload_n dX5_init_17 rfl ?_
  refine go_iconst (v := nI 0) dX5_init_18 (by decide) ?_
  refine gc_put (ty := .int) [.int (nI 0), .ref 35, .int (nI 0), .null, .null, .null, .null] hp dX5_init_19 flX5_19 (fun q hq => by cases hq; exact ⟨rfl, rfl⟩) rfl rfl rfl rfl ?_
  refine go_aload_n dX5_init_22 rfl ?_
  refine go_bipush (v := nI 9) dX5_init_23 (by decide) ?_
  refine gc_na0 9 36 hp (by first | rfl | simp) dX5_init_25 (by decide) (by decide) (by decide) rfl ?_
  refine gc_putF (ty := .array .int) [.int (nI 0), .ref 35, .int (nI 0), .ref 36, .null, .null, .null] hp dX5_init_27 flX5_22 rfl (fun q hq => by cases hq; exact ⟨rfl, rfl, rfl⟩) rfl rfl rfl rfl ?_
  refine go_aload_n dX5_init_30 rfl ?_
  refine go_bipush (v := nI 9) dX5_init_31 (by decide) ?_
  refine gc_na0 9 37 hp (by first | rfl | simp) dX5_init_33 (by decide) (by decide) (by decide) rfl ?_
  refine gc_putF (ty := .array .int) [.int (nI 0), .ref 35, .int (nI 0), .ref 36, .ref 37, .null, .null] hp dX5_init_35 flX5_25 rfl (fun q hq => by cases hq; exact ⟨rfl, rfl, rfl⟩) rfl rfl rfl rfl ?_
  refine go_aload_n dX5_init_38 rfl ?_
  refine go_bipush (v := nI 81) dX5_init_39 (by decide) ?_
  refine gc_na0 81 38 hp (by first | rfl | simp) dX5_init_41 (by decide) (by decide) (by decide) rfl ?_
  refine gc_putF (ty := .array .int) [.int (nI 0), .ref 35, .int (nI 0), .ref 36, .ref 37, .ref 38, .null] hp dX5_init_43 flX5_28 rfl (fun q hq => by cases hq; exact ⟨rfl, rfl, rfl⟩) rfl rfl rfl rfl ?_
  refine go_aload_n dX5_init_46 rfl ?_
  refine go_iconst (v := nI 0) dX5_init_47 (by decide) ?_
  refine gc_na0 0 39 hp (by first | rfl | simp) dX5_init_48 (by decide) (by decide) (by decide) rfl ?_
  refine gc_put (ty := .array .int) [.int (nI 0), .ref 35, .int (nI 0), .ref 36, .ref 37, .ref 38, .ref 39] hp dX5_init_50 flX5_31 (fun q hq => by cases hq; exact ⟨rfl, rfl⟩) rfl rfl rfl rfl ?_
  refine go_vret dX5_init_53 rfl rfl ?_
  exact ⟨rfl, rfl⟩
def LX1_init : gm_H := [.inr (1, [.ref 41, .ref 42]), .inl (0, 96, fil 96 (-1) (fun _ => 0) 96), .inl (0, 96, fun _ => 0)]
theorem cX1_init_ok (κ : gm_K) (pre : gm_H) (hp : pre.length = 40) : Ct κ mX1_init [.ref 40] (pre ++ [.inr (1, [.null, .null])]) (fun r h' => r = none ∧ h' = pre ++ LX1_init) := by
  refine go_start (by decide) (Nat.le_of_ble_eq_true rfl) ?_
  refine go_aload_n dX1_init_0 rfl ?_
  refine go_objInit dX1_init_1 obX1_init_3 rfl rfl ?_
  refine go_aload_n dX1_init_4 rfl ?_
  refine go_bipush (v := nI 96) dX1_init_5 (by decide) ?_
  refine gc_na0 96 41 hp (by first | rfl | simp) dX1_init_7 (by decide) (by decide) (by decide) rfl ?_
  refine gc_putF (ty := .array .int) [.ref 41, .null] hp dX1_init_9 flX1_9 rfl (fun q hq => by cases hq; exact ⟨rfl, rfl, rfl⟩) rfl rfl rfl rfl ?_
  refine go_aload_n dX1_init_12 rfl ?_
  refine go_bipush (v := nI 96) dX1_init_13 (by decide) ?_
  refine gc_na0 96 42 hp (by first | rfl | simp) dX1_init_15 (by decide) (by decide) (by decide) rfl ?_
  refine gc_putF (ty := .array .int) [.ref 41, .ref 42] hp dX1_init_17 flX1_15 rfl (fun q hq => by cases hq; exact ⟨rfl, rfl, rfl⟩) rfl rfl rfl rfl ?_
  refine go_aload_n dX1_init_20 rfl ?_
  refine gc_get hp dX1_init_21 flX1_9 rfl ?_
  refine go_iconst (v := -1) dX1_init_24 (by decide) ?_
  refine gc_fill 0 41 hp rfl rfl rfl dX1_init_25 csX1_init_18 rfl rfl ?_
  refine go_vret dX1_init_28 rfl rfl ?_
  exact ⟨rfl, rfl⟩
def LX3_init : gm_H := [.inr (3, [.ref 44, .ref 45, .ref 1]), .inl (0, 8, fun _ => 0), .inl (0, 16, fil 16 (-1) (fun _ => 0) 16)]
theorem cX3_init_ok (κ : gm_K) (pre : gm_H) (hp : pre.length = 43) : Ct κ mX3_init [.ref 43, .ref 1] (pre ++ [.inr (3, [.null, .null, .null])]) (fun r h' => r = none ∧ h' = pre ++ LX3_init) := by
  refine go_start (by decide) (Nat.le_of_ble_eq_true rfl) ?_
  refine go_aload_n dX3_init_0 rfl ?_
  refine go_objInit dX3_init_1 obX3_init_3 rfl rfl ?_
  refine go_aload_n dX3_init_4 rfl ?_
  refine go_bipush (v := nI 8) dX3_init_5 (by decide) ?_
  refine gc_na0 8 44 hp (by first | rfl | simp) dX3_init_7 (by decide) (by decide) (by decide) rfl ?_
  refine gc_putF (ty := .array .int) [.ref 44, .null, .null] hp dX3_init_9 flX3_9 rfl (fun q hq => by cases hq; exact ⟨rfl, rfl, rfl⟩) rfl rfl rfl rfl ?_
  refine go_aload_n dX3_init_12 rfl ?_
  refine go_bipush (v := nI 16) dX3_init_13 (by decide) ?_
  refine gc_na0 16 45 hp (by first | rfl | simp) dX3_init_15 (by decide) (by decide) (by decide) rfl ?_
  refine gc_putF (ty := .array .int) [.ref 44, .ref 45, .null] hp dX3_init_17 flX3_15 rfl (fun q hq => by cases hq; exact ⟨rfl, rfl, rfl⟩) rfl rfl rfl rfl ?_
  refine go_aload_n dX3_init_20 rfl ?_
  refine go_aload_n dX3_init_21 rfl ?_
  refine gc_putF (ty := .object "SongField$Choirs") [.ref 44, .ref 45, .ref 1] hp dX3_init_22 flX3_18 rfl (fun q hq => by cases hq; exact ⟨rfl, rfl, rfl⟩) rfl rfl rfl rfl ?_
  refine go_aload_n dX3_init_25 rfl ?_
  refine gc_get hp dX3_init_26 flX3_15 rfl ?_
  refine go_iconst (v := -1) dX3_init_29 (by decide) ?_
  refine gc_fill 1 45 hp rfl rfl rfl dX3_init_30 csX3_init_22 rfl rfl ?_
  refine go_vret dX3_init_33 rfl rfl ?_
  exact ⟨rfl, rfl⟩
def LX4_init : gm_H := [.inr (4, [.int (nI 2), .int (nI 0), .ref 1])]
theorem cX4_init_ok (κ : gm_K) (pre : gm_H) (hp : pre.length = 46) : Ct κ mX4_init [.ref 46, .ref 1] (pre ++ [.inr (4, [.int 0, .int 0, .null])]) (fun r h' => r = none ∧ h' = pre ++ LX4_init) := by
  refine go_start (by decide) (Nat.le_of_ble_eq_true rfl) ?_
  refine go_aload_n dX4_init_0 rfl ?_
  refine go_objInit dX4_init_1 obX4_init_1 rfl rfl ?_
  refine go_aload_n dX4_init_4 rfl ?_
  refine go_iconst (v := nI 2) dX4_init_5 (by decide) ?_
  refine gc_put (ty := .int) [.int (nI 2), .int 0, .null] hp dX4_init_6 flX4_7 (fun q hq => by cases hq; exact ⟨rfl, rfl⟩) rfl rfl rfl rfl ?_
  refine go_aload_n dX4_init_9 rfl ?_
  refine go_iconst (v := nI 0) dX4_init_10 (by decide) ?_
  refine gc_put (ty := .int) [.int (nI 2), .int (nI 0), .null] hp dX4_init_11 flX4_13 (fun q hq => by cases hq; exact ⟨rfl, rfl⟩) rfl rfl rfl rfl ?_
  refine go_aload_n dX4_init_14 rfl ?_
  refine go_aload_n dX4_init_15 rfl ?_
  refine gc_putF (ty := .object "SongField$Choirs") [.int (nI 2), .int (nI 0), .ref 1] hp dX4_init_16 flX4_16 rfl (fun q hq => by cases hq; exact ⟨rfl, rfl, rfl⟩) rfl rfl rfl rfl ?_
  refine go_vret dX4_init_19 rfl rfl ?_
  exact ⟨rfl, rfl⟩
def LX10_init : gm_H := .inr (10, [.ref 1, .ref 9, .ref 14, .ref 17, .ref 22, .ref 29, .ref 34, .ref 40, .ref 43, .ref 46, .int (nI 0)]) :: (LX0_init ++ LX7_init ++ LX2_init ++ LX9_init ++ LX6_init ++ LX8_init ++ LX5_init ++ LX1_init ++ LX3_init ++ LX4_init)
theorem cX10_init_ok (κ : gm_K) : Ct κ mX10_init [.ref 0] ([] ++ [.inr (10, [.null, .null, .null, .null, .null, .null, .null, .null, .null, .null, .int 0])]) (fun r h' => r = none ∧ h' = [] ++ LX10_init) := by
  refine go_start (by decide) (Nat.le_of_ble_eq_true rfl) ?_
  refine go_aload_n dX10_init_0 rfl ?_
  refine go_objInit dX10_init_1 obX10_init_1 rfl rfl ?_
  refine go_aload_n dX10_init_4 rfl ?_
  refine gc_no 0 [.int 0, .null, .null, .null, .null, .null, .null, .null] 1 rfl rfl dX10_init_5 rfl clX10_init_7 it_0 in_0 (gc_df tyX0_ok rfl) rfl ?_
  refine go_dup dX10_init_8 rfl ?_
  refine gc_ci LX0_init (As := []) dX10_init_9 (Or.inr ckX10_init_9) (cX0_init_ok κ _ rfl) rfl rfl rfl rfl ?_
  refine gc_putF (ty := .object "SongField$Choirs") [.ref 1, .null, .null, .null, .null, .null, .null, .null, .null, .null, .int 0] rfl dX10_init_12 flX10_10 rfl (fun q hq => by cases hq; exact ⟨rfl, rfl, rfl⟩) rfl rfl rfl rfl ?_
  refine go_aload_n dX10_init_15 rfl ?_
  refine gc_no 7 [.int 0, .null, .null, .null, .null] 9 rfl rfl dX10_init_16 rfl clX10_init_16 it_7 in_7 (gc_df tyX7_ok rfl) rfl ?_
  refine go_dup dX10_init_19 rfl ?_
  refine gc_ci LX7_init (As := []) dX10_init_20 (Or.inr ckX10_init_18) (cX7_init_ok κ _ rfl) rfl rfl rfl rfl ?_
  refine gc_putF (ty := .object "SongField$Songs") [.ref 1, .ref 9, .null, .null, .null, .null, .null, .null, .null, .null, .int 0] rfl dX10_init_23 flX10_19 rfl (fun q hq => by cases hq; exact ⟨rfl, rfl, rfl⟩) rfl rfl rfl rfl ?_
  refine go_aload_n dX10_init_26 rfl ?_
  refine gc_no 2 [.int 0, .null, .null] 14 rfl rfl dX10_init_27 rfl clX10_init_23 it_2 in_2 (gc_df tyX2_ok rfl) rfl ?_
  refine go_dup dX10_init_30 rfl ?_
  refine gc_ci LX2_init (As := []) dX10_init_31 (Or.inl ciX10_init_25) (cX2_init_ok κ _ rfl) rfl rfl rfl rfl ?_
  refine gc_putF (ty := .object "SongField$Judges") [.ref 1, .ref 9, .ref 14, .null, .null, .null, .null, .null, .null, .null, .int 0] rfl dX10_init_34 flX10_26 rfl (fun q hq => by cases hq; exact ⟨rfl, rfl, rfl⟩) rfl rfl rfl rfl ?_
  refine go_aload_n dX10_init_37 rfl ?_
  refine gc_no 9 [.int 0, .int 0, .int 0, .int 0, .int 0, .null, .null, .null, .null] 17 rfl rfl dX10_init_38 rfl clX10_init_30 it_9 in_9 (gc_df tyX9_ok rfl) rfl ?_
  refine go_dup dX10_init_41 rfl ?_
  refine gc_ci LX9_init (As := []) dX10_init_42 (Or.inr ckX10_init_32) (cX9_init_ok κ _ rfl) rfl rfl rfl rfl ?_
  refine gc_putF (ty := .object "SongField$Tape") [.ref 1, .ref 9, .ref 14, .ref 17, .null, .null, .null, .null, .null, .null, .int 0] rfl dX10_init_45 flX10_33 rfl (fun q hq => by cases hq; exact ⟨rfl, rfl, rfl⟩) rfl rfl rfl rfl ?_
  refine go_aload_n dX10_init_48 rfl ?_
  refine gc_no 6 [.int 0, .null, .null, .null, .null, .null, .null] 22 rfl rfl dX10_init_49 rfl clX10_init_37 it_6 in_6 (gc_df tyX6_ok rfl) rfl ?_
  refine go_dup dX10_init_52 rfl ?_
  refine gc_ci LX6_init (As := []) dX10_init_53 (Or.inr ckX10_init_39) (cX6_init_ok κ _ rfl) rfl rfl rfl rfl ?_
  refine gc_putF (ty := .object "SongField$Rules") [.ref 1, .ref 9, .ref 14, .ref 17, .ref 22, .null, .null, .null, .null, .null, .int 0] rfl dX10_init_56 flX10_40 rfl (fun q hq => by cases hq; exact ⟨rfl, rfl, rfl⟩) rfl rfl rfl rfl ?_
  refine go_aload_n dX10_init_59 rfl ?_
  refine gc_no 8 [.int 0, .int 0, .null, .null, .null, .null, .null, .int 0, .int 0] 29 rfl rfl dX10_init_60 rfl clX10_init_44 it_8 in_8 (gc_df tyX8_ok rfl) rfl ?_
  refine go_dup dX10_init_63 rfl ?_
  refine go_aload_n dX10_init_64 rfl ?_
  refine go_get dX10_init_65 flX10_10 rfl rfl ?_
  refine gc_ci LX8_init (As := [.ref 1]) dX10_init_68 (Or.inl ciX10_init_46) (cX8_init_ok κ _ rfl) rfl rfl rfl rfl ?_
  refine gc_putF (ty := .object "SongField$Stage") [.ref 1, .ref 9, .ref 14, .ref 17, .ref 22, .ref 29, .null, .null, .null, .null, .int 0] rfl dX10_init_71 flX10_49 rfl (fun q hq => by cases hq; exact ⟨rfl, rfl, rfl⟩) rfl rfl rfl rfl ?_
  refine go_aload_n dX10_init_74 rfl ?_
  refine gc_no 5 [.int 0, .null, .int 0, .null, .null, .null, .null] 34 rfl rfl dX10_init_75 rfl clX10_init_53 it_5 in_5 (gc_df tyX5_ok rfl) rfl ?_
  refine go_dup dX10_init_78 rfl ?_
  refine gc_ci LX5_init (As := []) dX10_init_79 (Or.inr ckX10_init_55) (cX5_init_ok κ _ rfl) rfl rfl rfl rfl ?_
  refine gc_putF (ty := .object "SongField$Program") [.ref 1, .ref 9, .ref 14, .ref 17, .ref 22, .ref 29, .ref 34, .null, .null, .null, .int 0] rfl dX10_init_82 flX10_56 rfl (fun q hq => by cases hq; exact ⟨rfl, rfl, rfl⟩) rfl rfl rfl rfl ?_
  refine go_aload_n dX10_init_85 rfl ?_
  refine gc_no 1 [.null, .null] 40 rfl rfl dX10_init_86 rfl clX10_init_60 it_1 in_1 (gc_df tyX1_ok rfl) rfl ?_
  refine go_dup dX10_init_89 rfl ?_
  refine gc_ci LX1_init (As := []) dX10_init_90 (Or.inl ciX10_init_62) (cX1_init_ok κ _ rfl) rfl rfl rfl rfl ?_
  refine gc_putF (ty := .object "SongField$Halls") [.ref 1, .ref 9, .ref 14, .ref 17, .ref 22, .ref 29, .ref 34, .ref 40, .null, .null, .int 0] rfl dX10_init_93 flX10_63 rfl (fun q hq => by cases hq; exact ⟨rfl, rfl, rfl⟩) rfl rfl rfl rfl ?_
  refine go_aload_n dX10_init_96 rfl ?_
  refine gc_no 3 [.null, .null, .null] 43 rfl rfl dX10_init_97 rfl clX10_init_67 it_3 in_3 (gc_df tyX3_ok rfl) rfl ?_
  refine go_dup dX10_init_100 rfl ?_
  refine go_aload_n dX10_init_101 rfl ?_
  refine go_get dX10_init_102 flX10_10 rfl rfl ?_
  refine gc_ci LX3_init (As := [.ref 1]) dX10_init_105 (Or.inl ciX10_init_69) (cX3_init_ok κ _ rfl) rfl rfl rfl rfl ?_
  refine gc_putF (ty := .object "SongField$Lodging") [.ref 1, .ref 9, .ref 14, .ref 17, .ref 22, .ref 29, .ref 34, .ref 40, .ref 43, .null, .int 0] rfl dX10_init_108 flX10_70 rfl (fun q hq => by cases hq; exact ⟨rfl, rfl, rfl⟩) rfl rfl rfl rfl ?_
  refine go_aload_n dX10_init_111 rfl ?_
  refine gc_no 4 [.int 0, .int 0, .null] 46 rfl rfl dX10_init_112 rfl clX10_init_74 it_4 in_4 (gc_df tyX4_ok rfl) rfl ?_
  refine go_dup dX10_init_115 rfl ?_
  refine go_aload_n dX10_init_116 rfl ?_
  refine go_get dX10_init_117 flX10_10 rfl rfl ?_
  refine gc_ci LX4_init (As := [.ref 1]) dX10_init_120 (Or.inl ciX10_init_76) (cX4_init_ok κ _ rfl) rfl rfl rfl rfl ?_
  refine gc_putF (ty := .object "SongField$March") [.ref 1, .ref 9, .ref 14, .ref 17, .ref 22, .ref 29, .ref 34, .ref 40, .ref 43, .ref 46, .int 0] rfl dX10_init_123 flX10_77 rfl (fun q hq => by cases hq; exact ⟨rfl, rfl, rfl⟩) rfl rfl rfl rfl ?_
  refine go_aload_n dX10_init_126 rfl ?_
  refine go_iconst (v := nI 0) dX10_init_127 (by decide) ?_
  refine gc_put (ty := .int) [.ref 1, .ref 9, .ref 14, .ref 17, .ref 22, .ref 29, .ref 34, .ref 40, .ref 43, .ref 46, .int (nI 0)] rfl dX10_init_128 flX10_81 (fun q hq => by cases hq; exact ⟨rfl, rfl⟩) rfl rfl rfl rfl ?_
  refine go_vret dX10_init_131 rfl rfl ?_
  exact ⟨rfl, rfl⟩
