section GO
variable {κ : gm_K} {μ : gm_M} {pc : Nat} {lv : List (Option Value)} {st : List Value} {h : gm_H} {n : Nat × Nat} {Φ : Option Value → gm_H → Prop}
theorem go_iconst {i : Int} {v : Int32} (hd : decode μ.2.1 pc = .ok (.iconst i, 1)) (hv : Int32.ofInt i = v) (k : Go κ μ (pc + 1) lv (.int v :: st) h n Φ) : Go κ μ pc lv st h n Φ := by
  intro p e s m args below meth c H locs ls F R L
  exact lv_iconst F.1 F.2.1 hd hv (k p e s m args below meth c H locs ls F R L)
theorem go_bipush {i : Int} {v : Int32} (hd : decode μ.2.1 pc = .ok (.bipush i, 2)) (hv : (Int8.ofInt i).toInt32 = v) (k : Go κ μ (pc + 2) lv (.int v :: st) h n Φ) : Go κ μ pc lv st h n Φ := by
  intro p e s m args below meth c H locs ls F R L
  exact lv_bipush F.1 F.2.1 hd hv (k p e s m args below meth c H locs ls F R L)
theorem go_sipush {i : Int} {v : Int32} (hd : decode μ.2.1 pc = .ok (.sipush i, 3)) (hv : (Int16.ofInt i).toInt32 = v) (k : Go κ μ (pc + 3) lv (.int v :: st) h n Φ) : Go κ μ pc lv st h n Φ := by
  intro p e s m args below meth c H locs ls F R L
  exact lv_sipush F.1 F.2.1 hd hv (k p e s m args below meth c H locs ls F R L)
theorem go_lconst {i : Fin 2} {v : Int64} (hd : decode μ.2.1 pc = .ok (.lconst i, 1)) (hv : Int64.ofNat (i : Nat) = v) (k : Go κ μ (pc + 1) lv (.long v :: st) h n Φ) : Go κ μ pc lv st h n Φ := by
  intro p e s m args below meth c H locs ls F R L
  exact lv_lconst F.1 F.2.1 hd hv (k p e s m args below meth c H locs ls F R L)
theorem go_ldc {i : Nat} {v : Int32} (hd : decode μ.2.1 pc = .ok (.ldc i, 2)) (hw : Cond.constant μ.1.cls i v ∈ lw_tbl) (k : Go κ μ (pc + 2) lv (.int v :: st) h n Φ) : Go κ μ pc lv st h n Φ := by
  intro p e s m args below meth c H locs ls F R L
  exact lv_ldc F.1 F.2.1 F.2.2.2.2.2.1 (F.2.2.2.2.2.2.1 _ hw rfl) hd (k p e s m args below meth c H locs ls F R L)
theorem go_ldc_w {i : Nat} {v : Int32} (hd : decode μ.2.1 pc = .ok (.ldc_w i, 3)) (hw : Cond.constant μ.1.cls i v ∈ lw_tbl) (k : Go κ μ (pc + 3) lv (.int v :: st) h n Φ) : Go κ μ pc lv st h n Φ := by
  intro p e s m args below meth c H locs ls F R L
  exact lv_ldcw F.1 F.2.1 F.2.2.2.2.2.1 (F.2.2.2.2.2.2.1 _ hw rfl) hd (k p e s m args below meth c H locs ls F R L)
theorem go_ldc2 {i : Nat} {v : Int64} (hd : decode μ.2.1 pc = .ok (.ldc2_w i, 3)) (hw : Cond.constantLong μ.1.cls i v ∈ lw_tbl) (k : Go κ μ (pc + 3) lv (.long v :: st) h n Φ) : Go κ μ pc lv st h n Φ := by
  intro p e s m args below meth c H locs ls F R L
  exact lv_ldc2 F.1 F.2.1 F.2.2.2.2.2.1 (F.2.2.2.2.2.2.1 _ hw rfl) hd (k p e s m args below meth c H locs ls F R L)
theorem go_iload_n {i : Fin 4} {x : Int32} (hd : decode μ.2.1 pc = .ok (.iload_n i, 1)) (hv : lv[(i : Nat)]? = some (some (.int x))) (k : Go κ μ (pc + 1) lv (.int x :: st) h n Φ) : Go κ μ pc lv st h n Φ := by
  intro p e s m args below meth c H locs ls F R L
  exact lv_iload_n F.1 F.2.1 hd rfl (L.has hv) (k p e s m args below meth c H locs ls F R L)
theorem go_iload {i : Nat} {x : Int32} (hd : decode μ.2.1 pc = .ok (.iload i, 2)) (hv : lv[i]? = some (some (.int x))) (k : Go κ μ (pc + 2) lv (.int x :: st) h n Φ) : Go κ μ pc lv st h n Φ := by
  intro p e s m args below meth c H locs ls F R L
  exact lv_iload F.1 F.2.1 hd (L.has hv) (k p e s m args below meth c H locs ls F R L)
theorem go_aload_n {i : Fin 4} {x : Nat} (hd : decode μ.2.1 pc = .ok (.aload_n i, 1)) (hv : lv[(i : Nat)]? = some (some (.ref x))) (k : Go κ μ (pc + 1) lv (.ref x :: st) h n Φ) : Go κ μ pc lv st h n Φ := by
  intro p e s m args below meth c H locs ls F R L
  exact lv_aload_n F.1 F.2.1 hd rfl (L.has hv) (k p e s m args below meth c H locs ls F R L)
theorem go_aload_o {i : Fin 4} {x : Nat} (hd : decode μ.2.1 pc = .ok (.aload_n i, 1)) (hv : lv[(i : Nat)]? = some (some (.retAddr x))) (k : Go κ μ (pc + 1) lv (.retAddr x :: st) h n Φ) : Go κ μ pc lv st h n Φ := by
  intro p e s m args below meth c H locs ls F R L
  exact lv_aload_n F.1 F.2.1 hd rfl (L.has hv) (k p e s m args below meth c H locs ls F R L)
theorem go_lload_n {i : Fin 4} {x : Int64} (hd : decode μ.2.1 pc = .ok (.lload_n i, 1)) (hv : lv[(i : Nat)]? = some (some (.long x))) (k : Go κ μ (pc + 1) lv (.long x :: st) h n Φ) : Go κ μ pc lv st h n Φ := by
  intro p e s m args below meth c H locs ls F R L
  exact lv_lload_n F.1 F.2.1 hd rfl (L.has hv) (k p e s m args below meth c H locs ls F R L)
theorem go_lload {i : Nat} {x : Int64} (hd : decode μ.2.1 pc = .ok (.lload i, 2)) (hv : lv[i]? = some (some (.long x))) (k : Go κ μ (pc + 2) lv (.long x :: st) h n Φ) : Go κ μ pc lv st h n Φ := by
  intro p e s m args below meth c H locs ls F R L
  exact lv_lload F.1 F.2.1 hd (L.has hv) (k p e s m args below meth c H locs ls F R L)
theorem gm_hc {lv : List (Option Value)} {i : Nat} (hc : (match lv[i - 1]? with | some (some w) => w.category == 1 | _ => true) = true) : ∀ w, lv[i - 1]? = some (some w) → w.category = 1 := by
  intro w hw
  rw [hw] at hc
  simpa using hc
theorem go_istore_n {i : Fin 4} {x : Int32} (hd : decode μ.2.1 pc = .ok (.istore_n i, 1)) (hi : Nat.ble ((i : Nat) + 1) lv.length = true) (hc : (match lv[(i : Nat) - 1]? with | some (some w) => w.category == 1 | _ => true) = true) {lv' : List (Option Value)} (hl' : lv.set (i : Nat) (some (.int x)) = lv') (k : Go κ μ (pc + 1) lv' st h n Φ) : Go κ μ pc lv (.int x :: st) h n Φ := by
  intro p e s m args below meth c H locs ls F R L
  subst hl'
  have hb := Nat.le_of_ble_eq_true hi
  rw [L.2.2.1] at hb
  exact lv_istore_n F.1 F.2.1 hd rfl L.lv hb rfl (fun ls' hl => k p e s m args below meth c H locs ls' F R (gm_L.st (v := .int x) L.2.2.1 (gm_hc hc) hl))
theorem go_istore {i : Nat} {x : Int32} (hd : decode μ.2.1 pc = .ok (.istore i, 2)) (hi : Nat.ble (i + 1) lv.length = true) (hc : (match lv[i - 1]? with | some (some w) => w.category == 1 | _ => true) = true) {lv' : List (Option Value)} (hl' : lv.set i (some (.int x)) = lv') (k : Go κ μ (pc + 2) lv' st h n Φ) : Go κ μ pc lv (.int x :: st) h n Φ := by
  intro p e s m args below meth c H locs ls F R L
  subst hl'
  have hb := Nat.le_of_ble_eq_true hi
  rw [L.2.2.1] at hb
  exact lv_istore F.1 F.2.1 hd L.lv hb rfl (fun ls' hl => k p e s m args below meth c H locs ls' F R (gm_L.st (v := .int x) L.2.2.1 (gm_hc hc) hl))
theorem go_astore_n {i : Fin 4} {x : Nat} (hd : decode μ.2.1 pc = .ok (.astore_n i, 1)) (hi : Nat.ble ((i : Nat) + 1) lv.length = true) (hc : (match lv[(i : Nat) - 1]? with | some (some w) => w.category == 1 | _ => true) = true) {lv' : List (Option Value)} (hl' : lv.set (i : Nat) (some (.ref x)) = lv') (k : Go κ μ (pc + 1) lv' st h n Φ) : Go κ μ pc lv (.ref x :: st) h n Φ := by
  intro p e s m args below meth c H locs ls F R L
  subst hl'
  have hb := Nat.le_of_ble_eq_true hi
  rw [L.2.2.1] at hb
  exact lv_astore_n F.1 F.2.1 hd rfl L.lv hb rfl (fun ls' hl => k p e s m args below meth c H locs ls' F R (gm_L.st (v := .ref x) L.2.2.1 (gm_hc hc) hl))
theorem go_iinc {i : Nat} {d : Int} {x v : Int32} (hd : decode μ.2.1 pc = .ok (.iinc i d, 3)) (hv : lv[i]? = some (some (.int x))) (hx : x + Int32.ofInt d = v) (hi : Nat.ble (i + 1) lv.length = true) (hc : (match lv[i - 1]? with | some (some w) => w.category == 1 | _ => true) = true) {lv' : List (Option Value)} (hl' : lv.set i (some (.int v)) = lv') (k : Go κ μ (pc + 3) lv' st h n Φ) : Go κ μ pc lv st h n Φ := by
  intro p e s m args below meth c H locs ls F R L
  subst hl'
  have hb := Nat.le_of_ble_eq_true hi
  rw [L.2.2.1] at hb
  obtain ⟨j, hj⟩ := List.getElem?_of_mem (gm_as_mem (κ := κ) hv)
  exact lv_iinc F.1 F.2.1 hd L.lv hj hx hb rfl (fun ls' hl => k p e s m args below meth c H locs ls' F R (gm_L.st (v := .int v) L.2.2.1 (gm_hc hc) hl))
theorem go_iadd {x y : Int32} (hd : decode μ.2.1 pc = .ok (.iadd, 1)) (k : Go κ μ (pc + 1) lv (.int (x + y) :: st) h n Φ) : Go κ μ pc lv (.int y :: .int x :: st) h n Φ := by
  intro p e s m args below meth c H locs ls F R L
  exact lv_iadd F.1 F.2.1 hd (k p e s m args below meth c H locs ls F R L)
theorem go_isub {x y : Int32} (hd : decode μ.2.1 pc = .ok (.isub, 1)) (k : Go κ μ (pc + 1) lv (.int (x - y) :: st) h n Φ) : Go κ μ pc lv (.int y :: .int x :: st) h n Φ := by
  intro p e s m args below meth c H locs ls F R L
  exact lv_isub F.1 F.2.1 hd (k p e s m args below meth c H locs ls F R L)
theorem go_imul {x y : Int32} (hd : decode μ.2.1 pc = .ok (.imul, 1)) (k : Go κ μ (pc + 1) lv (.int (x * y) :: st) h n Φ) : Go κ μ pc lv (.int y :: .int x :: st) h n Φ := by
  intro p e s m args below meth c H locs ls F R L
  exact lv_imul F.1 F.2.1 hd (k p e s m args below meth c H locs ls F R L)
theorem go_iand {x y : Int32} (hd : decode μ.2.1 pc = .ok (.iand, 1)) (k : Go κ μ (pc + 1) lv (.int (x &&& y) :: st) h n Φ) : Go κ μ pc lv (.int y :: .int x :: st) h n Φ := by
  intro p e s m args below meth c H locs ls F R L
  exact lv_iand F.1 F.2.1 hd (k p e s m args below meth c H locs ls F R L)
theorem go_ior {x y : Int32} (hd : decode μ.2.1 pc = .ok (.ior, 1)) (k : Go κ μ (pc + 1) lv (.int (x ||| y) :: st) h n Φ) : Go κ μ pc lv (.int y :: .int x :: st) h n Φ := by
  intro p e s m args below meth c H locs ls F R L
  exact lv_ior F.1 F.2.1 hd (k p e s m args below meth c H locs ls F R L)
theorem go_ixor {x y : Int32} (hd : decode μ.2.1 pc = .ok (.ixor, 1)) (k : Go κ μ (pc + 1) lv (.int (x ^^^ y) :: st) h n Φ) : Go κ μ pc lv (.int y :: .int x :: st) h n Φ := by
  intro p e s m args below meth c H locs ls F R L
  exact lv_ixor F.1 F.2.1 hd (k p e s m args below meth c H locs ls F R L)
theorem go_ishl {x y : Int32} (hd : decode μ.2.1 pc = .ok (.ishl, 1)) (k : Go κ μ (pc + 1) lv (.int (x <<< (y &&& 31)) :: st) h n Φ) : Go κ μ pc lv (.int y :: .int x :: st) h n Φ := by
  intro p e s m args below meth c H locs ls F R L
  exact lv_ishl F.1 F.2.1 hd (k p e s m args below meth c H locs ls F R L)
theorem go_ishr {x y : Int32} (hd : decode μ.2.1 pc = .ok (.ishr, 1)) (k : Go κ μ (pc + 1) lv (.int (x >>> (y &&& 31)) :: st) h n Φ) : Go κ μ pc lv (.int y :: .int x :: st) h n Φ := by
  intro p e s m args below meth c H locs ls F R L
  exact lv_ishr F.1 F.2.1 hd (k p e s m args below meth c H locs ls F R L)
theorem go_iushr {x y : Int32} (hd : decode μ.2.1 pc = .ok (.iushr, 1)) (k : Go κ μ (pc + 1) lv (.int (x.toUInt32 >>> (y.toUInt32 &&& Int32.toUInt32 31)).toInt32 :: st) h n Φ) : Go κ μ pc lv (.int y :: .int x :: st) h n Φ := by
  intro p e s m args below meth c H locs ls F R L
  exact lv_iushr F.1 F.2.1 hd rfl (k p e s m args below meth c H locs ls F R L)
theorem go_idiv {x y : Int32} (hd : decode μ.2.1 pc = .ok (.idiv, 1)) (hy : ¬ y = 0) (k : Go κ μ (pc + 1) lv (.int (x / y) :: st) h n Φ) : Go κ μ pc lv (.int y :: .int x :: st) h n Φ := by
  intro p e s m args below meth c H locs ls F R L
  exact lv_idiv F.1 F.2.1 hd hy (k p e s m args below meth c H locs ls F R L)
theorem go_irem {x y : Int32} (hd : decode μ.2.1 pc = .ok (.irem, 1)) (hy : ¬ y = 0) (k : Go κ μ (pc + 1) lv (.int (x - x / y * y) :: st) h n Φ) : Go κ μ pc lv (.int y :: .int x :: st) h n Φ := by
  intro p e s m args below meth c H locs ls F R L
  exact lv_irem F.1 F.2.1 hd hy (k p e s m args below meth c H locs ls F R L)
theorem go_ineg {x : Int32} (hd : decode μ.2.1 pc = .ok (.ineg, 1)) (k : Go κ μ (pc + 1) lv (.int (-x) :: st) h n Φ) : Go κ μ pc lv (.int x :: st) h n Φ := by
  intro p e s m args below meth c H locs ls F R L
  exact lv_ineg F.1 F.2.1 hd (k p e s m args below meth c H locs ls F R L)
theorem go_land {x y : Int64} (hd : decode μ.2.1 pc = .ok (.land, 1)) (k : Go κ μ (pc + 1) lv (.long (x &&& y) :: st) h n Φ) : Go κ μ pc lv (.long y :: .long x :: st) h n Φ := by
  intro p e s m args below meth c H locs ls F R L
  exact lv_land F.1 F.2.1 hd (k p e s m args below meth c H locs ls F R L)
theorem go_lor {x y : Int64} (hd : decode μ.2.1 pc = .ok (.lor, 1)) (k : Go κ μ (pc + 1) lv (.long (x ||| y) :: st) h n Φ) : Go κ μ pc lv (.long y :: .long x :: st) h n Φ := by
  intro p e s m args below meth c H locs ls F R L
  exact lv_lor F.1 F.2.1 hd (k p e s m args below meth c H locs ls F R L)
theorem go_lshl {x : Int64} {y : Int32} (hd : decode μ.2.1 pc = .ok (.lshl, 1)) (k : Go κ μ (pc + 1) lv (.long (x <<< (y.toInt64 &&& 63)) :: st) h n Φ) : Go κ μ pc lv (.int y :: .long x :: st) h n Φ := by
  intro p e s m args below meth c H locs ls F R L
  exact lv_lshl F.1 F.2.1 hd rfl (k p e s m args below meth c H locs ls F R L)
theorem go_lshr {x : Int64} {y : Int32} (hd : decode μ.2.1 pc = .ok (.lshr, 1)) (k : Go κ μ (pc + 1) lv (.long (x >>> (y.toInt64 &&& 63)) :: st) h n Φ) : Go κ μ pc lv (.int y :: .long x :: st) h n Φ := by
  intro p e s m args below meth c H locs ls F R L
  exact lv_lshr F.1 F.2.1 hd rfl (k p e s m args below meth c H locs ls F R L)
theorem go_i2l {x : Int32} (hd : decode μ.2.1 pc = .ok (.i2l, 1)) (k : Go κ μ (pc + 1) lv (.long x.toInt64 :: st) h n Φ) : Go κ μ pc lv (.int x :: st) h n Φ := by
  intro p e s m args below meth c H locs ls F R L
  exact lv_i2l F.1 F.2.1 hd rfl (k p e s m args below meth c H locs ls F R L)
theorem go_l2i {x : Int64} (hd : decode μ.2.1 pc = .ok (.l2i, 1)) (k : Go κ μ (pc + 1) lv (.int x.toInt32 :: st) h n Φ) : Go κ μ pc lv (.long x :: st) h n Φ := by
  intro p e s m args below meth c H locs ls F R L
  exact lv_l2i F.1 F.2.1 hd rfl (k p e s m args below meth c H locs ls F R L)
theorem go_i2b {x : Int32} (hd : decode μ.2.1 pc = .ok (.i2b, 1)) (k : Go κ μ (pc + 1) lv (.int x.toInt8.toInt32 :: st) h n Φ) : Go κ μ pc lv (.int x :: st) h n Φ := by
  intro p e s m args below meth c H locs ls F R L
  exact lv_i2b F.1 F.2.1 hd rfl (k p e s m args below meth c H locs ls F R L)
theorem go_lcmp {x y : Int64} (hd : decode μ.2.1 pc = .ok (.lcmp, 1)) (k : Go κ μ (pc + 1) lv (.int (lg_cmp x y) :: st) h n Φ) : Go κ μ pc lv (.long y :: .long x :: st) h n Φ := by
  intro p e s m args below meth c H locs ls F R L
  exact W.lcmp F.1 F.2.1 hd (k p e s m args below meth c H locs ls F R L)
theorem go_dup {v : Value} (hd : decode μ.2.1 pc = .ok (.dup, 1)) (hv : v.category = 1) (k : Go κ μ (pc + 1) lv (v :: v :: st) h n Φ) : Go κ μ pc lv (v :: st) h n Φ := by
  intro p e s m args below meth c H locs ls F R L
  exact lv_dup F.1 F.2.1 hd ((gm_cat κ v).trans hv) (k p e s m args below meth c H locs ls F R L)
theorem go_dup2 {v w : Value} (hd : decode μ.2.1 pc = .ok (.dup2, 1)) (hv : v.category = 1) (hw : w.category = 1) (k : Go κ μ (pc + 1) lv (v :: w :: v :: w :: st) h n Φ) : Go κ μ pc lv (v :: w :: st) h n Φ := by
  intro p e s m args below meth c H locs ls F R L
  exact lv_dup2_11 F.1 F.2.1 hd ((gm_cat κ v).trans hv) ((gm_cat κ w).trans hw) (k p e s m args below meth c H locs ls F R L)
theorem go_pop {v : Value} (hd : decode μ.2.1 pc = .ok (.pop, 1)) (hv : v.category = 1) (k : Go κ μ (pc + 1) lv st h n Φ) : Go κ μ pc lv (v :: st) h n Φ := by
  intro p e s m args below meth c H locs ls F R L
  exact lv_pop F.1 F.2.1 hd ((gm_cat κ v).trans hv) (k p e s m args below meth c H locs ls F R L)
theorem go_if_eq {x : Int32} {off : Int} (tgt : Nat) (hd : decode μ.2.1 pc = .ok (.ifCond .eq off, 3)) (ht : (pc : Int) + off = (tgt : Int)) (kt : x = 0 → Go κ μ tgt lv st h n Φ) (kf : ¬ x = 0 → Go κ μ (pc + 3) lv st h n Φ) : Go κ μ pc lv (.int x :: st) h n Φ := by
  intro p e s m args below meth c H locs ls F R L
  exact lv_if_eq F.1 F.2.1 hd ht (fun q => kt q p e s m args below meth c H locs ls F R L) (fun q => kf q p e s m args below meth c H locs ls F R L)
theorem go_icmp_eq {x y : Int32} {off : Int} (tgt : Nat) (hd : decode μ.2.1 pc = .ok (.if_icmp .eq off, 3)) (ht : (pc : Int) + off = (tgt : Int)) (kt : x = y → Go κ μ tgt lv st h n Φ) (kf : ¬ x = y → Go κ μ (pc + 3) lv st h n Φ) : Go κ μ pc lv (.int y :: .int x :: st) h n Φ := by
  intro p e s m args below meth c H locs ls F R L
  exact lv_icmp_eq F.1 F.2.1 hd ht (fun q => kt q p e s m args below meth c H locs ls F R L) (fun q => kf q p e s m args below meth c H locs ls F R L)
theorem go_if_ne {x : Int32} {off : Int} (tgt : Nat) (hd : decode μ.2.1 pc = .ok (.ifCond .ne off, 3)) (ht : (pc : Int) + off = (tgt : Int)) (kt : ¬ x = 0 → Go κ μ tgt lv st h n Φ) (kf : x = 0 → Go κ μ (pc + 3) lv st h n Φ) : Go κ μ pc lv (.int x :: st) h n Φ := by
  intro p e s m args below meth c H locs ls F R L
  exact lv_if_ne F.1 F.2.1 hd ht (fun q => kt q p e s m args below meth c H locs ls F R L) (fun q => kf q p e s m args below meth c H locs ls F R L)
theorem go_icmp_ne {x y : Int32} {off : Int} (tgt : Nat) (hd : decode μ.2.1 pc = .ok (.if_icmp .ne off, 3)) (ht : (pc : Int) + off = (tgt : Int)) (kt : ¬ x = y → Go κ μ tgt lv st h n Φ) (kf : x = y → Go κ μ (pc + 3) lv st h n Φ) : Go κ μ pc lv (.int y :: .int x :: st) h n Φ := by
  intro p e s m args below meth c H locs ls F R L
  exact lv_icmp_ne F.1 F.2.1 hd ht (fun q => kt q p e s m args below meth c H locs ls F R L) (fun q => kf q p e s m args below meth c H locs ls F R L)
theorem go_if_lt {x : Int32} {off : Int} (tgt : Nat) (hd : decode μ.2.1 pc = .ok (.ifCond .lt off, 3)) (ht : (pc : Int) + off = (tgt : Int)) (kt : x < 0 → Go κ μ tgt lv st h n Φ) (kf : ¬ x < 0 → Go κ μ (pc + 3) lv st h n Φ) : Go κ μ pc lv (.int x :: st) h n Φ := by
  intro p e s m args below meth c H locs ls F R L
  exact lv_if_lt F.1 F.2.1 hd ht (fun q => kt q p e s m args below meth c H locs ls F R L) (fun q => kf q p e s m args below meth c H locs ls F R L)
theorem go_icmp_lt {x y : Int32} {off : Int} (tgt : Nat) (hd : decode μ.2.1 pc = .ok (.if_icmp .lt off, 3)) (ht : (pc : Int) + off = (tgt : Int)) (kt : x < y → Go κ μ tgt lv st h n Φ) (kf : ¬ x < y → Go κ μ (pc + 3) lv st h n Φ) : Go κ μ pc lv (.int y :: .int x :: st) h n Φ := by
  intro p e s m args below meth c H locs ls F R L
  exact lv_icmp_lt F.1 F.2.1 hd ht (fun q => kt q p e s m args below meth c H locs ls F R L) (fun q => kf q p e s m args below meth c H locs ls F R L)
theorem go_if_ge {x : Int32} {off : Int} (tgt : Nat) (hd : decode μ.2.1 pc = .ok (.ifCond .ge off, 3)) (ht : (pc : Int) + off = (tgt : Int)) (kt : 0 ≤ x → Go κ μ tgt lv st h n Φ) (kf : ¬ 0 ≤ x → Go κ μ (pc + 3) lv st h n Φ) : Go κ μ pc lv (.int x :: st) h n Φ := by
  intro p e s m args below meth c H locs ls F R L
  exact lv_if_ge F.1 F.2.1 hd ht (fun q => kt q p e s m args below meth c H locs ls F R L) (fun q => kf q p e s m args below meth c H locs ls F R L)
theorem go_icmp_ge {x y : Int32} {off : Int} (tgt : Nat) (hd : decode μ.2.1 pc = .ok (.if_icmp .ge off, 3)) (ht : (pc : Int) + off = (tgt : Int)) (kt : y ≤ x → Go κ μ tgt lv st h n Φ) (kf : ¬ y ≤ x → Go κ μ (pc + 3) lv st h n Φ) : Go κ μ pc lv (.int y :: .int x :: st) h n Φ := by
  intro p e s m args below meth c H locs ls F R L
  exact lv_icmp_ge F.1 F.2.1 hd ht (fun q => kt q p e s m args below meth c H locs ls F R L) (fun q => kf q p e s m args below meth c H locs ls F R L)
theorem go_if_gt {x : Int32} {off : Int} (tgt : Nat) (hd : decode μ.2.1 pc = .ok (.ifCond .gt off, 3)) (ht : (pc : Int) + off = (tgt : Int)) (kt : 0 < x → Go κ μ tgt lv st h n Φ) (kf : ¬ 0 < x → Go κ μ (pc + 3) lv st h n Φ) : Go κ μ pc lv (.int x :: st) h n Φ := by
  intro p e s m args below meth c H locs ls F R L
  exact lv_if_gt F.1 F.2.1 hd ht (fun q => kt q p e s m args below meth c H locs ls F R L) (fun q => kf q p e s m args below meth c H locs ls F R L)
theorem go_icmp_gt {x y : Int32} {off : Int} (tgt : Nat) (hd : decode μ.2.1 pc = .ok (.if_icmp .gt off, 3)) (ht : (pc : Int) + off = (tgt : Int)) (kt : y < x → Go κ μ tgt lv st h n Φ) (kf : ¬ y < x → Go κ μ (pc + 3) lv st h n Φ) : Go κ μ pc lv (.int y :: .int x :: st) h n Φ := by
  intro p e s m args below meth c H locs ls F R L
  exact lv_icmp_gt F.1 F.2.1 hd ht (fun q => kt q p e s m args below meth c H locs ls F R L) (fun q => kf q p e s m args below meth c H locs ls F R L)
theorem go_if_le {x : Int32} {off : Int} (tgt : Nat) (hd : decode μ.2.1 pc = .ok (.ifCond .le off, 3)) (ht : (pc : Int) + off = (tgt : Int)) (kt : x ≤ 0 → Go κ μ tgt lv st h n Φ) (kf : ¬ x ≤ 0 → Go κ μ (pc + 3) lv st h n Φ) : Go κ μ pc lv (.int x :: st) h n Φ := by
  intro p e s m args below meth c H locs ls F R L
  exact lv_if_le F.1 F.2.1 hd ht (fun q => kt q p e s m args below meth c H locs ls F R L) (fun q => kf q p e s m args below meth c H locs ls F R L)
theorem go_icmp_le {x y : Int32} {off : Int} (tgt : Nat) (hd : decode μ.2.1 pc = .ok (.if_icmp .le off, 3)) (ht : (pc : Int) + off = (tgt : Int)) (kt : x ≤ y → Go κ μ tgt lv st h n Φ) (kf : ¬ x ≤ y → Go κ μ (pc + 3) lv st h n Φ) : Go κ μ pc lv (.int y :: .int x :: st) h n Φ := by
  intro p e s m args below meth c H locs ls F R L
  exact lv_icmp_le F.1 F.2.1 hd ht (fun q => kt q p e s m args below meth c H locs ls F R L) (fun q => kf q p e s m args below meth c H locs ls F R L)
theorem go_goto {off : Int} (tgt : Nat) (hd : decode μ.2.1 pc = .ok (.goto off, 3)) (ht : (pc : Int) + off = (tgt : Int)) (k : Go κ μ tgt lv st h n Φ) : Go κ μ pc lv st h n Φ := by
  intro p e s m args below meth c H locs ls F R L
  exact lv_goto F.1 F.2.1 hd ht (k p e s m args below meth c H locs ls F R L)
theorem go_tableIn {dflt lo hi : Int} {offs : Array Int} {len : Nat} {x : Int32} {off : Int} (tgt : Nat) (hd : decode μ.2.1 pc = .ok (.tableswitch dflt lo hi offs, len)) (h1 : ¬ x.toInt < lo) (h2 : ¬ hi < x.toInt) (ho : offs[(x.toInt - lo).toNat]? = some off) (ht : (pc : Int) + off = (tgt : Int)) (k : Go κ μ tgt lv st h n Φ) : Go κ μ pc lv (.int x :: st) h n Φ := by
  intro p e s m args below meth c H locs ls F R L
  exact lv_tableIn F.1 F.2.1 hd h1 h2 ho ht (k p e s m args below meth c H locs ls F R L)
theorem go_tableOut {dflt lo hi : Int} {offs : Array Int} {len : Nat} {x : Int32} (tgt : Nat) (hd : decode μ.2.1 pc = .ok (.tableswitch dflt lo hi offs, len)) (h1 : x.toInt < lo ∨ hi < x.toInt) (ht : (pc : Int) + dflt = (tgt : Int)) (k : Go κ μ tgt lv st h n Φ) : Go κ μ pc lv (.int x :: st) h n Φ := by
  intro p e s m args below meth c H locs ls F R L
  exact lv_tableOut F.1 F.2.1 hd h1 ht (k p e s m args below meth c H locs ls F R L)
theorem go_lookup {dflt : Int} {ps : Array (Int × Int)} {len : Nat} {x : Int32} {off : Int} (tgt : Nat) (hd : decode μ.2.1 pc = .ok (.lookupswitch dflt ps, len)) (hp : (ps.toList.zip (ps.toList.drop 1)).all (fun (a, next) => a.1 < next.1) = true) (ho : Op.lookupswitch.offset ps.toList dflt x.toInt = off) (ht : (pc : Int) + off = (tgt : Int)) (k : Go κ μ tgt lv st h n Φ) : Go κ μ pc lv (.int x :: st) h n Φ := by
  intro p e s m args below meth c H locs ls F R L
  exact lv_lookup F.1 F.2.1 hd hp ho ht (k p e s m args below meth c H locs ls F R L)
theorem gm_ret {s : State} {H : Heap} {locs : List Loc} {v : Option Value} {a : Array Value} (R : gm_R κ h s H locs) (hz : κ.2.2.2.1 ≤ s.heap.size) (hΦ : Φ v h) : ∀ t : State, t.heap = H → s.WarmedH t.vm → gm_Q κ Φ a s (.returned (v.map (gm_v κ))) t := by
  intro t ht _
  refine ⟨⟨v, h, rfl, hΦ, by rw [ht]; exact R.1⟩, fun q hq => ?_, by rw [ht]; exact R.2.1⟩
  rw [ht]
  exact R.2.2.1 q (Nat.lt_of_lt_of_le hq hz) (fun hh => Nat.not_le.mpr hq hh)
theorem go_iret {v : Int32} (hd : decode μ.2.1 pc = .ok (.ireturn, 1)) (hr : μ.2.2.2.1 = some .int) (hn : (Nat.ble n.1 μ.2.2.2.2.cells && Nat.ble n.2 μ.2.2.2.2.slots) = true) (hΦ : Φ (some (.int v)) h) : Go κ μ pc lv [.int v] h n Φ := by
  intro p e s m args below meth c H locs ls F R L
  refine W.widen (Nat.le_of_ble_eq_true (Bool.and_eq_true_iff.mp hn).1) (Nat.le_of_ble_eq_true (Bool.and_eq_true_iff.mp hn).2) ?_
  have hlocks := F.2.2.2.2.1
  exact W.iret F.1 F.2.1 (F.2.2.2.1.trans hr) (gm_ret (v := some (.int v)) R F.2.2.2.2.2.2.2.2.2 hΦ) R.2.2.2 hd
theorem go_zret {v : Int32} {ty : FieldType} (hd : decode μ.2.1 pc = .ok (.ireturn, 1)) (hr : μ.2.2.2.1 = some ty) (hn : (Nat.ble n.1 μ.2.2.2.2.cells && Nat.ble n.2 μ.2.2.2.2.slots) = true) (hv : narrow ty (.int v) = .int v) (hΦ : Φ (some (.int v)) h) : Go κ μ pc lv [.int v] h n Φ := by
  intro p e s m args below meth c H locs ls F R L
  refine W.widen (Nat.le_of_ble_eq_true (Bool.and_eq_true_iff.mp hn).1) (Nat.le_of_ble_eq_true (Bool.and_eq_true_iff.mp hn).2) ?_
  have hlocks := F.2.2.2.2.1
  exact W.zret F.1 F.2.1 (F.2.2.2.1.trans hr) hv (gm_ret (v := some (.int v)) R F.2.2.2.2.2.2.2.2.2 hΦ) R.2.2.2 hd
theorem go_vret (hd : decode μ.2.1 pc = .ok (.return_, 1)) (hr : μ.2.2.2.1 = none) (hn : (Nat.ble n.1 μ.2.2.2.2.cells && Nat.ble n.2 μ.2.2.2.2.slots) = true) (hΦ : Φ none h) : Go κ μ pc lv [] h n Φ := by
  intro p e s m args below meth c H locs ls F R L
  refine W.widen (Nat.le_of_ble_eq_true (Bool.and_eq_true_iff.mp hn).1) (Nat.le_of_ble_eq_true (Bool.and_eq_true_iff.mp hn).2) ?_
  have hlocks := F.2.2.2.2.1
  exact W.vret F.1 F.2.1 (F.2.2.2.1.trans hr) (gm_ret (v := none) R F.2.2.2.2.2.2.2.2.2 hΦ) R.2.2.2 hd
end GO
