/-! whole numbers of a row: the same rows where the values are nI of a Nat, or a Bool -/
def bi (b : Bool) : Int32 := if b then nI 1 else nI 0
theorem bi_t : bi true = nI 1 := rfl
theorem bi_f : bi false = nI 0 := rfl
theorem bi_0 {b : Bool} : bi b = 0 ↔ b = false := by cases b <;> decide
theorem bi_nar (b : Bool) : narrow .boolean (.int (bi b)) = .int (bi b) := by cases b <;> decide
theorem bi_fit (b : Bool) : fits .boolean (.int (bi b)) = true := by cases b <;> decide
theorem bi_vn (b : Bool) : vp_nar .boolean (bi b) = bi b := by cases b <;> decide
theorem nI_i1 (d : Int) (k : Nat) (h : Int32.ofInt d = nI k) (x : Nat) : nI x + Int32.ofInt d = nI (x + k) := by rw [h, nI_add]
/-- a count goes up to n: what holds of each from the end -/
theorem lo_up {P : Nat → Prop} (n : Nat) (h : ∀ i, i ≤ n → (i < n → P (i + 1)) → P i) : ∀ i, i ≤ n → P i := by
  have key : ∀ d i, i + d = n → P i := by
    intro d
    induction d with
    | zero => intro i hi; exact h i (by omega) (fun hlt => by omega)
    | succ d ih => intro i hi; exact h i (by omega) (fun _ => ih (i + 1) (by omega))
  intro i hi
  exact key (n - i) i (by omega)
section GX
variable {κ : gm_K} {μ : gm_M} {pc : Nat} {lv : List (Option Value)} {st : List Value} {h : gm_H} {n : Nat × Nat} {Φ : Option Value → gm_H → Prop}
theorem go_iaddN {x y : Nat} (hd : decode μ.2.1 pc = .ok (.iadd, 1)) (k : Go κ μ (pc + 1) lv (.int (nI (x + y)) :: st) h n Φ) : Go κ μ pc lv (.int (nI y) :: .int (nI x) :: st) h n Φ := go_iadd hd (by rw [nI_add]; exact k)
theorem go_imulN {x y : Nat} (hd : decode μ.2.1 pc = .ok (.imul, 1)) (k : Go κ μ (pc + 1) lv (.int (nI (x * y)) :: st) h n Φ) : Go κ μ pc lv (.int (nI y) :: .int (nI x) :: st) h n Φ := go_imul hd (by rw [pk_mul]; exact k)
theorem go_isubN {x y : Nat} (hd : decode μ.2.1 pc = .ok (.isub, 1)) (hxy : y ≤ x) (k : Go κ μ (pc + 1) lv (.int (nI (x - y)) :: st) h n Φ) : Go κ μ pc lv (.int (nI y) :: .int (nI x) :: st) h n Φ := go_isub hd (by rw [pk_sub hxy]; exact k)
theorem go_iincN {i : Nat} {d : Int} {x : Nat} (e : Nat) (hd : decode μ.2.1 pc = .ok (.iinc i d, 3)) (he : Int32.ofInt d = nI e) (hv : lv[i]? = some (some (.int (nI x)))) (hi : Nat.ble (i + 1) lv.length = true) (hc : (match lv[i - 1]? with | some (some w) => w.category == 1 | _ => true) = true) {lv' : List (Option Value)} (hl' : lv.set i (some (.int (nI (x + e)))) = lv') (k : Go κ μ (pc + 3) lv' st h n Φ) : Go κ μ pc lv st h n Φ :=
  go_iinc hd hv (nI_i1 d e he x) hi hc hl' k
theorem go_icmp_geN {x y : Nat} {off : Int} (tgt : Nat) (hd : decode μ.2.1 pc = .ok (.if_icmp .ge off, 3)) (ht : (pc : Int) + off = (tgt : Int)) (hx : x < 2 ^ 31) (hy : y < 2 ^ 31) (kt : y ≤ x → Go κ μ tgt lv st h n Φ) (kf : x < y → Go κ μ (pc + 3) lv st h n Φ) : Go κ μ pc lv (.int (nI y) :: .int (nI x) :: st) h n Φ :=
  go_icmp_ge tgt hd ht (fun q => kt ((nI_leI hy hx).mp q)) (fun q => kf (Nat.not_le.mp (fun z => q ((nI_leI hy hx).mpr z))))
theorem go_icmp_ltN {x y : Nat} {off : Int} (tgt : Nat) (hd : decode μ.2.1 pc = .ok (.if_icmp .lt off, 3)) (ht : (pc : Int) + off = (tgt : Int)) (hx : x < 2 ^ 31) (hy : y < 2 ^ 31) (kt : x < y → Go κ μ tgt lv st h n Φ) (kf : y ≤ x → Go κ μ (pc + 3) lv st h n Φ) : Go κ μ pc lv (.int (nI y) :: .int (nI x) :: st) h n Φ :=
  go_icmp_lt tgt hd ht (fun q => kt ((nI_ltI hx hy).mp q)) (fun q => kf (Nat.not_lt.mp (fun z => q ((nI_ltI hx hy).mpr z))))
theorem go_icmp_gtN {x y : Nat} {off : Int} (tgt : Nat) (hd : decode μ.2.1 pc = .ok (.if_icmp .gt off, 3)) (ht : (pc : Int) + off = (tgt : Int)) (hx : x < 2 ^ 31) (hy : y < 2 ^ 31) (kt : y < x → Go κ μ tgt lv st h n Φ) (kf : x ≤ y → Go κ μ (pc + 3) lv st h n Φ) : Go κ μ pc lv (.int (nI y) :: .int (nI x) :: st) h n Φ :=
  go_icmp_gt tgt hd ht (fun q => kt ((nI_ltI hy hx).mp q)) (fun q => kf (Nat.not_lt.mp (fun z => q ((nI_ltI hy hx).mpr z))))
theorem go_icmp_leN {x y : Nat} {off : Int} (tgt : Nat) (hd : decode μ.2.1 pc = .ok (.if_icmp .le off, 3)) (ht : (pc : Int) + off = (tgt : Int)) (hx : x < 2 ^ 31) (hy : y < 2 ^ 31) (kt : x ≤ y → Go κ μ tgt lv st h n Φ) (kf : y < x → Go κ μ (pc + 3) lv st h n Φ) : Go κ μ pc lv (.int (nI y) :: .int (nI x) :: st) h n Φ :=
  go_icmp_le tgt hd ht (fun q => kt ((nI_leI hx hy).mp q)) (fun q => kf (Nat.not_le.mp (fun z => q ((nI_leI hx hy).mpr z))))
theorem go_icmp_eqN {x y : Nat} {off : Int} (tgt : Nat) (hd : decode μ.2.1 pc = .ok (.if_icmp .eq off, 3)) (ht : (pc : Int) + off = (tgt : Int)) (hx : x < 2 ^ 31) (hy : y < 2 ^ 31) (kt : x = y → Go κ μ tgt lv st h n Φ) (kf : ¬ x = y → Go κ μ (pc + 3) lv st h n Φ) : Go κ μ pc lv (.int (nI y) :: .int (nI x) :: st) h n Φ :=
  go_icmp_eq tgt hd ht (fun q => kt ((nI_eq hx hy).mp q)) (fun q => kf (fun z => q ((nI_eq hx hy).mpr z)))
theorem go_icmp_neN {x y : Nat} {off : Int} (tgt : Nat) (hd : decode μ.2.1 pc = .ok (.if_icmp .ne off, 3)) (ht : (pc : Int) + off = (tgt : Int)) (hx : x < 2 ^ 31) (hy : y < 2 ^ 31) (kt : ¬ x = y → Go κ μ tgt lv st h n Φ) (kf : x = y → Go κ μ (pc + 3) lv st h n Φ) : Go κ μ pc lv (.int (nI y) :: .int (nI x) :: st) h n Φ :=
  go_icmp_ne tgt hd ht (fun q => kt (fun z => q ((nI_eq hx hy).mpr z))) (fun q => kf ((nI_eq hx hy).mp q))
theorem nI_z {x : Nat} (hx : x < 2 ^ 31) : nI x = 0 ↔ x = 0 := by
  have h := nI_eq (a := x) (b := 0) hx (by omega)
  rw [nI_0] at h
  exact h
theorem go_if_eqN {x : Nat} {off : Int} (tgt : Nat) (hd : decode μ.2.1 pc = .ok (.ifCond .eq off, 3)) (ht : (pc : Int) + off = (tgt : Int)) (hx : x < 2 ^ 31) (kt : x = 0 → Go κ μ tgt lv st h n Φ) (kf : ¬ x = 0 → Go κ μ (pc + 3) lv st h n Φ) : Go κ μ pc lv (.int (nI x) :: st) h n Φ :=
  go_if_eq tgt hd ht (fun q => kt ((nI_z hx).mp q)) (fun q => kf (fun z => q ((nI_z hx).mpr z)))
theorem go_if_neN {x : Nat} {off : Int} (tgt : Nat) (hd : decode μ.2.1 pc = .ok (.ifCond .ne off, 3)) (ht : (pc : Int) + off = (tgt : Int)) (hx : x < 2 ^ 31) (kt : ¬ x = 0 → Go κ μ tgt lv st h n Φ) (kf : x = 0 → Go κ μ (pc + 3) lv st h n Φ) : Go κ μ pc lv (.int (nI x) :: st) h n Φ :=
  go_if_ne tgt hd ht (fun q => kt (fun z => q ((nI_z hx).mpr z))) (fun q => kf ((nI_z hx).mp q))
theorem go_if_ltN {x : Nat} {off : Int} (tgt : Nat) (hd : decode μ.2.1 pc = .ok (.ifCond .lt off, 3)) (ht : (pc : Int) + off = (tgt : Int)) (hx : x < 2 ^ 31) (kf : Go κ μ (pc + 3) lv st h n Φ) : Go κ μ pc lv (.int (nI x) :: st) h n Φ :=
  go_if_lt tgt hd ht (fun q => absurd q (nI_pos hx)) (fun _ => kf)
theorem go_if_geN {x : Nat} {off : Int} (tgt : Nat) (hd : decode μ.2.1 pc = .ok (.ifCond .ge off, 3)) (ht : (pc : Int) + off = (tgt : Int)) (hx : x < 2 ^ 31) (kt : Go κ μ tgt lv st h n Φ) : Go κ μ pc lv (.int (nI x) :: st) h n Φ :=
  go_if_ge tgt hd ht (fun _ => kt) (fun q => absurd (nI_pos' hx) q)
theorem go_if_eqB {b : Bool} {off : Int} (tgt : Nat) (hd : decode μ.2.1 pc = .ok (.ifCond .eq off, 3)) (ht : (pc : Int) + off = (tgt : Int)) (kt : b = false → Go κ μ tgt lv st h n Φ) (kf : b = true → Go κ μ (pc + 3) lv st h n Φ) : Go κ μ pc lv (.int (bi b) :: st) h n Φ :=
  go_if_eq tgt hd ht (fun q => kt (bi_0.mp q)) (fun q => kf (by cases b <;> simp_all [bi_0]))
theorem go_if_neB {b : Bool} {off : Int} (tgt : Nat) (hd : decode μ.2.1 pc = .ok (.ifCond .ne off, 3)) (ht : (pc : Int) + off = (tgt : Int)) (kt : b = true → Go κ μ tgt lv st h n Φ) (kf : b = false → Go κ μ (pc + 3) lv st h n Φ) : Go κ μ pc lv (.int (bi b) :: st) h n Φ :=
  go_if_ne tgt hd ht (fun q => kt (by cases b <;> simp_all [bi_0])) (fun q => kf (bi_0.mp q))
theorem go_widen {m : Nat × Nat} (h1 : n.1 ≤ m.1) (h2 : n.2 ≤ m.2) (k : Go κ μ pc lv st h m Φ) : Go κ μ pc lv st h n Φ := by
  intro p e s m' args below meth c H locs ls F R L
  exact W.widen h1 h2 (k p e s m' args below meth c H locs ls F R L)
theorem go_cut (P : Prop) (hp : P) (k : P → Go κ μ pc lv st h n Φ) : Go κ μ pc lv st h n Φ := k hp
theorem go_topI {x y : Int32} (hxy : x = y) (k : Go κ μ pc lv (.int y :: st) h n Φ) : Go κ μ pc lv (.int x :: st) h n Φ := hxy ▸ k
theorem go_heap {h' : gm_H} (hh : h = h') (k : Go κ μ pc lv st h' n Φ) : Go κ μ pc lv st h n Φ := hh ▸ k
end GX
