/-! the words of a rule: String constants -/
def tx_ch : List (List Nat) := [[98, 97, 114], [108, 101, 116], [32], [32, 105, 102, 32], [32, 97, 110, 100, 32], [109, 97, 114, 107], [104, 97, 114, 100], [116, 111, 119, 110], [115, 105, 122, 101], [100, 97, 121]]
def tx_len : List Nat := tx_ch.map List.length
def tx_byt : List (List Int32) := tx_ch.map (fun l => l.map nI)
def tx_idx : List Nat := [66, 68, 47, 74, 76, 91, 93, 95, 97, 99]
def tx_txt : List String := ["bar", "let", " ", " if ", " and ", "mark", "hard", "town", "size", "day"]
def tl (k : Nat) : Nat := tx_len.getD k 0
def tc (k i : Nat) : Nat := (tx_ch.getD k []).getD i 0
/-- what is known of the texts, in every state -/
def tx_ok (κ : gm_K) (v : Value) (U : State) : Prop :=
  vk_S 10 tx_len tx_byt (fun k => κ.2.2.2.2.1 k) (fun k => κ.2.2.2.2.1 (100 + k)) (fun q => κ.2.2.2.1 ≤ q) U U.heap ∧ (∀ k, k < 10 → vk_R RX9 (tx_idx.getD k 0) (tx_txt.getD k "") (κ.2.2.2.2.1 k) U)
  ∧ va_Z "java/lang/String" "COMPACT_STRINGS" "Z" (.int 1) (fun q => κ.2.2.2.1 ≤ q) U U.heap ∧ va_Z "jdk/internal/util/Preconditions" "SIOOBE_FORMATTER" "Ljava/util/function/BiFunction;" (gm_v κ v) (fun q => κ.2.2.2.1 ≤ q) U U.heap
def TXT (κ : gm_K) : Prop := ∃ v : Value, v.category = 1 ∧ ∀ U, κ.2.2.2.2.2 U → tx_ok κ v U
section GT
variable {κ : gm_K} {μ : gm_M} {pc : Nat} {lv : List (Option Value)} {st : List Value} {h : gm_H} {n : Nat × Nat} {Φ : Option Value → gm_H → Prop}
theorem go_gets {C nm d : String} {v : Value} {idx : Nat} (hd : decode μ.2.1 pc = .ok (.getstatic idx, 3)) (hZ : ∀ U, κ.2.2.2.2.2 U → va_Z C nm d (gm_v κ v) (fun q => κ.2.2.2.1 ≤ q) U U.heap) (hl : Cond.fieldLink μ.1.cls idx C nm d ∈ lw_tbl) (kk : Go κ μ (pc + 3) lv (v :: st) h n Φ) : Go κ μ pc lv st h n Φ := by
  intro p e s m args below meth c H locs ls F R L
  exact va_gets F.1 F.2.1 (hZ s F.2.2.2.2.2.2.2.2.1.2.2.1) R.2 F.2.2.2.2.2.1 (F.2.2.2.2.2.2.1 _ hl rfl) (fun _ z => z) hd (kk p e s m args below meth c H locs ls F R L)
theorem go_getO {o nm d : String} {v : Value} {idx k : Nat} (hd : decode μ.2.1 pc = .ok (.getfield idx, 3)) (hO : ∀ U, κ.2.2.2.2.2 U → va_OF o nm d (gm_v κ v) (κ.2.2.2.2.1 k) (fun q => κ.2.2.2.1 ≤ q) U U.heap) (hl : Cond.fieldLink μ.1.cls idx o nm d ∈ lw_tbl) (kk : Go κ μ (pc + 3) lv (v :: st) h n Φ) : Go κ μ pc lv (.retAddr k :: st) h n Φ := by
  intro p e s m args below meth c H locs ls F R L
  exact vk_getf F.1 F.2.1 (hO s F.2.2.2.2.2.2.2.2.1.2.2.1) R.2 F.2.2.2.2.2.1 (F.2.2.2.2.2.2.1 _ hl rfl) (fun _ z => z) hd (kk p e s m args below meth c H locs ls F R L)
theorem go_lenO {N k : Nat} {f : Nat → Value} {v : Int32} (hd : decode μ.2.1 pc = .ok (.arraylength, 1)) (hT : ∀ U, κ.2.2.2.2.2 U → va_T .byte (κ.2.2.2.2.1 k) N f (fun q => κ.2.2.2.1 ≤ q) U U.heap) (hv : Int32.ofNat N = v) (kk : Go κ μ (pc + 1) lv (.int v :: st) h n Φ) : Go κ μ pc lv (.retAddr k :: st) h n Φ := by
  intro p e s m args below meth c H locs ls F R L
  exact va_tlen F.1 F.2.1 (hT s F.2.2.2.2.2.2.2.2.1.2.2.1) R.2 hv hd (kk p e s m args below meth c H locs ls F R L)
theorem go_baldO {N k i : Nat} {f : Nat → Int32} (hd : decode μ.2.1 pc = .ok (.baload, 1)) (hT : ∀ U, κ.2.2.2.2.2 U → va_T .byte (κ.2.2.2.2.1 k) N (fun j => .int (f j)) (fun q => κ.2.2.2.1 ≤ q) U U.heap) (hi : i < N) (hN : N < 1000) (kk : Go κ μ (pc + 1) lv (.int (f i) :: st) h n Φ) : Go κ μ pc lv (.int (nI i) :: .retAddr k :: st) h n Φ := by
  intro p e s m args below meth c H locs ls F R L
  obtain ⟨cell, h1, h2, h3, h4, h5, h6, h7⟩ := hT s F.2.2.2.2.2.2.2.2.1.2.2.1
  have hlt : κ.2.2.2.2.1 k < s.heap.size := (Array.getElem?_eq_some_iff.mp h1).1
  have hc : H[κ.2.2.2.2.1 k]? = some cell := by rw [R.2.2.1 _ hlt h7]; exact h1
  have ei : (nI i).toNatClampNeg = i := nI_clamp (by omega)
  exact W.bald (v := .int (f i)) F.1 F.2.1 hc h2 h3 (by rw [ei]; exact fun z => z.elim (nI_pos (by omega)) (fun z => by omega)) (by rw [ei]; exact h6 i hi) rfl rfl hd (kk p e s m args below meth c H locs ls F R L)
theorem go_i2c {x : Int32} (hd : decode μ.2.1 pc = .ok (.i2c, 1)) (k : Go κ μ (pc + 1) lv (.int (x.toUInt32 % 65536).toInt32 :: st) h n Φ) : Go κ μ pc lv (.int x :: st) h n Φ := by
  intro p e s m args below meth c H locs ls F R L
  exact lv_i2c F.1 F.2.1 hd rfl (k p e s m args below meth c H locs ls F R L)
theorem go_ldcS (T : TXT κ) {idx : Nat} (k : Nat) (hk : k < 10) (hi : tx_idx.getD k 0 = idx) (hown : μ.1.cls = RX9) (hd : decode μ.2.1 pc = .ok (.ldc idx, 2)) (kk : Go κ μ (pc + 2) lv (.retAddr k :: st) h n Φ) : Go κ μ pc lv st h n Φ := by
  intro p e s m args below meth c H locs ls F R L
  obtain ⟨v, -, hv⟩ := T
  have h2 := (hv s F.2.2.2.2.2.2.2.2.1.2.2.1).2.1 k hk
  rw [hi] at h2
  have ho := F.2.2.2.2.2.1
  rw [hown] at ho
  exact va_ldcS F.1 F.2.1 ho h2 hd (kk p e s m args below meth c H locs ls F R L)
/-- a call on an old cell -/
theorem go_callVO {μ' : gm_M} {idx k b : Nat} {As stk : List Value} {Φ' : Option Value → gm_H → Prop} (hd : decode μ.2.1 pc = .ok (.invokevirtual idx, 3)) (hw : gm_CV μ μ' idx k) (hC : Ct κ μ' (.retAddr b :: As) h Φ') (hst : stk = As.reverse ++ .retAddr b :: st) (hO : ∀ U, κ.2.2.2.2.2 U → va_O μ'.1.cls (κ.2.2.2.2.1 b) (fun q => κ.2.2.2.1 ≤ q) U U.heap) (hk : As.length = k) (hs : Nat.ble ((st.map fun v => v.category).sum) 8 = true) (hn : (Nat.ble (n.1 + μ'.2.2.2.2.cells) μ.2.2.2.2.cells && Nat.ble (n.2 + μ'.2.2.2.2.slots) μ.2.2.2.2.slots) = true)
    (kk : ∀ (r : Option Value) (h' : gm_H), Φ' r h' → Go κ μ (pc + 3) lv (r.toList ++ st) h' (n.1 + μ'.2.2.2.2.cells, n.2 + μ'.2.2.2.2.slots) Φ) : Go κ μ pc lv stk h n Φ := by
  intro p e s m args below meth c H locs ls F R L
  subst hst
  have hts := F.2.2.2.2.2.2.1
  obtain ⟨⟨w1, w2, w3, w4, w5⟩, hnm, hrm⟩ := hw
  have hn := Bool.and_eq_true_iff.mp hn
  have hrecv : ∃ cell : Cell, H[κ.2.2.2.2.1 b]? = some cell ∧ cell.vm.isStatics = false ∧ s.vm.findClass μ'.1.cls = some cell.cls := by
    obtain ⟨cell, h1, h2, h3, h4⟩ := hO s F.2.2.2.2.2.2.2.2.1.2.2.1
    exact ⟨cell, by rw [R.2.2.1 _ (Array.getElem?_eq_some_iff.mp h1).1 h4]; exact h1, h2, h3⟩
  have er : (As.reverse ++ .retAddr b :: st).map (gm_v κ) = (As.map (gm_v κ)).reverse ++ .ref (κ.2.2.2.2.1 b) :: st.map (gm_v κ) := by
    simp [List.map_append, List.map_reverse]
    rfl
  rw [er]
  refine gm_call (va_runV (b := κ.2.2.2.2.1 b) (As := As.map (gm_v κ)) (rest := st.map (gm_v κ)) (n := k) (C := μ'.1.cls) ⟨F.1, F.2.1, F.2.2.1, F.2.2.2.2.2.1, gm_hts F⟩ hC ⟨callB_of k (gm_hts F) (gm_good w5) rfl rfl rfl (hts _ w4 rfl) (hts _ w1 rfl) hnm hrm, hts _ w2 rfl, hts _ w3 rfl⟩ ⟨gm_blind, hrecv, gm_pre (av := .retAddr b :: As) F R⟩ rfl (by rw [List.length_map]; exact hk) L.1 rfl (gm_sum hs) hd ⟨Nat.le_of_ble_eq_true hn.1, Nat.le_of_ble_eq_true hn.2⟩) R F.2.2.2.2.2.2.2.2.2 (fun r h' H1 locs1 hp R1 => ?_)
  rw [gm_app]
  exact kk r h' hp p e s m args below meth c H1 locs1 ls F R1 L
end GT
