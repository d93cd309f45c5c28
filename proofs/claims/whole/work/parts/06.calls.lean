section GN
variable {κ : gm_K} {μ : gm_M} {pc : Nat} {lv : List (Option Value)} {st : List Value} {h : gm_H} {n : Nat × Nat} {Φ : Option Value → gm_H → Prop}
theorem gm_R.push {κ : gm_K} {h : gm_H} {s : State} {H H1 : Heap} {locs : List Loc} (R : gm_R κ h s H locs) {e : gm_E} (he : va_at κ.2.1 vwCl (κ.2.2.2.1 + h.length, gm_e κ e) H1) (hz : H1.size = H.size + 1) (oq : ∀ q : Nat, q < H.size → H1[q]? = H[q]?) : gm_R κ (h ++ [e]) s H1 locs := by
  refine ⟨⟨by rw [hz, R.1.1, List.length_append]; rfl, ?_⟩, ⟨by rw [hz]; exact Nat.le_succ_of_le R.2.1, fun q h1 h2 => ?_, R.2.2.2⟩⟩
  · rw [← gm_w_push]
    refine va_P.app (R.1.2.kept (fun k q hk => oq _ (R.1.2 k q hk).lt)) (fun k q hk => ?_)
    have hz1 : k < 1 := (List.getElem?_eq_some_iff.mp hk).1
    rw [show k = 0 by omega] at hk
    cases hk
    exact he
  · rw [oq q (Nat.lt_of_lt_of_le h1 R.2.1)]
    exact R.2.2.1 q h1 h2
theorem go_newa0 {x : Int32} (N : Nat) (hd : decode μ.2.1 pc = .ok (.newarray .int, 2)) (hw : Cond.arrayClass .int ∈ lw_tbl) (hx : ¬ x < 0) (hN : x.toNatClampNeg = N) (hb : N * componentBytes .int ≤ 536870912) (hc : (Nat.ble (n.1 + 1) μ.2.2.2.2.cells && Nat.ble (n.2 + N) μ.2.2.2.2.slots) = true)
    (kk : Go κ μ (pc + 2) lv (.ref h.length :: st) (h ++ [.inl (0, N, fun _ => 0)]) (n.1 + 1, n.2 + N) Φ) : Go κ μ pc lv (.int x :: st) h n Φ := by
  intro p e s m args below meth c H locs ls F R L
  have hK := F.2.2.2.2.2.2.2.2.1.1
  have hc := Bool.and_eq_true_iff.mp hc
  refine va_newaK F.1 F.2.1 (atype := .int) (F.2.2.2.2.2.2.1 _ hw rfl) rfl hd rfl hx hN hb (Nat.le_of_ble_eq_true hc.1) (Nat.le_of_ble_eq_true hc.2) R.1.1 fun H1 cA e1 z1 o1 hAr hNm => ?_
  have hcA : cA = κ.2.2.1 0 := Option.some.inj (hNm.symm.trans (hK.2 0 _ rfl).2)
  subst hcA
  exact kk p e s m args below meth c H1 locs ls F (R.push e1 (by rw [z1, R.1.1]) (fun q hq => o1 q (by rw [← R.1.1]; exact hq))) L
theorem go_newa1 {x : Int32} (N : Nat) (hd : decode μ.2.1 pc = .ok (.newarray .byte, 2)) (hw : Cond.arrayClass .byte ∈ lw_tbl) (hx : ¬ x < 0) (hN : x.toNatClampNeg = N) (hb : N * componentBytes .byte ≤ 536870912) (hc : (Nat.ble (n.1 + 1) μ.2.2.2.2.cells && Nat.ble (n.2 + N) μ.2.2.2.2.slots) = true)
    (kk : Go κ μ (pc + 2) lv (.ref h.length :: st) (h ++ [.inl (1, N, fun _ => 0)]) (n.1 + 1, n.2 + N) Φ) : Go κ μ pc lv (.int x :: st) h n Φ := by
  intro p e s m args below meth c H locs ls F R L
  have hK := F.2.2.2.2.2.2.2.2.1.1
  have hc := Bool.and_eq_true_iff.mp hc
  refine va_newaK F.1 F.2.1 (atype := .byte) (F.2.2.2.2.2.2.1 _ hw rfl) rfl hd rfl hx hN hb (Nat.le_of_ble_eq_true hc.1) (Nat.le_of_ble_eq_true hc.2) R.1.1 fun H1 cA e1 z1 o1 hAr hNm => ?_
  have hcA : cA = κ.2.2.1 1 := Option.some.inj (hNm.symm.trans (hK.2 1 _ rfl).2)
  subst hcA
  exact kk p e s m args below meth c H1 locs ls F (R.push e1 (by rw [z1, R.1.1]) (fun q hq => o1 q (by rw [← R.1.1]; exact hq))) L
theorem go_newa2 {x : Int32} (N : Nat) (hd : decode μ.2.1 pc = .ok (.newarray .char, 2)) (hw : Cond.arrayClass .char ∈ lw_tbl) (hx : ¬ x < 0) (hN : x.toNatClampNeg = N) (hb : N * componentBytes .char ≤ 536870912) (hc : (Nat.ble (n.1 + 1) μ.2.2.2.2.cells && Nat.ble (n.2 + N) μ.2.2.2.2.slots) = true)
    (kk : Go κ μ (pc + 2) lv (.ref h.length :: st) (h ++ [.inl (2, N, fun _ => 0)]) (n.1 + 1, n.2 + N) Φ) : Go κ μ pc lv (.int x :: st) h n Φ := by
  intro p e s m args below meth c H locs ls F R L
  have hK := F.2.2.2.2.2.2.2.2.1.1
  have hc := Bool.and_eq_true_iff.mp hc
  refine va_newaK F.1 F.2.1 (atype := .char) (F.2.2.2.2.2.2.1 _ hw rfl) rfl hd rfl hx hN hb (Nat.le_of_ble_eq_true hc.1) (Nat.le_of_ble_eq_true hc.2) R.1.1 fun H1 cA e1 z1 o1 hAr hNm => ?_
  have hcA : cA = κ.2.2.1 2 := Option.some.inj (hNm.symm.trans (hK.2 2 _ rfl).2)
  subst hcA
  exact kk p e s m args below meth c H1 locs ls F (R.push e1 (by rw [z1, R.1.1]) (fun q hq => o1 q (by rw [← R.1.1]; exact hq))) L
theorem go_newa3 {x : Int32} (N : Nat) (hd : decode μ.2.1 pc = .ok (.newarray .boolean, 2)) (hw : Cond.arrayClass .boolean ∈ lw_tbl) (hx : ¬ x < 0) (hN : x.toNatClampNeg = N) (hb : N * componentBytes .boolean ≤ 536870912) (hc : (Nat.ble (n.1 + 1) μ.2.2.2.2.cells && Nat.ble (n.2 + N) μ.2.2.2.2.slots) = true)
    (kk : Go κ μ (pc + 2) lv (.ref h.length :: st) (h ++ [.inl (3, N, fun _ => 0)]) (n.1 + 1, n.2 + N) Φ) : Go κ μ pc lv (.int x :: st) h n Φ := by
  intro p e s m args below meth c H locs ls F R L
  have hK := F.2.2.2.2.2.2.2.2.1.1
  have hc := Bool.and_eq_true_iff.mp hc
  refine va_newaK F.1 F.2.1 (atype := .boolean) (F.2.2.2.2.2.2.1 _ hw rfl) rfl hd rfl hx hN hb (Nat.le_of_ble_eq_true hc.1) (Nat.le_of_ble_eq_true hc.2) R.1.1 fun H1 cA e1 z1 o1 hAr hNm => ?_
  have hcA : cA = κ.2.2.1 3 := Option.some.inj (hNm.symm.trans (hK.2 3 _ rfl).2)
  subst hcA
  exact kk p e s m args below meth c H1 locs ls F (R.push e1 (by rw [z1, R.1.1]) (fun q hq => o1 q (by rw [← R.1.1]; exact hq))) L
theorem gm_dv (κ : gm_K) (ty : FieldType) : gm_v κ (defaultValue ty) = defaultValue ty := by cases ty <;> rfl
theorem gm_vp (κ : gm_K) (fs : List Value) (j : Nat) : vp_V (fs.map (gm_v κ)) j = gm_v κ (vp_V fs j) := by
  unfold vp_V
  rw [List.getD_eq_getElem?_getD, List.getD_eq_getElem?_getD, List.getElem?_map]
  cases fs[j]? <;> rfl
theorem go_new {idx : Nat} (ci : Nat) {q : vw_C} (fs : List Value) (hd : decode μ.2.1 pc = .ok (.new idx, 3)) (hq : vwCl[ci]? = some q) (hcl : Cond.classLink μ.1.cls idx q.1 ∈ lw_tbl) (hins : Cond.instantiable q.1 q.2.2 ∈ lw_tbl) (hini : Cond.initialized q.1 ∈ lw_tbl) (hfs : ∀ j, j < q.2.2 → (parseFieldDescriptor (q.2.1 j).2.2.1).map defaultValue = some (fs.getD j .null)) (hc : (Nat.ble (n.1 + 1) μ.2.2.2.2.cells && Nat.ble (n.2 + q.2.2) μ.2.2.2.2.slots) = true)
    (kk : Go κ μ (pc + 3) lv (.ref h.length :: st) (h ++ [.inr (ci, fs)]) (n.1 + 1, n.2 + q.2.2) Φ) : Go κ μ pc lv st h n Φ := by
  intro p e s m args below meth c H locs ls F R L
  have hK := F.2.2.2.2.2.2.2.2.1.1
  have hc := Bool.and_eq_true_iff.mp hc
  obtain ⟨hin, ty, hty, hnm⟩ := cl_ok ci q hq
  have hKn := hK.1 ci _ hq
  refine W.newcK F.1 F.2.1 F.2.2.2.2.2.1 (F.2.2.2.2.2.2.1 _ hcl rfl) (F.2.2.2.2.2.2.1 _ hins rfl) (F.2.2.2.2.2.2.1 _ hini rfl) rfl hd (Nat.le_of_ble_eq_true hc.1) (Nat.le_of_ble_eq_true hc.2) hKn.2.1 R.1.1 fun H1 kC hkC e1 z1 o1 => ?_
  refine kk p e s m args below meth c H1 locs ls F (R.push ?_ (by rw [z1, R.1.1]) (fun q hq => o1 q (by rw [← R.1.1]; exact hq))) L
  refine ⟨_, hq, (u_born ty (gm_hts F) hin hKn hkC e1 hty).to (fun j hj => ?_)⟩
  show defaultValue (ty j) = vp_V (fs.map (gm_v κ)) j
  have h1 := hfs j hj
  rw [hty j hj] at h1
  rw [gm_vp, ← gm_dv κ (ty j)]
  exact congrArg (gm_v κ) (Option.some.inj h1)
theorem gm_oi : Cond.instanceMethod objectInit ∈ lw_tbl ∧ Cond.code objectInit ⟨#[0xb1]⟩ 1 none ∈ lw_tbl := by decide +kernel
theorem go_objInit {idx b : Nat} (hd : decode μ.2.1 pc = .ok (.invokespecial idx, 3)) (hl : Cond.methodLink μ.1.cls idx objectInit ∈ lw_tbl) (hf : Nat.ble 1 μ.2.2.2.2.frames = true) (hc : Nat.ble ((st.map fun v => v.category).sum + 12) μ.2.2.2.2.locals = true) (kk : Go κ μ (pc + 3) lv st h n Φ) : Go κ μ pc lv (.ref b :: st) h n Φ := by
  intro p e s m args below meth c H locs ls F R L
  have hts := F.2.2.2.2.2.2.1
  refine W.objInit F.1 F.2.1 F.2.2.2.2.2.1 (hts _ hl rfl) (hts _ gm_oi.1 rfl) (hts _ gm_oi.2 rfl) rfl (L.1.trans F.2.2.1.symm) rfl hd (Nat.le_of_ble_eq_true hf) ?_ (kk p e s m args below meth c H locs ls F R L)
  have h1 : ((st.map (gm_v κ)).map fun v => v.category) = st.map fun v => v.category := by
    rw [List.map_map]
    exact List.map_congr_left (fun v _ => gm_cat κ v)
  show 2 * 0 + _ + 12 ≤ _
  rw [h1]
  have := Nat.le_of_ble_eq_true hc
  omega
/-! calls -/
theorem gm_good {y : MethodName} {b : ByteArray} {k : Nat} {r : Option FieldType} (hc : Cond.code y b k r ∈ lw_tbl) : GoodIn lw_gd (Cond.code y b k r :: lw_gd) := by
  intro w hw
  rcases List.mem_cons.mp hw with rfl | hw
  · exact ⟨List.mem_filter.mpr ⟨hc, rfl⟩, good_of_word rfl⟩
  · exact ⟨hw, good_of_word (List.mem_filter.mp hw).2⟩
theorem gm_blind {κ : gm_K} {h : gm_H} {av : List Value} : FrameBlind (fun (a : Array Value) (U : State) => a = (av.map (gm_v κ)).toArray ∧ gm_P κ h U.heap ∧ gm_O κ U) := by
  intro a U g mk q
  exact ⟨q.1, q.2.1, gm_O.warm (s := U) (U := U.calling g mk a) (State.WarmedH.refl U) (fun _ _ => rfl) q.2.2⟩
theorem gm_pre {κ : gm_K} {μ : gm_M} {h : gm_H} {av : List Value} {p : Program} {s : State} {m : MethodId} {args : Array Value} {meth : Method} {c : Code} {H : Heap} {locs : List Loc} (F : gm_F κ μ p s m args meth c) (R : gm_R κ h s H locs) : ∀ U : State, U.heap = H → s.WarmedH U.vm → ((av.map (gm_v κ)).toArray = (av.map (gm_v κ)).toArray ∧ gm_P κ h U.heap ∧ gm_O κ U) := by
  intro U hU hW
  refine ⟨rfl, by rw [hU]; exact R.1, gm_O.warm hW (fun q hq => ?_) F.2.2.2.2.2.2.2.2.1⟩
  rw [hU]
  exact R.2.2.1 q (Nat.lt_of_lt_of_le hq F.2.2.2.2.2.2.2.2.2) (fun hh => Nat.not_le.mpr hq hh)
theorem gm_call {p : Program} {l : Launch} {e : Env} {Rm : Room} {s : State} {m : MethodId} {args a : Array Value} {below : List Frame} {meth : Method} {c : Code} {H : Heap} {locs : List Loc} {mc ms : Nat} {Q : State → Prop} {ls : Array Slot} {st0 rest : List Value} {Φ' : Option Value → gm_H → Prop}
    (hr : va_Run p l e Rm s m args below meth c H locs n.1 n.2 mc ms (F0 m pc ls st0) rest (gm_Q κ Φ' a) (fun q => κ.2.2.2.1 ≤ q)) (R : gm_R κ h s H locs) (hz : κ.2.2.2.1 ≤ s.heap.size)
    (kk : ∀ (r : Option Value) (h' : gm_H) (H1 : Heap) (locs1 : List Loc), Φ' r h' → gm_R κ h' s H1 locs1 → W p l e Rm s m args below meth c H1 locs1 (n.1 + mc) (n.2 + ms) Q (F0 m (pc + 3) ls ((r.map (gm_v κ)).toList ++ rest))) : W p l e Rm s m args below meth c H locs n.1 n.2 Q (F0 m pc ls st0) := by
  intro T hT X
  obtain ⟨v, st₀, t, T', L, h0, X', hL, e1, e2, ⟨⟨r, h', hv, hp, hb⟩, hk, hg⟩, step⟩ := hr T hT X
  cases hv
  rw [h0] at hk hg
  obtain ⟨t2, a1, b1⟩ := kk r h' T'.heap (locs ++ L) hp ⟨by rw [e1]; exact hb, ⟨Nat.le_trans R.2.1 (by rw [e1]; exact hg), fun q h1 h2 => by
      have hq : q < κ.2.2.2.1 := Nat.not_le.mp h2
      rw [e1, hk q hq]
      exact R.2.2.1 q h1 h2, fun q hq => by
      rcases List.mem_append.mp hq with h3 | h3
      · exact R.2.2.2 q h3
      · exact hL q h3⟩⟩ T' rfl X'
  exact ⟨t2, step t2 a1, b1⟩
def gm_room (μ μ' : gm_M) : Prop := μ'.2.2.2.2.frames + 1 ≤ μ.2.2.2.2.frames ∧ 8 + (μ'.2.2.1 + 11) + μ'.2.2.2.2.locals ≤ μ.2.2.2.2.locals
def gm_nm (y : MethodName) (k : Nat) : Prop := y.cls ≠ "java/lang/invoke/MethodHandle" ∧ y.cls ≠ "java/lang/invoke/VarHandle" ∧ (parseMethodDescriptor y.desc).map (fun d => d.parameters.length) = some k
/-- a call of an instance method, by the tables -/
def gm_CV (μ μ' : gm_M) (idx k : Nat) : Prop := (Cond.methodLink μ.1.cls idx μ'.1 ∈ lw_tbl ∧ Cond.instanceMethod μ'.1 ∈ lw_tbl ∧ Cond.selects μ'.1.cls μ'.1 μ'.1 ∈ lw_tbl ∧ Cond.initialized μ'.1.cls ∈ lw_tbl ∧ Cond.code μ'.1 μ'.2.1 μ'.2.2.1 μ'.2.2.2.1 ∈ lw_tbl) ∧ gm_nm μ'.1 k ∧ gm_room μ μ'
def gm_CS (μ μ' : gm_M) (idx k : Nat) : Prop := (Cond.methodLink μ.1.cls idx μ'.1 ∈ lw_tbl ∧ Cond.static μ'.1 ∈ lw_tbl ∧ Cond.initialized μ'.1.cls ∈ lw_tbl ∧ Cond.code μ'.1 μ'.2.1 μ'.2.2.1 μ'.2.2.2.1 ∈ lw_tbl) ∧ gm_nm μ'.1 k ∧ gm_room μ μ'
def gm_CI (μ μ' : gm_M) (idx k : Nat) : Prop := (Cond.methodLink μ.1.cls idx μ'.1 ∈ lw_tbl ∧ Cond.instanceMethod μ'.1 ∈ lw_tbl ∧ Cond.initialized μ'.1.cls ∈ lw_tbl ∧ Cond.code μ'.1 μ'.2.1 μ'.2.2.1 μ'.2.2.2.1 ∈ lw_tbl ∧ μ'.2.2.2.1 = none ∧ μ'.1.name = "<init>") ∧ gm_nm μ'.1 k ∧ gm_room μ μ'
def gm_CSN (μ μ' : gm_M) (idx k : Nat) (host : String) : Prop := (Cond.methodLinkNest μ.1.cls idx μ'.1 host ∈ lw_tbl ∧ Cond.static μ'.1 ∈ lw_tbl ∧ Cond.initialized μ'.1.cls ∈ lw_tbl ∧ Cond.code μ'.1 μ'.2.1 μ'.2.2.1 μ'.2.2.2.1 ∈ lw_tbl) ∧ gm_nm μ'.1 k ∧ gm_room μ μ'
def gm_CIN (μ μ' : gm_M) (idx k : Nat) (host : String) : Prop := (Cond.methodLinkNest μ.1.cls idx μ'.1 host ∈ lw_tbl ∧ Cond.instanceMethod μ'.1 ∈ lw_tbl ∧ Cond.initialized μ'.1.cls ∈ lw_tbl ∧ Cond.code μ'.1 μ'.2.1 μ'.2.2.1 μ'.2.2.2.1 ∈ lw_tbl ∧ μ'.2.2.2.1 = none ∧ μ'.1.name = "<init>") ∧ gm_nm μ'.1 k ∧ gm_room μ μ'
theorem gm_rev (κ : gm_K) (As st : List Value) (b : Nat) : (As.reverse ++ .ref b :: st).map (gm_v κ) = (As.map (gm_v κ)).reverse ++ .ref (κ.2.2.2.1 + b) :: st.map (gm_v κ) := by
  simp [List.map_append, List.map_reverse]
  rfl
theorem gm_revS (κ : gm_K) (As st : List Value) : (As.reverse ++ st).map (gm_v κ) = (As.map (gm_v κ)).reverse ++ st.map (gm_v κ) := by
  simp [List.map_append, List.map_reverse]
theorem gm_sum {κ : gm_K} {m : MethodId} {ls : Array Slot} {st st0 : List Value} (hw : Nat.ble ((st.map fun v => v.category).sum) 8 = true) : 2 * (F0 m pc ls st0).monitorRoom + ((st.map (gm_v κ)).map fun v => v.category).sum ≤ 8 := by
  have h1 : ((st.map (gm_v κ)).map fun v => v.category) = st.map fun v => v.category := by
    rw [List.map_map]
    exact List.map_congr_left (fun v _ => gm_cat κ v)
  rw [h1]
  exact lv_room (Nat.le_of_ble_eq_true hw)
theorem gm_app (κ : gm_K) (r : Option Value) (st : List Value) : (r.map (gm_v κ)).toList ++ st.map (gm_v κ) = (r.toList ++ st).map (gm_v κ) := by
  cases r <;> rfl
theorem go_callV {μ' : gm_M} {idx k b ci : Nat} {As stk : List Value} {fs : List Value} {Φ' : Option Value → gm_H → Prop} (hd : decode μ.2.1 pc = .ok (.invokevirtual idx, 3)) (hw : gm_CV μ μ' idx k) (hC : Ct κ μ' (.ref b :: As) h Φ') (hst : stk = As.reverse ++ .ref b :: st) (hb : h[b]? = some (.inr (ci, fs))) (hci : (vwCl[ci]?).map Prod.fst = some μ'.1.cls) (hk : As.length = k) (hs : Nat.ble ((st.map fun v => v.category).sum) 8 = true) (hn : (Nat.ble (n.1 + μ'.2.2.2.2.cells) μ.2.2.2.2.cells && Nat.ble (n.2 + μ'.2.2.2.2.slots) μ.2.2.2.2.slots) = true)
    (kk : ∀ (r : Option Value) (h' : gm_H), Φ' r h' → Go κ μ (pc + 3) lv (r.toList ++ st) h' (n.1 + μ'.2.2.2.2.cells, n.2 + μ'.2.2.2.2.slots) Φ) : Go κ μ pc lv stk h n Φ := by
  intro p e s m args below meth c H locs ls F R L
  subst hst
  have hts := F.2.2.2.2.2.2.1
  obtain ⟨⟨w1, w2, w3, w4, w5⟩, hnm, hrm⟩ := hw
  have hn := Bool.and_eq_true_iff.mp hn
  obtain ⟨q, hq, hqc⟩ := Option.map_eq_some_iff.mp hci
  have hrecv := va_recv F.2.2.2.2.2.2.2.2.1.1 R.1.2 hq (gm_w_get hb)
  rw [hqc] at hrecv
  rw [gm_rev]
  refine gm_call (va_runV (b := κ.2.2.2.1 + b) (As := As.map (gm_v κ)) (rest := st.map (gm_v κ)) (n := k) (C := μ'.1.cls) ⟨F.1, F.2.1, F.2.2.1, F.2.2.2.2.2.1, gm_hts F⟩ hC ⟨callB_of k (gm_hts F) (gm_good w5) rfl rfl rfl (hts _ w4 rfl) (hts _ w1 rfl) hnm hrm, hts _ w2 rfl, hts _ w3 rfl⟩ ⟨gm_blind, hrecv, gm_pre (av := .ref b :: As) F R⟩ rfl (by rw [List.length_map]; exact hk) L.1 rfl (gm_sum hs) hd ⟨Nat.le_of_ble_eq_true hn.1, Nat.le_of_ble_eq_true hn.2⟩) R F.2.2.2.2.2.2.2.2.2 (fun r h' H1 locs1 hp R1 => ?_)
  rw [gm_app]
  exact kk r h' hp p e s m args below meth c H1 locs1 ls F R1 L
theorem go_callS {μ' : gm_M} {idx k : Nat} {As stk : List Value} {Φ' : Option Value → gm_H → Prop} (hd : decode μ.2.1 pc = .ok (.invokestatic idx, 3)) (hw : gm_CS μ μ' idx k) (hC : Ct κ μ' As h Φ') (hst : stk = As.reverse ++ st) (hk : As.length = k) (hs : Nat.ble ((st.map fun v => v.category).sum) 8 = true) (hn : (Nat.ble (n.1 + μ'.2.2.2.2.cells) μ.2.2.2.2.cells && Nat.ble (n.2 + μ'.2.2.2.2.slots) μ.2.2.2.2.slots) = true)
    (kk : ∀ (r : Option Value) (h' : gm_H), Φ' r h' → Go κ μ (pc + 3) lv (r.toList ++ st) h' (n.1 + μ'.2.2.2.2.cells, n.2 + μ'.2.2.2.2.slots) Φ) : Go κ μ pc lv stk h n Φ := by
  intro p e s m args below meth c H locs ls F R L
  subst hst
  have hts := F.2.2.2.2.2.2.1
  obtain ⟨⟨w1, w2, w4, w5⟩, hnm, hrm⟩ := hw
  have hn := Bool.and_eq_true_iff.mp hn
  rw [gm_revS]
  refine gm_call (va_runS (As := As.map (gm_v κ)) (rest := st.map (gm_v κ)) (n := k) ⟨F.1, F.2.1, F.2.2.1, F.2.2.2.2.2.1, gm_hts F⟩ hC ⟨callB_of k (gm_hts F) (gm_good w5) rfl rfl rfl (hts _ w4 rfl) (hts _ w1 rfl) hnm hrm, hts _ w2 rfl⟩ ⟨gm_blind, gm_pre (av := As) F R⟩ rfl (by rw [List.length_map]; exact hk) L.1 rfl (gm_sum hs) hd ⟨Nat.le_of_ble_eq_true hn.1, Nat.le_of_ble_eq_true hn.2⟩) R F.2.2.2.2.2.2.2.2.2 (fun r h' H1 locs1 hp R1 => ?_)
  rw [gm_app]
  exact kk r h' hp p e s m args below meth c H1 locs1 ls F R1 L
theorem go_callSN {μ' : gm_M} {idx k : Nat} {host : String} {As stk : List Value} {Φ' : Option Value → gm_H → Prop} (hd : decode μ.2.1 pc = .ok (.invokestatic idx, 3)) (hw : gm_CSN μ μ' idx k host) (hC : Ct κ μ' As h Φ') (hst : stk = As.reverse ++ st) (hk : As.length = k) (hs : Nat.ble ((st.map fun v => v.category).sum) 8 = true) (hn : (Nat.ble (n.1 + μ'.2.2.2.2.cells) μ.2.2.2.2.cells && Nat.ble (n.2 + μ'.2.2.2.2.slots) μ.2.2.2.2.slots) = true)
    (kk : ∀ (r : Option Value) (h' : gm_H), Φ' r h' → Go κ μ (pc + 3) lv (r.toList ++ st) h' (n.1 + μ'.2.2.2.2.cells, n.2 + μ'.2.2.2.2.slots) Φ) : Go κ μ pc lv stk h n Φ := by
  intro p e s m args below meth c H locs ls F R L
  subst hst
  have hts := F.2.2.2.2.2.2.1
  obtain ⟨⟨w1, w2, w4, w5⟩, hnm, hrm⟩ := hw
  have hn := Bool.and_eq_true_iff.mp hn
  rw [gm_revS]
  refine gm_call (va_runSN (As := As.map (gm_v κ)) (rest := st.map (gm_v κ)) (n := k) ⟨F.1, F.2.1, F.2.2.1, F.2.2.2.2.2.1, gm_hts F⟩ hC ⟨va_cnB k (gm_hts F) (gm_good w5) rfl rfl rfl (F.2.2.2.2.2.2.2.2.1.2.1 _ w1 rfl) (hts _ w4 rfl) hnm hrm, hts _ w2 rfl, trivial⟩ ⟨gm_blind, gm_pre (av := As) F R⟩ rfl (by rw [List.length_map]; exact hk) L.1 rfl (gm_sum hs) hd ⟨Nat.le_of_ble_eq_true hn.1, Nat.le_of_ble_eq_true hn.2⟩) R F.2.2.2.2.2.2.2.2.2 (fun r h' H1 locs1 hp R1 => ?_)
  rw [gm_app]
  exact kk r h' hp p e s m args below meth c H1 locs1 ls F R1 L
theorem go_callI {μ' : gm_M} {idx k b : Nat} {As stk : List Value} {Φ' : Option Value → gm_H → Prop} (hd : decode μ.2.1 pc = .ok (.invokespecial idx, 3)) (hw : gm_CI μ μ' idx k) (hC : Ct κ μ' (.ref b :: As) h Φ') (hst : stk = As.reverse ++ .ref b :: st) (hk : As.length = k) (hs : Nat.ble ((st.map fun v => v.category).sum) 8 = true) (hn : (Nat.ble (n.1 + μ'.2.2.2.2.cells) μ.2.2.2.2.cells && Nat.ble (n.2 + μ'.2.2.2.2.slots) μ.2.2.2.2.slots) = true)
    (kk : ∀ (r : Option Value) (h' : gm_H), Φ' r h' → Go κ μ (pc + 3) lv (r.toList ++ st) h' (n.1 + μ'.2.2.2.2.cells, n.2 + μ'.2.2.2.2.slots) Φ) : Go κ μ pc lv stk h n Φ := by
  intro p e s m args below meth c H locs ls F R L
  subst hst
  have hts := F.2.2.2.2.2.2.1
  obtain ⟨⟨w1, w2, w4, w5, w6, w7⟩, hnm, hrm⟩ := hw
  have hn := Bool.and_eq_true_iff.mp hn
  rw [gm_rev]
  unfold Ct at hC
  rw [w6] at hC w5
  refine gm_call (va_runI (b := κ.2.2.2.1 + b) (As := As.map (gm_v κ)) (rest := st.map (gm_v κ)) (n := k) ⟨F.1, F.2.1, F.2.2.1, F.2.2.2.2.2.1, gm_hts F⟩ hC ⟨callB_of k (gm_hts F) (gm_good w5) rfl rfl rfl (hts _ w4 rfl) (hts _ w1 rfl) hnm hrm, w7, hts _ w2 rfl⟩ ⟨gm_blind, gm_pre (av := .ref b :: As) F R⟩ rfl (by rw [List.length_map]; exact hk) L.1 rfl (gm_sum hs) hd ⟨Nat.le_of_ble_eq_true hn.1, Nat.le_of_ble_eq_true hn.2⟩) R F.2.2.2.2.2.2.2.2.2 (fun r h' H1 locs1 hp R1 => ?_)
  rw [gm_app]
  exact kk r h' hp p e s m args below meth c H1 locs1 ls F R1 L
theorem go_callIN {μ' : gm_M} {idx k b : Nat} {host : String} {As stk : List Value} {Φ' : Option Value → gm_H → Prop} (hd : decode μ.2.1 pc = .ok (.invokespecial idx, 3)) (hw : gm_CIN μ μ' idx k host) (hC : Ct κ μ' (.ref b :: As) h Φ') (hst : stk = As.reverse ++ .ref b :: st) (hk : As.length = k) (hs : Nat.ble ((st.map fun v => v.category).sum) 8 = true) (hn : (Nat.ble (n.1 + μ'.2.2.2.2.cells) μ.2.2.2.2.cells && Nat.ble (n.2 + μ'.2.2.2.2.slots) μ.2.2.2.2.slots) = true)
    (kk : ∀ (r : Option Value) (h' : gm_H), Φ' r h' → Go κ μ (pc + 3) lv (r.toList ++ st) h' (n.1 + μ'.2.2.2.2.cells, n.2 + μ'.2.2.2.2.slots) Φ) : Go κ μ pc lv stk h n Φ := by
  intro p e s m args below meth c H locs ls F R L
  subst hst
  have hts := F.2.2.2.2.2.2.1
  obtain ⟨⟨w1, w2, w4, w5, w6, w7⟩, hnm, hrm⟩ := hw
  have hn := Bool.and_eq_true_iff.mp hn
  rw [gm_rev]
  unfold Ct at hC
  rw [w6] at hC w5
  refine gm_call (va_runIN (b := κ.2.2.2.1 + b) (As := As.map (gm_v κ)) (rest := st.map (gm_v κ)) (n := k) ⟨F.1, F.2.1, F.2.2.1, F.2.2.2.2.2.1, gm_hts F⟩ hC ⟨va_cnB k (gm_hts F) (gm_good w5) rfl rfl rfl (F.2.2.2.2.2.2.2.2.1.2.1 _ w1 rfl) (hts _ w4 rfl) hnm hrm, w7, hts _ w2 rfl⟩ ⟨gm_blind, gm_pre (av := .ref b :: As) F R⟩ rfl (by rw [List.length_map]; exact hk) L.1 rfl (gm_sum hs) hd ⟨Nat.le_of_ble_eq_true hn.1, Nat.le_of_ble_eq_true hn.2⟩) R F.2.2.2.2.2.2.2.2.2 (fun r h' H1 locs1 hp R1 => ?_)
  rw [gm_app]
  exact kk r h' hp p e s m args below meth c H1 locs1 ls F R1 L
end GN
