/-! THE SMALL MACHINE: a method's world is one list of cells, new ones at its end; cell p lies at the address z + p. A reference '.ref p' names a place of the list; '.retAddr k' names an old cell (a text, the script) at the address sa k. Go: from this pc, with these locals, stack and cells, the method ends with Phi of its answer and its cells. Ct: the method's contract. -/
abbrev gm_E : Type := (Nat × Nat × (Nat → Int32)) ⊕ (Nat × List Value)
abbrev gm_H : Type := List gm_E
/-- launch, the classes' numbers, the array classes, z, sa, what is known of the old cells -/
abbrev gm_K : Type := Launch × va_G × (Nat → ClassId) × Nat × (Nat → Nat) × (State → Prop)
/-- name, bytes, locals, answer's type, room -/
abbrev gm_M : Type := MethodName × ByteArray × Nat × Option FieldType × Room
def gm_ty : Nat → FieldType := fun t => match t with
  | 0 => .int
  | 1 => .byte
  | 2 => .char
  | _ => .boolean
def gm_tys (κ : gm_K) : List (ClassId × FieldType) := [(κ.2.2.1 0, .int), (κ.2.2.1 1, .byte), (κ.2.2.1 2, .char), (κ.2.2.1 3, .boolean)]
def gm_v (κ : gm_K) : Value → Value
  | .ref p => .ref (κ.2.2.2.1 + p)
  | .retAddr k => .ref (κ.2.2.2.2.1 k)
  | .int x => .int x
  | .long x => .long x
  | .float x => .float x
  | .double x => .double x
  | .null => .null
def gm_e (κ : gm_K) : gm_E → va_E
  | .inl a => .inl (κ.2.2.1 a.1, a.2.1, .inl a.2.2)
  | .inr o => .inr (o.1, o.2.map (gm_v κ))
def gm_w (κ : gm_K) (h : gm_H) : va_W := h.mapIdx (fun k e => (κ.2.2.2.1 + k, gm_e κ e))
theorem gm_w_get {κ : gm_K} {h : gm_H} {p : Nat} {e : gm_E} (hp : h[p]? = some e) : (gm_w κ h)[p]? = some (κ.2.2.2.1 + p, gm_e κ e) := by
  simp [gm_w, List.getElem?_mapIdx, hp]
theorem gm_w_set (κ : gm_K) (h : gm_H) (p : Nat) (e : gm_E) : (gm_w κ h).set p (κ.2.2.2.1 + p, gm_e κ e) = gm_w κ (h.set p e) := by
  simp [gm_w, List.mapIdx_set]
theorem gm_w_push (κ : gm_K) (h : gm_H) (e : gm_E) : gm_w κ h ++ [(κ.2.2.2.1 + h.length, gm_e κ e)] = gm_w κ (h ++ [e]) := by
  simp [gm_w, List.mapIdx_append]
theorem gm_w_D (κ : gm_K) (h : gm_H) : va_D (fun q => κ.2.2.2.1 ≤ q) (gm_w κ h) := by
  have key : ∀ (i : Nat) (q : Nat × va_E), (gm_w κ h)[i]? = some q → q.1 = κ.2.2.2.1 + i := by
    intro i q hi
    simp only [gm_w, List.getElem?_mapIdx, Option.map_eq_some_iff] at hi
    obtain ⟨e, -, rfl⟩ := hi
    rfl
  refine ⟨fun i j x y hi hj hxy => ?_, fun k q hk => ?_⟩
  · have h1 := key i x hi
    have h2 := key j y hj
    omega
  · have h1 := key k q hk
    show κ.2.2.2.1 ≤ q.1
    omega
def gm_nest : Cond → Bool
  | .methodLinkNest .. => true
  | _ => false
/-- what holds of the tables and of the old cells, in every state -/
def gm_O (κ : gm_K) (U : State) : Prop := va_K κ.2.1 vwCl (gm_tys κ) U ∧ (∀ w ∈ lw_tbl, gm_nest w = true → va_Nw w U) ∧ κ.2.2.2.2.2 U ∧ ∀ (s t : State), s.WarmedH t.vm → (∀ q, q < κ.2.2.2.1 → t.heap[q]? = s.heap[q]?) → κ.2.2.2.2.2 s → κ.2.2.2.2.2 t
theorem gm_O.warm {κ : gm_K} {s U : State} (hW : s.WarmedH U.vm) (hq : ∀ q, q < κ.2.2.2.1 → U.heap[q]? = s.heap[q]?) (h : gm_O κ s) : gm_O κ U := by
  obtain ⟨h1, h2, h3, h4⟩ := h
  refine ⟨va_K.moved hW.alike h1, fun w hw hn => ?_, h4 s U hW hq h3, h4⟩
  have h5 := h2 w hw hn
  cases w <;> first | exact va_Nw.warmM hW h5 | (simp [gm_nest] at hn)
def gm_P (κ : gm_K) (h : gm_H) (H : Heap) : Prop := H.size = κ.2.2.2.1 + h.length ∧ va_P κ.2.1 vwCl (gm_w κ h) H
def gm_F (κ : gm_K) (μ : gm_M) (p : Program) (s : State) (m : MethodId) (args : Array Value) (meth : Method) (c : Code) : Prop :=
  p.tables.exec = Jvm.exec ∧ c.code = μ.2.1 ∧ c.maxLocals = μ.2.2.1 ∧ meth.sig.returnType = μ.2.2.2.1 ∧ meth.locks = false ∧ s.vm.findClass μ.1.cls = some m.cls ∧ (∀ w ∈ lw_tbl, goodWord w = true → w.before args s = true) ∧ meth.name = μ.1.name ∧ gm_O κ s ∧ κ.2.2.2.1 ≤ s.heap.size
def gm_R (κ : gm_K) (h : gm_H) (s : State) (H : Heap) (locs : List Loc) : Prop := gm_P κ h H ∧ va_S (fun q => κ.2.2.2.1 ≤ q) s.heap H locs
def gm_L (κ : gm_K) (n : Nat) (lv : List (Option Value)) (ls : Array Slot) : Prop := ls.size = n ∧ lv_wf ls ∧ lv.length = n ∧ ∀ (i : Nat) (v : Value), lv[i]? = some (some v) → ls[i]? = some (.val (gm_v κ v))
def gm_Q (κ : gm_K) (Φ : Option Value → gm_H → Prop) : Array Value → State → Outcome → State → Prop := fun _ st o t =>
  (∃ (r : Option Value) (h : gm_H), o = .returned (r.map (gm_v κ)) ∧ Φ r h ∧ gm_P κ h t.heap) ∧ (∀ q, q < κ.2.2.2.1 → t.heap[q]? = st.heap[q]?) ∧ st.heap.size ≤ t.heap.size
def Go (κ : gm_K) (μ : gm_M) (pc : Nat) (lv : List (Option Value)) (st : List Value) (h : gm_H) (n : Nat × Nat) (Φ : Option Value → gm_H → Prop) : Prop :=
  ∀ (p : Program) (e : Env) (s : State) (m : MethodId) (args : Array Value) (below : List Frame) (meth : Method) (c : Code) (H : Heap) (locs : List Loc) (ls : Array Slot), gm_F κ μ p s m args meth c → gm_R κ h s H locs → gm_L κ μ.2.2.1 lv ls →
    W p κ.1 e μ.2.2.2.2 s m args below meth c H locs n.1 n.2 (MQ below (gm_Q κ Φ) args s μ.2.2.2.2.cells μ.2.2.2.2.slots (fun q => κ.2.2.2.1 ≤ q)) (F0 m pc ls (st.map (gm_v κ)))
def lw_gd : List Cond := lw_tbl.filter goodWord
def Ct (κ : gm_K) (μ : gm_M) (av : List Value) (h : gm_H) (Φ : Option Value → gm_H → Prop) : Prop :=
  Met κ.1 μ.1 (.code μ.1 μ.2.1 μ.2.2.1 μ.2.2.2.1 :: lw_gd) μ.2.2.2.2 (fun a U => a = (av.map (gm_v κ)).toArray ∧ gm_P κ h U.heap ∧ gm_O κ U) (gm_Q κ Φ) μ.2.2.2.2.cells μ.2.2.2.2.slots (fun q => κ.2.2.2.1 ≤ q)
theorem gm_mono {κ : gm_K} {Φ Ψ : Option Value → gm_H → Prop} (h : ∀ r g, Φ r g → Ψ r g) {a : Array Value} {s : State} {o : Outcome} {t : State} (k : gm_Q κ Φ a s o t) : gm_Q κ Ψ a s o t := by
  obtain ⟨⟨r, g, h1, h2, h3⟩, h4⟩ := k
  exact ⟨⟨r, g, h1, h _ _ h2, h3⟩, h4⟩
theorem go_mono {κ : gm_K} {μ : gm_M} {pc : Nat} {lv : List (Option Value)} {st : List Value} {h : gm_H} {n : Nat × Nat} {Φ Ψ : Option Value → gm_H → Prop} (hh : ∀ r g, Φ r g → Ψ r g) (k : Go κ μ pc lv st h n Φ) : Go κ μ pc lv st h n Ψ := by
  intro p e s m args below meth c H locs ls F R L T hT X
  obtain ⟨t, a, o, b1, b2, b3, b4⟩ := k p e s m args below meth c H locs ls F R L T hT X
  exact ⟨t, a, o, b1, b2, gm_mono hh b3, b4⟩
/-! the locals -/
theorem gm_L.has {κ : gm_K} {n : Nat} {lv : List (Option Value)} {ls : Array Slot} (h : gm_L κ n lv ls) {i : Nat} {v : Value} (hv : lv[i]? = some (some v)) : ls[i]? = some (.val (gm_v κ v)) := h.2.2.2 i v hv
theorem gm_cat (κ : gm_K) (v : Value) : (gm_v κ v).category = v.category := by cases v <;> rfl
def gm_as (κ : gm_K) (lv : List (Option Value)) : List (Nat × Value) := (lv.mapIdx (fun i o => o.map (fun v => (i, gm_v κ v)))).filterMap id
theorem gm_as_mem {κ : gm_K} {lv : List (Option Value)} {i : Nat} {v : Value} (h : lv[i]? = some (some v)) : (i, gm_v κ v) ∈ gm_as κ lv := by
  unfold gm_as
  rw [List.mem_filterMap]
  refine ⟨some (i, gm_v κ v), ?_, rfl⟩
  have : (lv.mapIdx (fun i o => o.map (fun v => (i, gm_v κ v))))[i]? = some (some (i, gm_v κ v)) := by
    simp [List.getElem?_mapIdx, h]
  exact List.mem_of_getElem? this
theorem gm_as_of {κ : gm_K} {lv : List (Option Value)} {q : Nat × Value} (h : q ∈ gm_as κ lv) : ∃ v, lv[q.1]? = some (some v) ∧ q.2 = gm_v κ v := by
  unfold gm_as at h
  rw [List.mem_filterMap] at h
  obtain ⟨o, h1, h2⟩ := h
  obtain ⟨i, hi⟩ := List.getElem?_of_mem h1
  simp only [List.getElem?_mapIdx, Option.map_eq_some_iff] at hi
  obtain ⟨o', h3, h4⟩ := hi
  simp only [id] at h2
  subst h2
  rw [Option.map_eq_some_iff] at h4
  obtain ⟨v, h5, h6⟩ := h4
  subst h6
  subst h5
  exact ⟨v, h3, rfl⟩
theorem gm_L.lv {κ : gm_K} {n : Nat} {lv : List (Option Value)} {ls : Array Slot} (h : gm_L κ n lv ls) : lv_has ls n (gm_as κ lv) := by
  refine ⟨h.1, h.2.1, fun q hq => ?_⟩
  obtain ⟨v, h1, h2⟩ := gm_as_of hq
  rw [h2]
  exact h.2.2.2 _ _ h1
theorem gm_L.st {κ : gm_K} {n : Nat} {lv : List (Option Value)} {ls' : Array Slot} {i : Nat} {v : Value} (hn : lv.length = n) (hc : ∀ w, lv[i - 1]? = some (some w) → w.category = 1)
    (h : lv_has ls' n ((i, gm_v κ v) :: (gm_as κ lv).filter (fun q => !(q.1 == i) && !(q.1 + 1 == i && q.2.category == 2)))) : gm_L κ n (lv.set i (some v)) ls' := by
  refine ⟨h.1, h.2.1, by simp [hn], fun j w hj => ?_⟩
  by_cases hji : j = i
  · subst hji
    rw [List.getElem?_set_self' ] at hj
    cases hl : lv[j]? with
    | none => rw [hl] at hj; simp at hj
    | some o =>
      rw [hl] at hj
      simp at hj
      subst hj
      exact h.2.2 (j, gm_v κ v) List.mem_cons_self
  · rw [List.getElem?_set_ne (Ne.symm hji)] at hj
    refine h.2.2 (j, gm_v κ w) (List.mem_cons_of_mem _ (List.mem_filter.mpr ⟨gm_as_mem hj, ?_⟩))
    simp only [Bool.and_eq_true, Bool.not_eq_true', beq_eq_false_iff_ne, ne_eq, Bool.and_eq_false_iff]
    refine ⟨hji, ?_⟩
    by_cases h1 : j + 1 = i
    · refine Or.inr ?_
      have h2 := hc w (by rw [show i - 1 = j by omega]; exact hj)
      rw [gm_cat, h2]
      decide
    · exact Or.inl h1
def gm_l0 : List Value → List (Option Value)
  | [] => []
  | v :: vs => if v.category = 2 then some v :: none :: gm_l0 vs else some v :: gm_l0 vs
def gm_l1 (vs : List Value) (n : Nat) : List (Option Value) := gm_l0 vs ++ List.replicate (n - (gm_l0 vs).length) none
theorem gm_l0_len (κ : gm_K) (vs : List Value) : (lg_sl (vs.map (gm_v κ))).length = (gm_l0 vs).length := by
  induction vs with
  | nil => rfl
  | cons v vs ih =>
    have e : lg_sl ((v :: vs).map (gm_v κ)) = (if (gm_v κ v).category = 2 then [.val (gm_v κ v), .second] else [.val (gm_v κ v)]) ++ lg_sl (vs.map (gm_v κ)) := by
      simp only [lg_sl, List.map_cons, List.flatMap_cons]
    rw [e, List.length_append, ih, gm_cat, show gm_l0 (v :: vs) = if v.category = 2 then some v :: none :: gm_l0 vs else some v :: gm_l0 vs from rfl]
    by_cases hc : v.category = 2
    · rw [if_pos hc, if_pos hc]; simp; omega
    · rw [if_neg hc, if_neg hc]; simp; omega
theorem gm_l0_args (κ : gm_K) (vs : List Value) : ∀ (j i : Nat) (v : Value), (gm_l0 vs)[i]? = some (some v) → (j + i, gm_v κ v) ∈ lv_args j (vs.map (gm_v κ)) := by
  induction vs with
  | nil => intro j i v h; simp [gm_l0] at h
  | cons w vs ih =>
    intro j i v h
    show _ ∈ lv_args j (gm_v κ w :: vs.map (gm_v κ))
    unfold lv_args
    unfold gm_l0 at h
    rw [gm_cat]
    by_cases hc : w.category = 2
    · rw [if_pos hc] at h ⊢
      match i, h with
      | 0, h => simp at h; subst h; exact List.mem_cons_self
      | 1, h => simp at h
      | i + 2, h =>
        refine List.mem_cons_of_mem _ ?_
        have := ih (j + 2) i v (by simpa using h)
        rw [show j + (i + 2) = j + 2 + i by omega]
        exact this
    · rw [if_neg hc] at h ⊢
      match i, h with
      | 0, h => simp at h; subst h; exact List.mem_cons_self
      | i + 1, h =>
        refine List.mem_cons_of_mem _ ?_
        have := ih (j + 1) i v (by simpa using h)
        rw [show j + (i + 1) = j + 1 + i by omega]
        exact this
/-- a method's contract, from its first instruction -/
theorem go_start {κ : gm_K} {μ : gm_M} {av : List Value} {h : gm_H} {Φ : Option Value → gm_H → Prop} (hy : plainName μ.1.cls = true) (hl : (gm_l0 av).length ≤ μ.2.2.1)
    (k : Go κ μ 0 (gm_l1 av μ.2.2.1) [] h (0, 0) Φ) (hz : ∀ U : State, gm_P κ h U.heap → κ.2.2.2.1 ≤ U.heap.size := fun U hU => by rw [hU.1]; exact Nat.le_add_right _ _) : Ct κ μ av h Φ := by
  refine Met.ofW (cc := μ.2.1) (maxL := μ.2.2.1) (ret := μ.2.2.2.1) hy rfl ?_
  intro p e s m args below meth c s₁ B hml hv
  obtain ⟨rfl, hP, hO⟩ := hv
  have hts := atoms_spec (ws := .code μ.1 μ.2.1 μ.2.2.1 μ.2.2.2.1 :: lw_gd) B.pre
  have hl' : (lg_sl (av.map (gm_v κ))).length ≤ μ.2.2.1 := by rw [gm_l0_len]; exact hl
  have hlv := lv_entry (av.map (gm_v κ)) (n := μ.2.2.1) hl'
  rw [lg_entry_eq]
  refine k p e s m _ below meth c s.heap [] _ ⟨B.exec, B.bytes, hml, B.returns, B.notSynchronized, findClass_of_methodNamed B.named, fun w hw hg => hts w (List.mem_cons_of_mem _ (List.mem_filter.mpr ⟨hw, hg⟩)), (name_of_methodNamed B.named B.method).1, hO, hz s hP⟩ ⟨hP, va_S.rf⟩ ?_
  refine ⟨hlv.1, hlv.2.1, by simp [gm_l1]; omega, fun i v hi => ?_⟩
  unfold gm_l1 at hi
  by_cases hc : i < (gm_l0 av).length
  · rw [List.getElem?_append_left hc] at hi
    have := gm_l0_args κ av 0 i v hi
    rw [Nat.zero_add] at this
    exact hlv.2.2 _ this
  · rw [List.getElem?_append_right (by omega)] at hi
    have := List.eq_of_mem_replicate (List.mem_of_getElem? hi)
    cases this
