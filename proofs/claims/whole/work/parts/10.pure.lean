/-! sums, sets and tests that both sides are told by -/
def sm (f : Nat → Int32) : Nat → Int32
  | 0 => nI 0
  | k + 1 => sm f k + f k
def om (f : Nat → Bool) : Nat → Int32
  | 0 => nI 0
  | k + 1 => if f k then om f k ||| (nI 1 <<< (nI k &&& 31)) else om f k
/-- the bit i of x, as the code asks for it -/
def bv (x : Int32) (i : Nat) : Int32 := (x >>> (nI i &&& 31)) &&& nI 1
def po (s e : Int32) : Int32 := if e ≤ 0 then nI 0 else (s + e - nI 1) / e
def hs (n c : Int32) : Bool := !decide (c < 0) && !decide (n ≤ c)
theorem hs_ix {n : Nat} {c : Int32} (hn : n < 2 ^ 31) (h : hs (nI n) c = true) : ∃ j, j < n ∧ c = nI j := by
  simp only [hs, Bool.and_eq_true, Bool.not_eq_true', decide_eq_false_iff_not] at h
  rcases pk_ix c hn with h1 | h1 | h1
  · exact absurd h1 h.1
  · exact absurd h1 h.2
  · exact h1
theorem hs_in {n : Nat} {c : Int32} {len : Nat} (hn : n ≤ len) (hl : len < 2 ^ 31) (h : hs (nI n) c = true) : vp_in c len := by
  obtain ⟨j, hj, rfl⟩ := hs_ix (by omega) h
  exact vp_in_nI (by omega) hl
theorem hs_nI {n j : Nat} (hn : n < 2 ^ 31) (hj : j < n) : hs (nI n) (nI j) = true := by
  simp only [hs, Bool.and_eq_true, Bool.not_eq_true', decide_eq_false_iff_not]
  exact ⟨nI_pos (by omega), nI_ge hj hn⟩
theorem sm_congr {f g : Nat → Int32} {n : Nat} (h : ∀ i, i < n → f i = g i) : sm f n = sm g n := by
  induction n with
  | zero => rfl
  | succ n ih => rw [sm, sm, ih (fun i hi => h i (by omega)), h n (by omega)]
theorem om_congr {f g : Nat → Bool} {n : Nat} (h : ∀ i, i < n → f i = g i) : om f n = om g n := by
  induction n with
  | zero => rfl
  | succ n ih => rw [om, om, ih (fun i hi => h i (by omega)), h n (by omega)]
section GSI
variable {κ : gm_K} {μ : gm_M} {pc : Nat} {lv : List (Option Value)} {st : List Value} {g : wg_G} {σ : wg_S} {n : Nat × Nat} {Φ : Option Value → gm_H → Prop}
theorem gs_ialdI {p len : Nat} {i : Int32} (hd : decode μ.2.1 pc = .ok (.iaload, 1)) (hg : g[p]? = some (.inr (0, len))) (hi : vp_in i len) {v : Int32} (hv : σ p i.toNatClampNeg = v) (kk : Go κ μ (pc + 1) lv (.int v :: st) (wd g σ) n Φ) : Go κ μ pc lv (.int i :: .ref p :: st) (wd g σ) n Φ := by
  subst hv
  exact go_iald hd (wd_a hg) hi kk
theorem gs_zaldI {p len : Nat} {i : Int32} (hd : decode μ.2.1 pc = .ok (.baload, 1)) (hg : g[p]? = some (.inr (3, len))) (hi : vp_in i len) {v : Int32} (hv : σ p i.toNatClampNeg = v) (kk : Go κ μ (pc + 1) lv (.int v :: st) (wd g σ) n Φ) : Go κ μ pc lv (.int i :: .ref p :: st) (wd g σ) n Φ := by
  subst hv
  exact go_zald hd (wd_a hg) hi kk
end GSI
/-- the same of a class that has members of the machine's own -/
theorem go_startF {κ : gm_K} {μ : gm_M} {av : List Value} {h : gm_H} {Φ : Option Value → gm_H → Prop} (hy : plainFor μ.1 = true) (hl : (gm_l0 av).length ≤ μ.2.2.1)
    (k : Go κ μ 0 (gm_l1 av μ.2.2.1) [] h (0, 0) Φ) (hz : ∀ U : State, gm_P κ h U.heap → κ.2.2.2.1 ≤ U.heap.size := fun U hU => by rw [hU.1]; exact Nat.le_add_right _ _) : Ct κ μ av h Φ := by
  refine va_MetF (cc := μ.2.1) (maxL := μ.2.2.1) (ret := μ.2.2.2.1) hy rfl ?_
  intro p e s m args below meth c s₁ B hml hv
  obtain ⟨rfl, hP, hO⟩ := hv
  have hts := atoms_spec (ws := .code μ.1 μ.2.1 μ.2.2.1 μ.2.2.2.1 :: lw_gd) B.pre
  have hl' : (lg_sl (av.map (gm_v κ))).length ≤ μ.2.2.1 := by rw [gm_l0_len]; exact hl
  have hlv := lv_entry (av.map (gm_v κ)) (n := μ.2.2.1) hl'
  rw [lg_entry_eq]
  refine k p e s m _ below meth c s.heap [] _ ⟨B.exec, B.bytes, hml, B.returns, B.notSynchronized, findClass_of_methodNamed B.named, fun w hw hg => hts w (List.mem_cons_of_mem _ (List.mem_filter.mpr ⟨hw, hg⟩)), (name_of_methodNamed B.named B.method).1, hO, hz s hP⟩ ⟨hP, va_S.rf⟩ ?_
  refine ⟨hlv.1, hlv.2.1, by simp [gm_l1]; omega, fun i v hi => ?_⟩
  unfold gm_l1 at hi
  by_cases hc : i < (gm_l0 av).length
  · rw [List.getElem?_append_left hc] at hi
    have := gm_l0_args κ av 0 i v hi
    rw [Nat.zero_add] at this
    exact hlv.2.2 _ this
  · rw [List.getElem?_append_right (by omega)] at hi
    have := List.eq_of_mem_replicate (List.mem_of_getElem? hi)
    cases this
theorem go_lv {κ : gm_K} {μ : gm_M} {pc : Nat} {lv lv' : List (Option Value)} {st : List Value} {h : gm_H} {n : Nat × Nat} {Φ : Option Value → gm_H → Prop} (hl : lv = lv') (k : Go κ μ pc lv' st h n Φ) : Go κ μ pc lv st h n Φ := hl ▸ k
theorem go_lvh {κ : gm_K} {μ : gm_M} {pc : Nat} {lv lv' : List (Option Value)} {st : List Value} {h h' : gm_H} {n : Nat × Nat} {Φ : Option Value → gm_H → Prop} (hl : lv = lv') (hh : h = h') (k : Go κ μ pc lv' st h' n Φ) : Go κ μ pc lv st h n Φ := hl ▸ hh ▸ k
theorem go_iincI {κ : gm_K} {μ : gm_M} {pc : Nat} {lv : List (Option Value)} {st : List Value} {h : gm_H} {n : Nat × Nat} {Φ : Option Value → gm_H → Prop} {i : Nat} {d : Int} {x : Int32} (w : Int32) (hd : decode μ.2.1 pc = .ok (.iinc i d, 3)) (he : Int32.ofInt d = w) (hv : lv[i]? = some (some (.int x))) (hi : Nat.ble (i + 1) lv.length = true) (hc : (match lv[i - 1]? with | some (some w) => w.category == 1 | _ => true) = true) {lv' : List (Option Value)} (hl' : lv.set i (some (.int (x + w))) = lv') (k : Go κ μ (pc + 3) lv' st h n Φ) : Go κ μ pc lv st h n Φ :=
  go_iinc hd hv (by rw [he]) hi hc hl' k
def orf (f : Nat → Int32) : Nat → Int32
  | 0 => nI 0
  | k + 1 => orf f k ||| f k
def oI : Option Nat → Int32
  | none => -1
  | some t => nI t
theorem oI_n : oI none = -1 := rfl
theorem oI_s (t : Nat) : oI (some t) = nI t := rfl
theorem nI_m1 {t : Nat} (ht : t < 2 ^ 31) : ¬ nI t = -1 := by
  intro h
  have h1 := nI_pos ht
  rw [h] at h1
  exact h1 (by decide)
theorem mx0 (x : Int32) : (if nI 0 < x then x else nI 0) = if (0 : Int32) < x then x else 0 := rfl
/-- the first list tells no more than the second -/
def lvle : List (Option Value) → List (Option Value) → Prop
  | [], [] => True
  | none :: a, _ :: b => lvle a b
  | some v :: a, w :: b => w = some v ∧ lvle a b
  | _, _ => False
theorem lvle_get : ∀ {a b : List (Option Value)}, lvle a b → a.length = b.length ∧ ∀ (i : Nat) (v : Value), a[i]? = some (some v) → b[i]? = some (some v)
  | [], [], _ => ⟨rfl, fun i v h => by simp at h⟩
  | [], _ :: _, h => by simp [lvle] at h
  | none :: a, [], h => by simp [lvle] at h
  | some v :: a, [], h => by simp [lvle] at h
  | none :: a, w :: b, h => by
    obtain ⟨h1, h2⟩ := lvle_get (a := a) (b := b) h
    refine ⟨by simp [h1], fun i v hi => ?_⟩
    cases i with
    | zero => simp at hi
    | succ i => simpa using h2 i v (by simpa using hi)
  | some x :: a, w :: b, h => by
    obtain ⟨hw, h⟩ := h
    obtain ⟨h1, h2⟩ := lvle_get (a := a) (b := b) h
    refine ⟨by simp [h1], fun i v hi => ?_⟩
    cases i with
    | zero => simp at hi; simp [hw, hi]
    | succ i => simpa using h2 i v (by simpa using hi)
theorem go_wk {κ : gm_K} {μ : gm_M} {pc : Nat} {lv lv' : List (Option Value)} {st : List Value} {h : gm_H} {n : Nat × Nat} {Φ : Option Value → gm_H → Prop} (hl : lvle lv' lv) (k : Go κ μ pc lv' st h n Φ) : Go κ μ pc lv st h n Φ := by
  intro p e s m args below meth c H locs ls F R L
  obtain ⟨h1, h2⟩ := lvle_get hl
  exact k p e s m args below meth c H locs ls F R ⟨L.1, L.2.1, h1.trans L.2.2.1, fun i v hi => L.2.2.2 i v (h2 i v hi)⟩
theorem go_wkh {κ : gm_K} {μ : gm_M} {pc : Nat} {lv lv' : List (Option Value)} {st : List Value} {h h' : gm_H} {n : Nat × Nat} {Φ : Option Value → gm_H → Prop} (hl : lvle lv' lv) (hh : h = h') (k : Go κ μ pc lv' st h' n Φ) : Go κ μ pc lv st h n Φ := hh ▸ go_wk hl k
def alb (f : Nat → Bool) : Nat → Bool
  | 0 => true
  | k + 1 => alb f k && f k
theorem alb_iff {f : Nat → Bool} {n : Nat} : alb f n = true ↔ ∀ i, i < n → f i = true := by
  induction n with
  | zero => simp [alb]
  | succ n ih =>
    simp only [alb, Bool.and_eq_true, ih]
    constructor
    · rintro ⟨h1, h2⟩ i hi
      by_cases e : i = n
      · rw [e]; exact h2
      · exact h1 i (by omega)
    · intro h
      exact ⟨fun i hi => h i (by omega), h n (by omega)⟩
theorem alb_not {f : Nat → Bool} {n i : Nat} (hi : i < n) (h : f i = false) : alb f n = false := by
  cases e : alb f n with
  | false => rfl
  | true => rw [alb_iff.mp e i hi] at h; cases h
theorem alb_congr {f g : Nat → Bool} {n : Nat} (h : ∀ i, i < n → f i = g i) : alb f n = alb g n := by
  induction n with
  | zero => rfl
  | succ n ih => rw [alb, alb, ih (fun i hi => h i (by omega)), h n (by omega)]
theorem us_us {σ : wg_S} {p k : Nat} {v w : Int32} : us (us σ p k v) p k w = us σ p k w := by
  funext p' k'
  by_cases h1 : p' = p
  · subst h1
    by_cases h2 : k' = k
    · subst h2; rw [us_s, us_s]
    · rw [us_k h2, us_k h2, us_k h2]
  · rw [us_p h1, us_p h1, us_p h1]
theorem us_cm {σ : wg_S} {p k p' k' : Nat} {v w : Int32} (h : p ≠ p' ∨ k ≠ k') : us (us σ p k v) p' k' w = us (us σ p' k' w) p k v := by
  funext x y
  by_cases h1 : x = p <;> by_cases h2 : x = p'
  · subst h1; subst h2
    have h3 : k ≠ k' := h.resolve_left (fun z => z rfl)
    by_cases a1 : y = k <;> by_cases a2 : y = k'
    · subst a1; exact absurd a2 h3
    · subst a1; rw [us_k a2, us_s, us_s]
    · subst a2; rw [us_s, us_k a1, us_s]
    · rw [us_k a2, us_k a1, us_k a1, us_k a2]
  · subst h1; rw [us_p h2, us_e, us_e, us_p h2]
  · subst h2; rw [us_e, us_p h1, us_p h1, us_e]
  · rw [us_p h2, us_p h1, us_p h1, us_p h2]
theorem us_id {σ : wg_S} {p k : Nat} {v : Int32} (h : σ p k = v) : us σ p k v = σ := by
  funext x y
  by_cases h1 : x = p
  · subst h1
    by_cases h2 : y = k
    · subst h2; rw [us_s, h]
    · rw [us_k h2]
  · rw [us_p h1]
