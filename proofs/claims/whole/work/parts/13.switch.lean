theorem sw_out {x : Int32} {hi : Nat} (hh : hi < 1000) (h : ∀ k, k ≤ hi → ¬ x = nI k) : x.toInt < 0 ∨ (hi : Int) < x.toInt := by
  rcases pk_ix x (n := hi + 1) (by omega) with h1 | h1 | ⟨j, h1, h2⟩
  · left
    have := Int32.lt_iff_toInt_lt.mp h1
    simpa using this
  · right
    have := Int32.le_iff_toInt_le.mp h1
    rw [nI_toInt (by omega)] at this
    omega
  · exact absurd h2 (h j (by omega))
theorem go_tsw {κ : gm_K} {μ : gm_M} {pc : Nat} {lv : List (Option Value)} {st : List Value} {h : gm_H} {n : Nat × Nat} {Φ : Option Value → gm_H → Prop} {dflt : Int} {offs : Array Int} {len : Nat} {x : Int32} (hi : Nat) (tg : List Nat) (td : Nat) (hd : decode μ.2.1 pc = .ok (.tableswitch dflt 0 (hi : Int) offs, len)) (hh : hi < 1000 ∧ (pc : Int) + dflt = (td : Int)) (ho : ∀ k, k < hi + 1 → (offs[k]?).map (fun o => (pc : Int) + o) = some ((tg.getD k 0 : Nat) : Int))
    (kd : (∀ k, k ≤ hi → ¬ x = nI k) → Go κ μ td lv st h n Φ) (kk : ∀ k, k ≤ hi → x = nI k → Go κ μ (tg.getD k 0) lv st h n Φ) : Go κ μ pc lv (.int x :: st) h n Φ := by
  by_cases hx : ∃ k, k ≤ hi ∧ x = nI k
  · obtain ⟨k, hk, e⟩ := hx
    have h1 := ho k (by omega)
    obtain ⟨o, h2, h3⟩ := Option.map_eq_some_iff.mp h1
    have e1 : x.toInt = (k : Int) := by rw [e]; exact nI_toInt (by omega)
    refine go_tableIn (tg.getD k 0) hd (by rw [e1]; omega) (by rw [e1]; omega) (off := o) ?_ h3 (kk k hk e)
    rw [e1, show ((k : Int) - 0).toNat = k by omega]
    exact h2
  · have hn : ∀ k, k ≤ hi → ¬ x = nI k := fun k hk e => hx ⟨k, hk, e⟩
    exact go_tableOut td hd (sw_out hh.1 hn) hh.2 (kd hn)
theorem go_lsw {κ : gm_K} {μ : gm_M} {pc : Nat} {lv : List (Option Value)} {st : List Value} {h : gm_H} {n : Nat × Nat} {Φ : Option Value → gm_H → Prop} {dflt : Int} {ps : Array (Int × Int)} {len : Nat} {x : Int32} (tg : List (Nat × Nat)) (td : Nat) (hd : decode μ.2.1 pc = .ok (.lookupswitch dflt ps, len)) (hp : (ps.toList.zip (ps.toList.drop 1)).all (fun (a, next) => a.1 < next.1) = true) (ht : ∀ q ∈ tg, q.1 < 1000 ∧ (pc : Int) + Op.lookupswitch.offset ps.toList dflt (q.1 : Int) = (q.2 : Int)) (hf : (pc : Int) + dflt = (td : Int) ∧ ∀ q ∈ ps.toList, ∃ r ∈ tg, q.1 = (r.1 : Int))
    (kd : (∀ q ∈ tg, ¬ x = nI q.1) → Go κ μ td lv st h n Φ) (kk : ∀ k t, (k, t) ∈ tg → x = nI k → Go κ μ t lv st h n Φ) : Go κ μ pc lv (.int x :: st) h n Φ := by
  by_cases hx : ∃ q ∈ tg, x = nI q.1
  · obtain ⟨⟨k, t⟩, hq, e⟩ := hx
    have h1 := ht _ hq
    have e1 : x.toInt = (k : Int) := by rw [e]; exact nI_toInt (by have := h1.1; omega)
    refine go_lookup t hd hp (off := Op.lookupswitch.offset ps.toList dflt (k : Int)) (by rw [e1]) h1.2 (kk k t hq e)
  · have hn : ∀ q ∈ tg, ¬ x = nI q.1 := fun q hq e => hx ⟨q, hq, e⟩
    refine go_lookup td hd hp (off := dflt) ?_ hf.1 (kd hn)
    have key : ∀ q ∈ ps.toList, ¬ q.1 = x.toInt := by
      intro q hq e
      obtain ⟨r, hr, e2⟩ := hf.2 q hq
      apply hn r hr
      have := (ht r hr).1
      apply Int32.toInt_inj.mp
      rw [nI_toInt (by omega), ← e, e2]
    generalize ps.toList = l at key
    induction l with
    | nil => rfl
    | cons a l ih =>
      have h1 := key a List.mem_cons_self
      have h2 := ih (fun q hq => key q (List.mem_cons_of_mem _ hq))
      simp [Op.lookupswitch.offset, h1] at h2 ⊢
      first | exact h2 | simp [h1, h2] | skip
