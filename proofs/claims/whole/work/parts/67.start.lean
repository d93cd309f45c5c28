/-! THE START: the relation behind both constructors -/
theorem orf_0 {f : Nat → Int32} : ∀ {n : Nat}, (∀ k, k < n → f k = 0) → orf f n = 0
  | 0, _ => rfl
  | n + 1, h => by rw [orf, orf_0 (fun k hk => h k (by omega)), h n (by omega)]; rfl
theorem fil_i {len i k : Nat} {v : Int32} {f : Nat → Int32} (h : k < i) : fil len v f i k = v := if_pos h
theorem z_0 : zS s_0 := by
  refine ⟨0, 0, 0, 0, 0, 0, [], ⟨⟨rfl, rfl, by omega⟩, fun c hc => absurd hc (by omega), fun c hc => absurd hc (by omega), fun c hc => absurd hc (by omega), fun c hc => absurd hc (by omega), fun c hc => absurd hc (by omega), ⟨fun c hc => absurd hc (by omega), fun c _ => rfl⟩, fun c hc => absurd hc (by omega), fun c hc => absurd hc (by omega), fun c hc => absurd hc (by omega), rfl, 0, by omega, rfl⟩,
    ⟨⟨rfl, rfl, by omega⟩, fun c hc => absurd hc (by omega), fun c hc => absurd hc (by omega), fun c hc => absurd hc (by omega), fun c hc => absurd hc (by omega)⟩,
    ⟨⟨rfl, rfl, by omega⟩, fun c hc => absurd hc (by omega), fun i hi c hc => ⟨0, by omega, rfl, ?_, fun _ => rfl⟩⟩, ⟨⟨rfl, rfl, by omega⟩, fun c hc => absurd hc (by omega)⟩, ⟨⟨rfl, rfl, by omega⟩, fun c hc => absurd hc (by omega)⟩,
    ⟨⟨rfl, rfl, 20, by omega, rfl⟩, fun c hc => absurd hc (by omega), fun c hc => absurd hc (by omega), fun c _ hc => ⟨show fil 16 (-1) (fun _ => 0) 16 c = -1 from fil_i hc, show fil 16 (-1) (fun _ => 0) 16 c = -1 from fil_i hc⟩⟩, ⟨⟨rfl, rfl, by omega⟩, fun c hc => absurd hc (by omega)⟩,
    ⟨fun k hk => ⟨?_, rfl, 0, by omega, rfl⟩, fun s hs => ?_⟩, ⟨fun c _ => rfl, fun c hc => absurd hc (by omega), fun c _ hc => show fil 16 (-1) (fun _ => 0) 16 c = -1 from fil_i hc⟩, ⟨rfl, List.nodup_nil, fun c hc => absurd hc List.not_mem_nil, rfl, fun k hk => absurd hk (by simp), 0, by omega, rfl, fun i => by simp⟩, ?_, ?_, ?_⟩
  · show fil 96 (-1) (fun _ => 0) 96 (i * 16 + c) = nI 0 - nI 1
    rw [fil_i (by omega)]; decide
  · show fil 96 (-1) (fun _ => 0) 96 k = (0 : Int32) - nI 1
    rw [fil_i hk]; decide
  · show (0 : Int32) = orf (fun k => if (0 : Int32) = nI (s + 1) then 0 else nI 0) 96
    rw [orf_0]
    intro k _
    split <;> rfl
  · decide +kernel
  · decide +kernel
  · decide +kernel
/-- the law, from its first instruction -/
theorem lw_go (κ : gm_K) (T : TXT κ) {L : Nat} {xs : Nat → Int32} (hX : SCR κ L xs) (hL : L ≤ 2560) : Go κ mL_law 0 (gm_l1 [.retAddr 1000] 4) [] [] (0, 0) (fun r _ => r = some (.int 1)) := by
  refine go_new 10 [.null, .null, .null, .null, .null, .null, .null, .null, .null, .null, .int 0] dL_law_0 rfl clL_law_7 it_10 in_10 (gc_df tyX10_ok rfl) rfl ?_
  refine go_dup dL_law_3 rfl ?_
  refine go_callI (As := []) dL_law_4 ciL_law_9 (cX10_init_ok κ) rfl rfl rfl rfl (fun r h' hq => ?_)
  obtain ⟨rfl, rfl⟩ := hq
  refine go_astore_n (lv' := [some (.retAddr 1000), some (.ref 0), none, none]) dL_law_7 rfl rfl rfl ?_
  refine go_new 11 [.int 0, .null, .null, .null, .null, .null, .null, .null, .null, .null, .int 0, .int 0, .null, .null, .null, .null, .int 0, .null, .null, .null, .int 0, .int 0, .null, .null, .null, .null, .null, .null, .int 0, .int 0, .null, .null, .null, .null, .int 0, .int 0, .null, .null, .null, .null, .null, .null, .null, .int 0, .null, .null, .null, .null, .int 0, .int 0] dL_law_8 rfl clL_law_10 it_11 in_11 (gc_df tyX11_ok rfl) rfl ?_
  have e47 : ([] ++ LX10_init : gm_H).length = 47 := rfl
  rw [e47]
  refine go_dup dL_law_11 rfl ?_
  refine go_callI (As := []) dL_law_12 ciL_law_12 (cX11_init_ok κ ([] ++ LX10_init) e47) rfl rfl rfl rfl (fun r h' hq => ?_)
  obtain ⟨rfl, rfl⟩ := hq
  rw [s_0_wd]
  refine go_astore_n (lv' := [some (.retAddr 1000), some (.ref 0), some (.ref 47), none]) dL_law_15 rfl rfl rfl ?_
  refine go_iconst (v := nI 0) dL_law_16 (by decide) ?_
  refine go_istore_n (lv' := lwv 0) dL_law_17 rfl rfl rfl ?_
  exact go_widen (m := lwn 0) (by decide) (by decide) (lw_loop κ T hX hL 0 (Nat.zero_le _) false s_0 z_0)
/-! what is known at the start -/
theorem cl_it : ∀ (ci : Nat) (q : vw_C), vwCl[ci]? = some q → Cond.instantiable q.1 q.2.2 ∈ lw_tbl
  | 0, q, h => by cases h; exact it_0
  | 1, q, h => by cases h; exact it_1
  | 2, q, h => by cases h; exact it_2
  | 3, q, h => by cases h; exact it_3
  | 4, q, h => by cases h; exact it_4
  | 5, q, h => by cases h; exact it_5
  | 6, q, h => by cases h; exact it_6
  | 7, q, h => by cases h; exact it_7
  | 8, q, h => by cases h; exact it_8
  | 9, q, h => by cases h; exact it_9
  | 10, q, h => by cases h; exact it_10
  | 11, q, h => by cases h; exact it_11
  | n + 12, q, h => by simp [vwCl] at h
theorem ar_ok {args : Array Value} {s : State} {ty : FieldType} (h : (Cond.arrayClass ty).before args s = true) : ∃ cA : ClassId, ArrOfT s cA ty ∧ s.vm.findClass ("[" ++ ty.toString) = some cA := by
  obtain ⟨cA, kA, comp, hfind, hk, hkind⟩ := Cond.arrayClass_spec h
  exact ⟨cA, fun n z => ⟨fun k h => (by cases h), kA, hk, comp, hkind⟩, hfind⟩
theorem vk_Scg {N : Nat} {len : List Nat} {byt : List (List Int32)} {adK adV adK' adV' : Nat → Nat} {A : Nat → Prop} {U : State} {H : Heap} (h : vk_S N len byt adK adV A U H) (hK : ∀ i, i < N → adK' i = adK i) (hV : ∀ i, i < N → adV' i = adV i) : vk_S N len byt adK' adV' A U H := by
  refine ⟨fun i hi => ?_, fun i j hi hj e => ?_⟩
  · rw [hK i hi, hV i hi]; exact h.1 i hi
  · rw [hK i hi, hK j hj] at e; exact h.2 i j hi hj e
theorem st_ex : ∀ i, i < 10 → Cond.exactly (.string RX9 (tx_idx.getD i 0)) "java/lang/String" ∈ flatC (Jvm.Cond.and given_1 narrow_1) := by decide +kernel
theorem st_co : ∀ i, i < 10 → Cond.eq (.field (.string RX9 (tx_idx.getD i 0)) "java/lang/String" "coder" "B") (.int 0) ∈ flatC (Jvm.Cond.and given_1 narrow_1) := by decide +kernel
theorem st_ar : ∀ i, i < 10 → Cond.arrayOf (.field (.string RX9 (tx_idx.getD i 0)) "java/lang/String" "value" "[B") .byte ∈ flatC (Jvm.Cond.and given_1 narrow_1) := by decide +kernel
theorem st_le : ∀ i, i < 10 → Cond.eq (.length (.field (.string RX9 (tx_idx.getD i 0)) "java/lang/String" "value" "[B")) (.int (Int32.ofNat (tx_len.getD i 0))) ∈ flatC (Jvm.Cond.and given_1 narrow_1) := by decide +kernel
theorem st_el : ∀ i, i < 10 → ∀ j, j < tx_len.getD i 0 → Cond.eq (.elem (.field (.string RX9 (tx_idx.getD i 0)) "java/lang/String" "value" "[B") (.int (Int32.ofNat j))) (.int ((tx_byt.getD i []).getD j 0)) ∈ flatC (Jvm.Cond.and given_1 narrow_1) := by decide +kernel
theorem st_ne : ∀ i, i < 10 → ∀ j, j < 10 → i ≠ j → Cond.not (Cond.eq (.string RX9 (tx_idx.getD i 0)) (.string RX9 (tx_idx.getD j 0))) ∈ flatC (Jvm.Cond.and given_1 narrow_1) ∨ Cond.not (Cond.eq (.string RX9 (tx_idx.getD j 0)) (.string RX9 (tx_idx.getD i 0))) ∈ flatC (Jvm.Cond.and given_1 narrow_1) := by decide +kernel
theorem st_ref : ∀ i, i < 10 → Cond.stringRef RX9 (tx_idx.getD i 0) (tx_txt.getD i "") ∈ lw_tbl := by decide +kernel
theorem st_cs : Cond.laysStatic "java/lang/String" "COMPACT_STRINGS" "Z" ∈ lw_tbl ∧ Cond.initialized "java/lang/String" ∈ lw_tbl ∧ Cond.eq (.static "java/lang/String" "COMPACT_STRINGS" "Z") (.int 1) ∈ flatC (Jvm.Cond.and given_1 narrow_1) := by decide +kernel
theorem st_sf : Cond.laysStatic "jdk/internal/util/Preconditions" "SIOOBE_FORMATTER" "Ljava/util/function/BiFunction;" ∈ lw_tbl ∧ Cond.initialized "jdk/internal/util/Preconditions" ∈ lw_tbl ∧ Cond.isRef (.static "jdk/internal/util/Preconditions" "SIOOBE_FORMATTER" "Ljava/util/function/BiFunction;") ∈ flatC (Jvm.Cond.and given_1 narrow_1) := by decide +kernel
/-- the texts' facts live on -/
theorem tx_on {κ : gm_K} {v : Value} {s t : State} (hW : s.WarmedH t.vm) (hq : ∀ q, q < κ.2.2.2.1 → t.heap[q]? = s.heap[q]?) (h : tx_ok κ v s) : tx_ok κ v t := by
  have hk : ∀ a : Nat, a < s.heap.size → ¬ κ.2.2.2.1 ≤ a → t.heap[a]? = s.heap[a]? := fun a _ h => hq a (Nat.not_le.mp h)
  exact ⟨(vk_S.moved hW.alike h.1).kept hk, fun k hk' => vk_R.warm hW (h.2.1 k hk'), (va_Z.moved hW.alike h.2.2.1).kept hk, (va_Z.moved hW.alike h.2.2.2).kept hk⟩
