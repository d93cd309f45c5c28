/-- contracts that tell of the cells behind a call only what is wanted -/
def FeV (κ : gm_K) (μ : gm_M) (av : List Value) (g : wg_G) (σ : wg_S) (Q : wg_S → Prop) : Prop := Ct κ μ av (wd g σ) (fun r h' => ∃ τ, r = none ∧ h' = wd g τ ∧ Q τ)
def FeI (κ : gm_K) (μ : gm_M) (av : List Value) (g : wg_G) (σ : wg_S) (Q : Int32 → wg_S → Prop) : Prop := Ct κ μ av (wd g σ) (fun r h' => ∃ x τ, r = some (.int x) ∧ h' = wd g τ ∧ Q x τ)
section FE
variable {κ : gm_K} {μ : gm_M} {pc : Nat} {lv : List (Option Value)} {st : List Value} {g : wg_G} {σ : wg_S} {n : Nat × Nat} {Φ : Option Value → gm_H → Prop}
theorem gs_callVe {μ' : gm_M} {idx k b ci : Nat} {As stk : List Value} {fds : List (Option Nat)} {Q : wg_S → Prop} (hd : decode μ.2.1 pc = .ok (.invokevirtual idx, 3)) (hw : gm_CV μ μ' idx k) (hC : FeV κ μ' (.ref b :: As) g σ Q) (hst : stk = As.reverse ++ .ref b :: st) (hb : g[b]? = some (.inl (ci, fds))) (hci : (vwCl[ci]?).map Prod.fst = some μ'.1.cls) (hk : As.length = k) (hs : Nat.ble ((st.map fun v => v.category).sum) 8 = true) (h0 : μ'.2.2.2.2.cells = 0 ∧ μ'.2.2.2.2.slots = 0) (hn : (Nat.ble n.1 μ.2.2.2.2.cells && Nat.ble n.2 μ.2.2.2.2.slots) = true)
    (kk : ∀ τ, Q τ → Go κ μ (pc + 3) lv st (wd g τ) n Φ) : Go κ μ pc lv stk (wd g σ) n Φ :=
  go_callV hd hw hC hst (wd_o hb) hci hk hs (by rw [h0.1, h0.2]; exact hn) (fun r h' hq => by obtain ⟨τ, rfl, rfl, q⟩ := hq; rw [h0.1, h0.2]; exact kk τ q)
theorem gs_callVz {μ' : gm_M} {idx k b ci : Nat} {As stk : List Value} {fds : List (Option Nat)} {Q : Int32 → wg_S → Prop} (hd : decode μ.2.1 pc = .ok (.invokevirtual idx, 3)) (hw : gm_CV μ μ' idx k) (hC : FeI κ μ' (.ref b :: As) g σ Q) (hst : stk = As.reverse ++ .ref b :: st) (hb : g[b]? = some (.inl (ci, fds))) (hci : (vwCl[ci]?).map Prod.fst = some μ'.1.cls) (hk : As.length = k) (hs : Nat.ble ((st.map fun v => v.category).sum) 8 = true) (h0 : μ'.2.2.2.2.cells = 0 ∧ μ'.2.2.2.2.slots = 0) (hn : (Nat.ble n.1 μ.2.2.2.2.cells && Nat.ble n.2 μ.2.2.2.2.slots) = true)
    (kk : ∀ x τ, Q x τ → Go κ μ (pc + 3) lv (.int x :: st) (wd g τ) n Φ) : Go κ μ pc lv stk (wd g σ) n Φ :=
  go_callV hd hw hC hst (wd_o hb) hci hk hs (by rw [h0.1, h0.2]; exact hn) (fun r h' hq => by obtain ⟨x, τ, rfl, rfl, q⟩ := hq; rw [h0.1, h0.2]; exact kk x τ q)
end FE
def lo70 (τ σ : wg_S) : Prop := ∀ p, p < 70 → τ p = σ p
theorem msz_lo {τ σ : wg_S} (h : lo70 τ σ) (c : Nat) : msz τ c = msz σ c := by simp only [msz, h 50 (by decide)]
theorem mth_lo {τ σ : wg_S} (h : lo70 τ σ) (c : Nat) : mth τ c = mth σ c := by
  unfold mth mhc mxa mxb
  rw [h 47 (by decide), h 48 (by decide), h 51 (by decide)]
theorem mhl_lo {τ σ : wg_S} (h : lo70 τ σ) (j k c s : Nat) : mhl τ j k c s = mhl σ j k c s := by
  have e : mht τ j k c s = mht σ j k c s := by
    unfold mht mts mvl mmc
    rw [msz_lo h, h 47 (by decide), h 49 (by decide), h 59 (by decide), h 62 (by decide), h 67 (by decide), h 68 (by decide), h 69 (by decide)]
  unfold mhl mhk mtn
  rw [e, h 48 (by decide), h 65 (by decide), h 66 (by decide)]
theorem mrl_lo {τ σ : wg_S} (h : lo70 τ σ) (j c s : Nat) : ∀ k, mrl τ j c s k = mrl σ j c s k
  | 0 => rfl
  | k + 1 => by rw [mrl, mrl, mhl_lo h, mrl_lo h j c s k]
theorem mvd_lo {τ σ : wg_S} (h : lo70 τ σ) (j r c s : Nat) : mvd τ j r c s = mvd σ j r c s := by
  have e : mvo τ c s = mvo σ c s := by
    unfold mvo
    rw [h 50 (by decide), h 58 (by decide)]
  unfold mvd
  rw [mth_lo h, mrl_lo h, e, h 48 (by decide), h 57 (by decide), h 64 (by decide)]
theorem MI_lo {τ σ : wg_S} (h : lo70 τ σ) {n m j r : Nat} (C : MI σ n m j r) : MI τ n m j r := by
  unfold MI MX mtn mxa mxb at *
  rw [h 47 (by decide), h 66 (by decide), h 48 (by decide), h 51 (by decide)]
  exact C
def zr (f : Nat → Int32) (i : Nat) : Nat → Int32 := fun k => if k < i then nI 0 else f k
theorem zr_u (f : Nat → Int32) (i : Nat) : upd (zr f i) i (nI 0) = zr f (i + 1) := by
  funext k
  by_cases h : k = i
  · subst h; rw [pk_us]; simp [zr]
  · rw [pk_un h]
    unfold zr
    by_cases h1 : k < i
    · rw [if_pos h1, if_pos (by omega)]
    · rw [if_neg h1, if_neg (by omega)]
def mup (x e : Int32) : Int32 := (x + e - nI 1) / e
def mlr (σ : wg_S) (j r s : Nat) : Nat → Nat → Int32
  | 0 => zr (σ 73) 8
  | c + 1 => if σ 54 c = -1 then mlr σ j r s c else if mvd σ j r c s = 0 then upd (mlr σ j r s c) (σ 54 c).toNatClampNeg (mlr σ j r s c (σ 54 c).toNatClampNeg + mup (msz σ c) (nI 10)) else mlr σ j r s c
def mlb (f : Nat → Int32) : Nat → Nat
  | 0 => 0
  | k + 1 => if f (k + 1) ≤ f (mlb f k) then mlb f k else k + 1
theorem mlb_le (f : Nat → Int32) : ∀ k, mlb f k ≤ k
  | 0 => Nat.le_refl _
  | k + 1 => by
    rw [show mlb f (k + 1) = if f (k + 1) ≤ f (mlb f k) then mlb f k else k + 1 from rfl]
    have := mlb_le f k
    split <;> omega
def mlv (f : Nat → Int32) : Int32 := if f (mlb f 7) ≤ 0 then -1 else nI (mlb f 7)
def MV (σ : wg_S) (n : Nat) : Prop := ∀ c, c < n → σ 54 c = -1 ∨ ∃ v, v < 8 ∧ σ 54 c = nI v
def M_leader (σ : wg_S) (n j r : Nat) (s : Int32) : Int32 × wg_S := if hs (σ 47 11) s = false then (-1, σ) else (mlv (mlr σ j r s.toNatClampNeg n), ua σ 73 (mlr σ j r s.toNatClampNeg n))
theorem lo_ua {σ : wg_S} {p : Nat} {f : Nat → Int32} (hp : 70 ≤ p) : lo70 (ua σ p f) σ := fun q hq => ua_p (by omega)
theorem cX11_leader_ok (κ : gm_K) (b : Bool) (σ : wg_S) (n m j r : Nat) (C : MI σ n m j r) (hV : MV σ n) (s : Int32) : Fn κ mX11_leader [.ref 47, .int s] (gg b) σ (some (.int ((M_leader σ n j r s).1))) (gg b) (M_leader σ n j r s).2 := by
  refine go_start (by decide) (Nat.le_of_ble_eq_true rfl) ?_
  obtain ⟨⟨hN, hn⟩, ⟨hM, hm⟩, ⟨hJ, hj⟩, ⟨hR, hr⟩, hT, hX⟩ := id C
  refine go_aload_n dX11_leader_0 rfl ?_
  refine go_iload_n dX11_leader_1 rfl ?_
  refine gs_callVi dX11_leader_2 cvX11_leader_255 (cX11_isSong_ok κ b σ _) rfl (gg_47 b) rfl rfl rfl ⟨rfl, rfl⟩ rfl ?_
  refine go_if_neB 10 dX11_leader_5 (by decide) (fun c5 => ?_) (fun c5 => ?_)
  · obtain ⟨x, hx, rfl⟩ := hs_ix (by omega) (hM ▸ c5)
    have ex := nI_clamp (show x < 2 ^ 31 by omega)
    refine go_iconst (v := nI 0) dX11_leader_10 (by decide) ?_
    refine go_istore_n (lv' := [_, _, _, _]) dX11_leader_11 rfl rfl rfl ?_
    have hA : ¬ hs (σ 47 11) (nI x) = false := by simp [c5]
    have hK : M_leader σ n j r (nI x) = (mlv (mlr σ j r x n), ua σ 73 (mlr σ j r x n)) := by rw [M_leader, if_neg hA, ex]
    refine go_wkh (by exact ⟨rfl, rfl, rfl, trivial⟩) (congrArg (wd (gg b)) (by rw [show zr (σ 73) 0 = σ 73 by funext k; simp [zr], ua_id])) (?_ : Go κ mX11_leader 12 [some (.ref 47), some (.int (nI x)), some (.int (nI 0)), none] [] (wd (gg b) (ua σ 73 (zr (σ 73) 0))) (0, 0) _)
    refine lo_up 8 (P := fun i => Go κ mX11_leader 12 [some (.ref 47), some (.int (nI x)), some (.int (nI i)), none] [] (wd (gg b) (ua σ 73 (zr (σ 73) i))) (0, 0) _) (fun i hi ih => ?_) 0 (Nat.zero_le _)
    refine go_iload_n dX11_leader_12 rfl ?_
    refine go_bipush (v := nI 8) dX11_leader_13 (by decide) ?_
    refine go_icmp_geN 31 dX11_leader_15 (by decide) (by omega) (by omega) (fun c15 => ?_) (fun c15 => ?_)
    · refine go_iconst (v := nI 0) dX11_leader_31 (by decide) ?_
      refine go_istore_n (lv' := [_, _, _, _]) dX11_leader_32 rfl rfl rfl ?_
      have e : i = 8 := by omega
      subst e
      refine go_wk (by exact ⟨rfl, rfl, rfl, trivial⟩) (?_ : Go κ mX11_leader 33 [some (.ref 47), some (.int (nI x)), some (.int (nI 0)), none] [] (wd (gg b) (ua σ 73 (mlr σ j r x 0))) (0, 0) _)
      refine lo_up n (P := fun i => Go κ mX11_leader 33 [some (.ref 47), some (.int (nI x)), some (.int (nI i)), none] [] (wd (gg b) (ua σ 73 (mlr σ j r x i))) (0, 0) _) (fun i hi ih => ?_) 0 (Nat.zero_le _)
      have hs' : mlr σ j r x (i + 1) = if σ 54 i = -1 then mlr σ j r x i else if mvd σ j r i x = 0 then upd (mlr σ j r x i) (σ 54 i).toNatClampNeg (mlr σ j r x i (σ 54 i).toNatClampNeg + mup (msz σ i) (nI 10)) else mlr σ j r x i := rfl
      have hlo : lo70 (ua σ 73 (mlr σ j r x i)) σ := lo_ua (by decide)
      have hmay : i < n → Fn κ mX11_mayOf [.ref 47, .int (nI i), .int (nI x)] (gg b) (ua σ 73 (mlr σ j r x i)) (some (.int (mvd σ j r i x))) (gg b) (ua σ 73 (mlr σ j r x i)) := fun h => by
        have := cX11_mayOf_ok κ b _ n m j r (MI_lo hlo C) i x h hx
        rwa [mvd_lo hlo] at this
      have hsz : i < n → Fn κ mX11_sizeOf [.ref 47, .int (nI i)] (gg b) (ua σ 73 (mlr σ j r x i)) (some (.int (msz σ i))) (gg b) (ua σ 73 (mlr σ j r x i)) := fun h => by
        have := cX11_sizeOf_ok κ b (ua σ 73 (mlr σ j r x i)) i (by omega)
        rwa [msz_lo hlo] at this
      refine go_iload_n dX11_leader_33 rfl ?_
      refine go_aload_n dX11_leader_34 rfl ?_
      refine gs_gi dX11_leader_35 flX11_134 (gg_47 b) rfl ((congrFun (ua_p (by decide)) 0).trans hN) ?_
      refine go_icmp_geN 90 dX11_leader_38 (by decide) (by omega) (by omega) (fun c38 => ?_) (fun c38 => ?_)
      · refine go_iconst (v := nI 0) dX11_leader_90 (by decide) ?_
        refine go_istore_n (lv' := [_, _, _, _]) dX11_leader_91 rfl rfl rfl ?_
        refine go_iconst (v := nI 1) dX11_leader_92 (by decide) ?_
        refine go_istore_n (lv' := [_, _, _, _]) dX11_leader_93 rfl rfl rfl ?_
        have e : i = n := by omega
        subst e
        refine go_wk (by exact ⟨rfl, rfl, rfl, rfl, trivial⟩) (?_ : Go κ mX11_leader 94 [some (.ref 47), some (.int (nI x)), some (.int (nI (mlb (mlr σ j r x i) 0))), some (.int (nI (0 + 1)))] [] (wd (gg b) (ua σ 73 (mlr σ j r x i))) (0, 0) _)
        generalize hf : mlr σ j r x i = f at hK ⊢
        refine lo_up 7 (P := fun i => Go κ mX11_leader 94 [some (.ref 47), some (.int (nI x)), some (.int (nI (mlb f i))), some (.int (nI (i + 1)))] [] (wd (gg b) (ua σ 73 f)) (0, 0) _) (fun k hk ih => ?_) 0 (Nat.zero_le _)
        have hb := mlb_le f k
        have hs' : mlb f (k + 1) = if f (k + 1) ≤ f (mlb f k) then mlb f k else k + 1 := rfl
        refine go_iload_n dX11_leader_94 rfl ?_
        refine go_bipush (v := nI 8) dX11_leader_95 (by decide) ?_
        refine go_icmp_geN 127 dX11_leader_97 (by decide) (by omega) (by omega) (fun c97 => ?_) (fun c97 => ?_)
        · have e : k = 7 := by omega
          subst e
          refine go_aload_n dX11_leader_127 rfl ?_
          refine gs_gr dX11_leader_128 flX11_88 (gg_47 b) rfl ?_
          refine go_iload_n dX11_leader_131 rfl ?_
          refine gs_iald (_) dX11_leader_132 (gg_73 b) (rfl) (by omega) rfl (congrFun ua_s _) ?_
          refine go_if_le 140 dX11_leader_133 (by decide) (fun c133 => ?_) (fun c133 => ?_)
          · refine go_iconst (v := -1) dX11_leader_140 (by decide) ?_
            refine go_iret dX11_leader_141 rfl rfl ?_
            rw [hK]
            exact ⟨by simp [mlv, c97, c133], rfl⟩
          · refine go_iload_n dX11_leader_136 rfl ?_
            refine go_goto 141 dX11_leader_137 (by decide) ?_
            refine go_iret dX11_leader_141 rfl rfl ?_
            rw [hK]
            exact ⟨by simp [mlv, c97, c133], rfl⟩
        · refine go_aload_n dX11_leader_100 rfl ?_
          refine gs_gr dX11_leader_101 flX11_88 (gg_47 b) rfl ?_
          refine go_iload_n dX11_leader_104 rfl ?_
          refine gs_iald (_) dX11_leader_105 (gg_73 b) (rfl) (by omega) rfl (congrFun ua_s _) ?_
          refine go_aload_n dX11_leader_106 rfl ?_
          refine gs_gr dX11_leader_107 flX11_88 (gg_47 b) rfl ?_
          refine go_iload_n dX11_leader_110 rfl ?_
          refine gs_iald (_) dX11_leader_111 (gg_73 b) (rfl) (by omega) rfl (congrFun ua_s _) ?_
          refine go_icmp_le 119 dX11_leader_112 (by decide) (fun c112 => ?_) (fun c112 => ?_)
          · refine go_iload_n dX11_leader_119 rfl ?_
            refine go_istore_n (lv' := [_, _, _, _]) dX11_leader_120 rfl rfl rfl ?_
            refine go_iincN (lv' := [_, _, _, _]) 1 dX11_leader_121 (by decide) rfl rfl rfl rfl ?_
            refine go_goto 94 dX11_leader_124 (by decide) ?_
            exact go_wk (by rw [hs']; simp [lvle, c97, c112]) (ih (by omega))
          · refine go_iload_n dX11_leader_115 rfl ?_
            refine go_goto 120 dX11_leader_116 (by decide) ?_
            refine go_istore_n (lv' := [_, _, _, _]) dX11_leader_120 rfl rfl rfl ?_
            refine go_iincN (lv' := [_, _, _, _]) 1 dX11_leader_121 (by decide) rfl rfl rfl rfl ?_
            refine go_goto 94 dX11_leader_124 (by decide) ?_
            exact go_wk (by rw [hs']; simp [lvle, c97, c112]) (ih (by omega))
      · refine go_aload_n dX11_leader_41 rfl ?_
        refine gs_gr dX11_leader_42 flX11_28 (gg_47 b) rfl ?_
        refine go_iload_n dX11_leader_45 rfl ?_
        refine gs_iald (_) dX11_leader_46 (gg_54 b) (rfl) (by omega) rfl (congrFun (ua_p (by decide)) _) ?_
        refine go_iconst (v := -1) dX11_leader_47 (by decide) ?_
        refine go_icmp_eq 84 dX11_leader_48 (by decide) (fun c48 => ?_) (fun c48 => ?_)
        · refine go_iincN (lv' := [_, _, _, _]) 1 dX11_leader_84 (by decide) rfl rfl rfl rfl ?_
          refine go_goto 33 dX11_leader_87 (by decide) ?_
          exact go_wkh (by simp [lvle]) (congrArg (fun f => wd (gg b) (ua σ 73 f)) (by rw [hs', if_pos c48])) (ih c38)
        · obtain ⟨v, hv, ev⟩ := (hV i c38).resolve_left c48
          have ev2 := nI_clamp (show v < 2 ^ 31 by omega)
          refine go_aload_n dX11_leader_51 rfl ?_
          refine go_iload_n dX11_leader_52 rfl ?_
          refine go_iload_n dX11_leader_53 rfl ?_
          refine gs_callVi dX11_leader_54 cvX11_leader_258 (hmay c38) rfl (gg_47 b) rfl rfl rfl ⟨rfl, rfl⟩ rfl ?_
          refine go_if_ne 84 dX11_leader_57 (by decide) (fun c57 => ?_) (fun c57 => ?_)
          · refine go_iincN (lv' := [_, _, _, _]) 1 dX11_leader_84 (by decide) rfl rfl rfl rfl ?_
            refine go_goto 33 dX11_leader_87 (by decide) ?_
            exact go_wkh (by simp [lvle]) (congrArg (fun f => wd (gg b) (ua σ 73 f)) (by rw [hs', if_neg c48, if_neg c57])) (ih c38)
          · refine go_aload_n dX11_leader_60 rfl ?_
            refine gs_gr dX11_leader_61 flX11_88 (gg_47 b) rfl ?_
            refine go_aload_n dX11_leader_64 rfl ?_
            refine gs_gr dX11_leader_65 flX11_28 (gg_47 b) rfl ?_
            refine go_iload_n dX11_leader_68 rfl ?_
            refine gs_iald (_) dX11_leader_69 (gg_54 b) (rfl) (by omega) rfl ((congrFun (ua_p (by decide)) i).trans ev) ?_
            refine go_dup2 dX11_leader_70 rfl rfl ?_
            refine gs_iald (_) dX11_leader_71 (gg_73 b) (rfl) (by omega) rfl (congrFun ua_s _) ?_
            refine go_aload_n dX11_leader_72 rfl ?_
            refine go_iload_n dX11_leader_73 rfl ?_
            refine gs_callVi dX11_leader_74 cvX11_leader_197 (hsz c38) rfl (gg_47 b) rfl rfl rfl ⟨rfl, rfl⟩ rfl ?_
            refine go_bipush (v := nI 10) dX11_leader_77 (by decide) ?_
            refine gs_callSi dX11_leader_79 csX11_leader_191 (cX11_up_ok κ b _ _ _ (by decide)) rfl rfl rfl ⟨rfl, rfl⟩ rfl ?_
            refine go_iadd dX11_leader_82 ?_
            refine gs_iast (_) dX11_leader_83 (gg_73 b) (rfl) (by omega) rfl ?_
            refine go_iincN (lv' := [_, _, _, _]) 1 dX11_leader_84 (by decide) rfl rfl rfl rfl ?_
            refine go_goto 33 dX11_leader_87 (by decide) ?_
            exact go_wkh (by simp [lvle]) (congrArg (wd (gg b)) (by rw [hs', if_neg c48, if_pos c57, ev, ev2, ua_u]; rfl)) (ih c38)
    · refine go_aload_n dX11_leader_18 rfl ?_
      refine gs_gr dX11_leader_19 flX11_88 (gg_47 b) rfl ?_
      refine go_iload_n dX11_leader_22 rfl ?_
      refine go_iconst (v := nI 0) dX11_leader_23 (by decide) ?_
      refine gs_iast (_) dX11_leader_24 (gg_73 b) (rfl) (by omega) rfl ?_
      refine go_iincN (lv' := [_, _, _, _]) 1 dX11_leader_25 (by decide) rfl rfl rfl rfl ?_
      refine go_goto 12 dX11_leader_28 (by decide) ?_
      exact go_wkh (by simp [lvle]) (congrArg (wd (gg b)) (by rw [ua_u, zr_u])) (ih c15)
  · refine go_iconst (v := -1) dX11_leader_8 (by decide) ?_
    refine go_iret dX11_leader_9 rfl rfl ?_
    rw [M_leader, if_pos c5]
    exact ⟨rfl, rfl⟩
