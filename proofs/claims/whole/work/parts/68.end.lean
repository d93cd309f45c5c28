/-! THE CLAIM OUT OF ONE WALK OF THE LAW'S BODY. Your part is whole_start (and what it stands on); all else here is the same for every law, but numbers. -/
def R_law : String := "SongFieldLaw"
def lw_P (b : Addr) (xs : List Int32) (args : Array Value) (s : State) : Prop := args = #[.ref b] ∧ s.IntsAt b xs ∧ xs.length ≤ 2560 ∧ (Jvm.Cond.and given_1 narrow_1).before args s = true
def lw_Q (_ : Array Value) (s : State) (o : Outcome) (t : State) : Prop := o = .returned (some (.int 1)) ∧ Framed s o t [] 600000 7302250
def lw_Z (below : List Frame) (a : Array Value) (s : State) : State → Prop := fun t => ∃ o, t.status = .running ∧ Ended t below o ∧ lw_Q a s o t
/-- the law's own end, with 1 on the stack, nothing written that was there before, its room as the claim has it -/
theorem lw_ret {p : Program} {l : Launch} {e : Env} {s : State} {m : MethodId} {below : List Frame} {meth : Method} {c : Code} {b : Nat} (hx : p.tables.exec = Jvm.exec) (hb : c.code = code) (hr : meth.sig.returnType = ret) (hlocks : meth.locks = false) {pc : Nat} {H : Heap} {ls : Array Slot} (hdg : decode code pc = .ok (.ireturn, 1)) : W p l e room_1 s m #[Value.ref b] below meth c H [] 600000 7302250 (lw_Z below #[Value.ref b] s) (F0 m pc ls [.int 1]) := by
  intro T hT X
  obtain ⟨fs, hret, hrun, hended, hW, hframe⟩ := X.leave (v := some (.int 1)) (hlocks := hlocks) (fun h => by rw [hr] at h; cases h)
  have hmeth' : T.vm.method? m = some meth := X.method'
  refine ⟨T.setFrames fs, ?_, .returned (some (.int 1)), hrun, hended, rfl, ⟨_, rfl⟩, hW, hframe⟩
  jvm_step X.here [X.here.top, hx, hb, hdg, hmeth', hr, ret, narrow_b1]
  (try refine ⟨rfl, ?_⟩); (try refine ⟨rfl, ?_⟩)
  first | (intro acts; rw [hret _ acts rfl rfl rfl]) | rw [hret _ _ rfl rfl rfl]
  exact Steps.refl _
/-- what holds at the law's entry: the machine, the code, the tables' words (any of lw_tbl by 'hts w (by decide +kernel)'), the script of L ints xs at the cell b, what the Statement gives of the start (any of its parts by flat_of_before) -/
def lw_At (p : Program) (s : State) (m : MethodId) (meth : Method) (c : Code) (b L : Nat) (xs : Nat → Int32) : Prop :=
  p.tables.exec = Jvm.exec ∧ c.code = code ∧ meth.sig.returnType = ret ∧ c.maxLocals = 4 ∧ s.vm.findClass R_law = some m.cls ∧ (∀ w ∈ lw_tbl, w.before #[Value.ref b] s = true) ∧ va_X b L xs s s.heap ∧ b < s.heap.size ∧ meth.locks = false ∧ (Jvm.Cond.and given_1 narrow_1).before #[Value.ref b] s = true ∧ meth.name = "law"
theorem whole_start {p : Program} {e : Env} {s : State} {m : MethodId} {below : List Frame} {meth : Method} {c : Code} (l : Launch) {b L : Nat} {xs : Nat → Int32} (hL : L ≤ 2560) (C0 : lw_At p s m meth c b L xs) : W p l e room_1 s m #[Value.ref b] below meth c s.heap [] 0 0 (lw_Z below #[Value.ref b] s) (entryFrame m ([Value.ref b] : List Value).toArray 4) := by
  obtain ⟨hx, hb, hr, hml, hown, hts, hX, hbl, hlocks, hgv, hname⟩ := id C0
  have hfl := flat_of_before _ hgv
  have hA : ∀ a : Nat, a < s.heap.size → ¬ s.heap.size ≤ a := fun a h => Nat.not_le.mpr h
  obtain ⟨dd, hdd⟩ := Classical.axiomOfChoice (show ∀ ci : Nat, ∃ x : ClassId × (Nat → Nat), ∀ q : vw_C, vwCl[ci]? = some q → u_Kn s q.1 q.2.1 q.2.2 x.1 x.2 from fun ci => by
    cases hq : vwCl[ci]? with
    | none => exact ⟨(m.cls, fun _ => 0), fun q h => by cases h⟩
    | some q =>
      obtain ⟨cC, iS, h1⟩ := u_known (ws := lw_gd) (args := #[Value.ref b]) (fun w hw => hts w (List.mem_filter.mp hw).1) (cl_ok ci q hq).1 (hts _ (cl_it ci q hq))
      exact ⟨(cC, iS), fun q' h => by cases h; exact h1⟩)
  obtain ⟨a0, i0, f0⟩ := ar_ok (hts _ ac_int)
  obtain ⟨a1, i1, f1⟩ := ar_ok (hts _ ac_byte)
  obtain ⟨a2, i2, f2⟩ := ar_ok (hts _ ac_char)
  obtain ⟨a3, i3, f3⟩ := ar_ok (hts _ ac_boolean)
  obtain ⟨adK, adV, hS, hev⟩ := vk_Sof (args := #[Value.ref b]) (s := s) (N := 10) (tm := fun i => .string RX9 (tx_idx.getD i 0)) (len := tx_len) (byt := tx_byt) (A := fun q => s.heap.size ≤ q) (by decide +kernel) (fun i hi => hfl _ (st_ex i hi)) (fun i hi => hfl _ (st_co i hi)) (fun i hi => hfl _ (st_ar i hi)) (fun i hi => hfl _ (st_le i hi)) (fun i hi j hj => hfl _ (st_el i hi j hj)) (fun i j hi hj hij => (st_ne i hi j hj hij).imp (hfl _) (hfl _)) hA
  have hcs : va_Z "java/lang/String" "COMPACT_STRINGS" "Z" (.int 1) (fun q => s.heap.size ≤ q) s s.heap := va_Zof (hts _ st_cs.1) (hts _ st_cs.2.1) (va_eqt (hfl _ st_cs.2.2)) hA
  have hsf : va_Zq "jdk/internal/util/Preconditions" "SIOOBE_FORMATTER" "Ljava/util/function/BiFunction;" (fun q => s.heap.size ≤ q) s s.heap := va_Zqof (hts _ st_sf.1) (hts _ st_sf.2.1) (hfl _ st_sf.2.2) hA
  obtain ⟨v, t5, hv1, hv2⟩ : ∃ (v : Value) (t5 : Nat), v.category = 1 ∧ ∀ κ : gm_K, κ.2.2.2.2.1 500 = t5 → va_Z "jdk/internal/util/Preconditions" "SIOOBE_FORMATTER" "Ljava/util/function/BiFunction;" (gm_v κ v) (fun q => s.heap.size ≤ q) s s.heap := by
    rcases hsf with h | ⟨t, h⟩
    · exact ⟨.null, 0, rfl, fun κ _ => h⟩
    · refine ⟨.retAddr 500, t, rfl, fun κ hκ => ?_⟩
      show va_Z _ _ _ (.ref (κ.2.2.2.2.1 500)) _ _ _
      rw [hκ]
      exact h
  obtain ⟨sa, s1, s2, s3, s4⟩ : ∃ sa : Nat → Nat, (∀ i, i < 10 → sa i = adK i) ∧ (∀ i, i < 10 → sa (100 + i) = adV i) ∧ sa 500 = t5 ∧ sa 1000 = b := by
    refine ⟨fun k => if k < 10 then adK k else if k < 200 then adV (k - 100) else if k = 500 then t5 else b, fun i hi => if_pos hi, fun i hi => ?_, rfl, rfl⟩
    show (if 100 + i < 10 then adK (100 + i) else if 100 + i < 200 then adV (100 + i - 100) else if 100 + i = 500 then t5 else b) = adV i
    rw [if_neg (by omega), if_pos (by omega), Nat.add_sub_cancel_left]
  obtain ⟨κ, hκ⟩ : ∃ κ : gm_K, κ = (l, (fun ci => (dd ci).1, fun ci => (dd ci).2), (fun k => if k = 0 then a0 else if k = 1 then a1 else if k = 2 then a2 else a3), s.heap.size, sa, fun U => tx_ok (l, (fun ci => (dd ci).1, fun ci => (dd ci).2), (fun k => if k = 0 then a0 else if k = 1 then a1 else if k = 2 then a2 else a3), s.heap.size, sa, fun _ => True) v U ∧ va_X b L xs U U.heap) := ⟨_, rfl⟩
  have k0 : κ.1 = l := by rw [hκ]
  have kz : κ.2.2.2.1 = s.heap.size := by rw [hκ]
  have ks : κ.2.2.2.2.1 = sa := by rw [hκ]
  have hgv2 : ∀ (κ' : gm_K), κ'.2.2.2.1 = s.heap.size → κ'.2.2.2.2.1 = sa → ∀ w : Value, gm_v κ' w = gm_v κ w := fun κ' h1 h2 w => by
    cases w <;> simp only [gm_v, h1, h2, kz, ks]
  have hE : ∀ U, κ.2.2.2.2.2 U ↔ tx_ok κ v U ∧ va_X b L xs U U.heap := fun U => by
    have e : tx_ok (l, (fun ci => (dd ci).1, fun ci => (dd ci).2), (fun k => if k = 0 then a0 else if k = 1 then a1 else if k = 2 then a2 else a3), s.heap.size, sa, fun _ => True) v U ↔ tx_ok κ v U := by
      unfold tx_ok
      rw [hgv2 (l, (fun ci => (dd ci).1, fun ci => (dd ci).2), (fun k => if k = 0 then a0 else if k = 1 then a1 else if k = 2 then a2 else a3), s.heap.size, sa, fun _ => True) rfl rfl v, kz, ks]
    rw [← e, hκ]
  have T : TXT κ := ⟨v, hv1, fun U hU => ((hE U).mp hU).1⟩
  have hXS : SCR κ L xs := by
    refine ⟨by rw [kz, ks, s4]; exact hbl, fun U hU => ?_⟩
    rw [ks, s4]
    exact ((hE U).mp hU).2
  have hO : gm_O κ s := by
    refine ⟨⟨fun ci q hq => ?_, fun k q hq => ?_⟩, fun w hw hn => ?_, (hE s).mpr ⟨⟨?_, fun k hk => ?_, ?_, ?_⟩, hX⟩, fun s' t hW hq h => ?_⟩
    · have := hdd ci q hq
      rw [hκ]
      exact this
    · rw [hκ] at hq
      match k, hq with
      | 0, hq => cases hq; exact ⟨i0, f0⟩
      | 1, hq => cases hq; exact ⟨i1, f1⟩
      | 2, hq => cases hq; exact ⟨i2, f2⟩
      | 3, hq => cases hq; exact ⟨i3, f3⟩
      | k + 4, hq => simp [gm_tys] at hq
    · have h1 := hts w hw
      cases w <;> first | exact va_tabs rfl rfl h1 | (simp [gm_nest] at hn)
    · rw [kz, ks]
      exact vk_Scg hS s1 s2
    · rw [ks, s1 k hk]
      exact vk_R.of (hts _ (st_ref k hk)) (hev k hk)
    · rw [kz]; exact hcs
    · rw [kz]; exact hv2 κ (by rw [ks]; exact s3)
    · obtain ⟨h1, h2⟩ := (hE s').mp h
      refine (hE t).mpr ⟨tx_on hW hq h1, ?_⟩
      exact (va_X.moved hW.alike h2).kept (hq b (by rw [kz]; exact hbl))
  have hgo := lw_go κ T hXS hL
  have hl' : (lg_sl ([Value.retAddr 1000].map (gm_v κ))).length ≤ 4 := by rw [gm_l0_len]; decide
  have hlv := lv_entry ([Value.retAddr 1000].map (gm_v κ)) (n := 4) hl'
  have ev : [Value.retAddr 1000].map (gm_v κ) = [.ref b] := by
    show [Value.ref (κ.2.2.2.2.1 1000)] = [.ref b]
    rw [ks, s4]
  rw [lg_entry_eq]
  rw [← ev]
  have hP : gm_P κ [] s.heap := ⟨by rw [kz]; rfl, fun k q h => by simp [gm_w] at h⟩
  intro T' hT X
  rw [ev] at X
  have X' : Stand p κ.1 e room_1 s m #[Value.ref b] below meth c T' [] 0 0 := by rw [k0]; exact X
  obtain ⟨t, q1, o, q2, q3, ⟨⟨r, h, ho, hr1, -⟩, -⟩, Lc, ⟨g1, g2, g3⟩, g4⟩ := hgo p e s m #[Value.ref b] below meth c s.heap [] _ ⟨hx, hb, hml, hr, hlocks, hown, fun w hw _ => hts w hw, hname, hO, by rw [kz]; exact Nat.le_refl _⟩ ⟨hP, va_S.rf⟩ ⟨hlv.1, hlv.2.1, rfl, fun i v hi => by
      unfold gm_l1 at hi
      by_cases hc : i < (gm_l0 [Value.retAddr 1000]).length
      · rw [List.getElem?_append_left hc] at hi
        have := gm_l0_args κ [Value.retAddr 1000] 0 i v hi
        rw [Nat.zero_add] at this
        exact hlv.2.2 _ this
      · rw [List.getElem?_append_right (by omega)] at hi
        have := List.eq_of_mem_replicate (List.mem_of_getElem? hi)
        cases this⟩ T' hT X'
  subst hr1
  refine ⟨t, q1, o, q2, q3, ho, g1, g2, g3.weaken (fun y hy hlt => absurd hlt (Nat.not_lt.mpr ?_)) (Nat.le_refl _) (Nat.le_refl _)⟩
  have := g4 y hy
  rw [kz] at this
  exact this
set_option maxHeartbeats 4000000 in
theorem lw_walk (l : Launch) (b : Addr) (xs : List Int32) : MetFree l x (headSpec (Jvm.Cond.code x code maxLocals ret :: tables_1) room_1) (lw_P b xs) (fun _ _ _ _ _ => True) lw_Q := by
  refine MetFree.of_bodyS (code := code) (maxLocals := maxLocals) (ret := ret) (by decide) ?_ ?_
  · intro args s m h hn
    obtain ⟨meth, c, h1, h2, h3, h4, h5, h6, -, -⟩ := Cond.code_spec hn (atoms_spec (ws := Jvm.Cond.code x code maxLocals ret :: tables_1) h _ List.mem_cons_self)
    exact ⟨meth, c, h1, h2, h3, h4, h5, h6⟩
  · intro p e s m args below meth c s₁ B hml0 hP _
    obtain ⟨rfl, hx, hbd, hgv⟩ := hP
    obtain ⟨scr, harrAt, hlist, hof, hsmall⟩ := hx
    obtain ⟨hcb, hkn, -, -⟩ := State.arrayAt?_spec harrAt
    have hown : s.vm.findClass R_law = some m.cls := findClass_of_methodNamed B.named
    have hts0 : ∀ c ∈ (Jvm.Cond.code x code maxLocals ret :: tables_1), c.before #[Value.ref b] s = true := atoms_spec (ws := Jvm.Cond.code x code maxLocals ret :: tables_1) B.pre
    have hts : ∀ w ∈ lw_tbl, w.before #[Value.ref b] s = true := k2_hts_sels lw_privs (fun w hw => hts0 w (List.mem_cons_of_mem _ hw)) lw_privs_ok
    have hml : c.maxLocals = 4 := B.maxLocals_eq (hts0 _ List.mem_cons_self)
    have X₀ : Stand p l e room_1 s m #[Value.ref b] below meth c s₁ [] 0 0 := Stand.of_body B
    have hh0 : s₁.heap = s.heap := by rw [B.state]; rfl
    have hsz : scr.slots.size = xs.length := by rw [← Array.length_toList, hlist, List.length_map]
    have hval : ∀ j : Nat, j < xs.length → scr.slots[j]? = some (.int (xs.getD j 0)) := fun j hj => by
      rw [← Array.getElem?_toList, hlist]
      simp [hj]
    have hbl : b < s.heap.size := (Array.getElem?_eq_some_iff.mp hcb).1
    have hX : va_X b xs.length (fun j => xs.getD j 0) s s.heap := ⟨scr, hcb, hof, hkn, hsz, hval⟩
    have K : W p l e room_1 s m #[Value.ref b] below meth c s₁.heap [] 0 0 (lw_Z below #[Value.ref b] s) (entryFrame m ([Value.ref b] : List Value).toArray 4) := by
      rw [hh0]
      exact whole_start l hbd ⟨B.exec, B.bytes, B.returns, hml, hown, hts, hX, hbl, B.notSynchronized, hgv, (name_of_methodNamed B.named B.method).1⟩
    obtain ⟨t, a1, o, b1, b2, b3⟩ := K s₁ rfl X₀
    exact ⟨t, o, a1, b1, b2, b3⟩
theorem lw_pre_spec {args : Array Value} {s : State} (h : (Jvm.Cond.and given_1 narrow_1).before args s = true) (hr : rest_1_c.before args s = true) : ∃ (b : Addr) (xs : List Int32), lw_P b xs args s := by
  have hs := flat_of_before _ h
  have hq := flat_of_before _ hr
  have hc : (Cond.count 1).before args s = true := hs _ (by decide +kernel)
  have harr : (Cond.arrayOf (.arg 0) .int).before args s = true := hs _ (by decide +kernel)
  have hle : (Cond.le (.length (.arg 0)) (.int 2560)).before args s = true := hs _ (by decide +kernel)
  have hlen : (Cond.isInt (.length (.arg 0))).before args s = true := hq _ (by decide +kernel)
  have hall : (Cond.all (.arg 0) (.isInt (.elem (.arg 0) (.index 0)))).before args s = true := hq _ (by decide +kernel)
  obtain ⟨b, xs, hb, hx⟩ := State.ints_of_pre rfl harr hlen hall
  have hsm : xs.length < 2 ^ 31 := hx.choose_spec.2.2.2
  have hev : (Term.length (.arg 0)).eval args s none [] s = some (.int xs.length.toInt32) := hx.length_eval hb
  have hv := Cond.le_ints hev (show (Term.int 2560).eval args s none [] s = some (.int 2560) from rfl)
  have hd : xs.length.toInt32 ≤ 2560 := by
    simpa [Cond.before, Cond.holds, hv] using hle
  have hN : xs.length ≤ 2560 := (Int32.ofNat_le_ofNat hsm (by decide)).mp (show Int32.ofNat xs.length ≤ Int32.ofNat 2560 from hd)
  exact ⟨b, xs, Cond.one_arg hc (show args[0]? = some (.ref b) from hb), hx, hN, h⟩
theorem lw_comes (l : Launch) : Comes l x (Jvm.Cond.code x code maxLocals ret :: tables_1) room_1 (fun tb e args s => Calls_1 tb e args s ∧ rest_1 tb e args s ∧ Pre_1 tb e args s)
    (fun _ _ args s o t => lw_Q args s o t) := by
  intro p e ha hc hk s m args below hf hfit hheap happ hpre
  obtain ⟨b, xs, hP⟩ := lw_pre_spec hpre.2.2 hpre.2.1
  obtain ⟨k, o, h1, h2, h3, hQ⟩ := lw_walk l b xs p e ha hc hk s m args below hf ((Spec.applies_iff_loose hf).mp happ).1 hP trivial
  exact ⟨k, o, h1, h2, h3, hQ⟩
theorem lw_frame {s t : State} {o : Outcome} {args : Array Value} (h : Framed s o t [] 600000 7302250) :
    Framed s o t (fieldLocs frame_1_writes args s ++ arrayLocs frame_1_arrays args s ++ staticLocs frame_1_statics s) 600000 7302250 := h
theorem lw_limb (L : Cond) (hL : ∀ (args : Array Value) (s t : State), L.after args s (.returned (some (.int 1))) t = true) :
    ArmFor flags0 classFile x code maxLocals ret World_1 tables_1 room_1 Calls_1 rest_1 Pre_1
      (fun tb e a s o t => postC L tb e a s o t ∧ Framed s o t (fieldLocs frame_1_writes a s ++ arrayLocs frame_1_arrays a s ++ staticLocs frame_1_statics s) 600000 7302250) := by
  intro l _ _ _ p e ha hc hk s m args below hf hfit hheap happ hpre
  obtain ⟨k, o, h1, h2, h3, rfl, hF⟩ := lw_comes l p e ha hc hk s m args below hf hfit hheap happ hpre
  exact ⟨k, _, h1, h2, h3, hL args s _, lw_frame hF⟩
theorem i_vc : Claimed_1_1 ∧ Claimed_1_2 := ⟨lw_limb limb_1_1 (fun args s t => by simp [limb_1_1, Cond.after, Cond.holds, Cond.value]), lw_limb limb_1_2 (fun args s t => Cond.after_iff.mpr (by
  first | (rw [show limb_1_2 = Cond.eq .result (.int 1) from rfl, Cond.eq_ints (x := 1) (y := 1) rfl rfl]; simp; done) | (simp [limb_1_2, Cond.value, Term.eval]; done)))⟩
