def LX11_init : gm_H := [.inr (11, [.int 0, .ref 48, .ref 49, .ref 50, .ref 51, .ref 52, .ref 53, .ref 54, .ref 55, .ref 56, .int 0, .int 0, .ref 57, .ref 58, .ref 59, .ref 60, .int 0, .ref 61, .ref 62, .ref 63, .int 0, .int 0, .ref 64, .ref 65, .ref 66, .ref 67, .ref 68, .ref 69, .int 0, .int 0, .ref 70, .ref 71, .ref 72, .ref 73, .int (nI 4), .int (nI 20), .ref 74, .ref 75, .ref 76, .ref 77, .ref 78, .ref 79, .ref 80, .int 0, .ref 81, .ref 82, .ref 83, .ref 84, .int 0, .int (nI 2)]), .inl (0, 16, fun _ => 0), .inl (0, 16, fun _ => 0), .inl (0, 64, fun _ => 0), .inl (0, 16, fun _ => 0), .inl (0, 16, fun _ => 0), .inl (0, 16, fun _ => 0), .inl (0, 16, fun _ => 0), .inl (0, 16, fun _ => 0), .inl (0, 16, fun _ => 0), .inl (0, 9, fun _ => 0), .inl (0, 9, fun _ => 0), .inl (0, 9, fun _ => 0), .inl (0, 9, fun _ => 0), .inl (0, 6, fun _ => 0), .inl (0, 96, fun _ => 0), .inl (1, 120, fun _ => 0), .inl (3, 12, fun _ => 0), .inl (0, 12, fun _ => 0), .inl (0, 12, fun _ => 0), .inl (0, 24, fun _ => 0), .inl (0, 24, fun _ => 0), .inl (0, 24, fun _ => 0), .inl (2, 19, upd (upd (upd (upd (upd (upd (upd (upd (upd (upd (upd (upd (upd (upd (upd (upd (upd (upd (upd (fun _ => 0) 0 (nI 109)) 1 (nI 97)) 2 (nI 114)) 3 (nI 107)) 4 (nI 104)) 5 (nI 97)) 6 (nI 114)) 7 (nI 100)) 8 (nI 116)) 9 (nI 111)) 10 (nI 119)) 11 (nI 110)) 12 (nI 115)) 13 (nI 105)) 14 (nI 122)) 15 (nI 101)) 16 (nI 100)) 17 (nI 97)) 18 (nI 121)), .inl (0, 5, upd (upd (upd (upd (upd (fun _ => 0) 0 (nI 0)) 1 (nI 4)) 2 (nI 8)) 3 (nI 12)) 4 (nI 16)), .inl (0, 5, upd (upd (upd (upd (upd (fun _ => 0) 0 (nI 4)) 1 (nI 4)) 2 (nI 4)) 3 (nI 4)) 4 (nI 3)), .inl (0, 8, fun _ => 0), .inl (0, 4, fun _ => 0), .inl (0, 4, fun _ => 0), .inl (3, 144, fun _ => 0), .inl (3, 9, fun _ => 0), .inl (0, 81, fun _ => 0), .inl (0, 4608, fun _ => 0), .inl (0, 9, fun _ => 0), .inl (0, 96, fun _ => 0), .inl (0, 96, fun _ => 0), .inl (0, 8, fun _ => 0), .inl (0, 16, fun _ => 0)]
theorem cX11_init_ok (κ : gm_K) (pre : gm_H) (hp : pre.length = 47) : Ct κ mX11_init [.ref 47] (pre ++ [.inr (11, [.int 0, .null, .null, .null, .null, .null, .null, .null, .null, .null, .int 0, .int 0, .null, .null, .null, .null, .int 0, .null, .null, .null, .int 0, .int 0, .null, .null, .null, .null, .null, .null, .int 0, .int 0, .null, .null, .null, .null, .int 0, .int 0, .null, .null, .null, .null, .null, .null, .null, .int 0, .null, .null, .null, .null, .int 0, .int 0])]) (fun r h' => r = none ∧ h' = pre ++ LX11_init) := by
  refine go_start (by decide) (Nat.le_of_ble_eq_true rfl) ?_
  refine go_aload_n dX11_init_0 rfl ?_
  refine go_objInit dX11_init_1 obX11_init_1 rfl rfl ?_
  refine go_aload_n dX11_init_4 rfl ?_
  refine go_bipush (v := nI 16) dX11_init_5 (by decide) ?_
  refine gc_na0 16 48 hp (by first | rfl | simp) dX11_init_7 (by decide) (by decide) (by decide) rfl ?_
  refine gc_putF (ty := .array .int) [.int 0, .ref 48, .null, .null, .null, .null, .null, .null, .null, .null, .int 0, .int 0, .null, .null, .null, .null, .int 0, .null, .null, .null, .int 0, .int 0, .null, .null, .null, .null, .null, .null, .int 0, .int 0, .null, .null, .null, .null, .int 0, .int 0, .null, .null, .null, .null, .null, .null, .null, .int 0, .null, .null, .null, .null, .int 0, .int 0] hp dX11_init_9 flX11_7 rfl (fun q hq => by cases hq; exact ⟨rfl, rfl, rfl⟩) rfl rfl rfl rfl ?_
  refine go_aload_n dX11_init_12 rfl ?_
  refine go_bipush (v := nI 16) dX11_init_13 (by decide) ?_
  refine gc_na0 16 49 hp (by first | rfl | simp) dX11_init_15 (by decide) (by decide) (by decide) rfl ?_
  refine gc_putF (ty := .array .int) [.int 0, .ref 48, .ref 49, .null, .null, .null, .null, .null, .null, .null, .int 0, .int 0, .null, .null, .null, .null, .int 0, .null, .null, .null, .int 0, .int 0, .null, .null, .null, .null, .null, .null, .int 0, .int 0, .null, .null, .null, .null, .int 0, .int 0, .null, .null, .null, .null, .null, .null, .null, .int 0, .null, .null, .null, .null, .int 0, .int 0] hp dX11_init_17 flX11_13 rfl (fun q hq => by cases hq; exact ⟨rfl, rfl, rfl⟩) rfl rfl rfl rfl ?_
  refine go_aload_n dX11_init_20 rfl ?_
  refine go_bipush (v := nI 64) dX11_init_21 (by decide) ?_
  refine gc_na0 64 50 hp (by first | rfl | simp) dX11_init_23 (by decide) (by decide) (by decide) rfl ?_
  refine gc_putF (ty := .array .int) [.int 0, .ref 48, .ref 49, .ref 50, .null, .null, .null, .null, .null, .null, .int 0, .int 0, .null, .null, .null, .null, .int 0, .null, .null, .null, .int 0, .int 0, .null, .null, .null, .null, .null, .null, .int 0, .int 0, .null, .null, .null, .null, .int 0, .int 0, .null, .null, .null, .null, .null, .null, .null, .int 0, .null, .null, .null, .null, .int 0, .int 0] hp dX11_init_25 flX11_16 rfl (fun q hq => by cases hq; exact ⟨rfl, rfl, rfl⟩) rfl rfl rfl rfl ?_
  refine go_aload_n dX11_init_28 rfl ?_
  refine go_bipush (v := nI 16) dX11_init_29 (by decide) ?_
  refine gc_na0 16 51 hp (by first | rfl | simp) dX11_init_31 (by decide) (by decide) (by decide) rfl ?_
  refine gc_putF (ty := .array .int) [.int 0, .ref 48, .ref 49, .ref 50, .ref 51, .null, .null, .null, .null, .null, .int 0, .int 0, .null, .null, .null, .null, .int 0, .null, .null, .null, .int 0, .int 0, .null, .null, .null, .null, .null, .null, .int 0, .int 0, .null, .null, .null, .null, .int 0, .int 0, .null, .null, .null, .null, .null, .null, .null, .int 0, .null, .null, .null, .null, .int 0, .int 0] hp dX11_init_33 flX11_19 rfl (fun q hq => by cases hq; exact ⟨rfl, rfl, rfl⟩) rfl rfl rfl rfl ?_
  refine go_aload_n dX11_init_36 rfl ?_
  refine go_bipush (v := nI 16) dX11_init_37 (by decide) ?_
  refine gc_na0 16 52 hp (by first | rfl | simp) dX11_init_39 (by decide) (by decide) (by decide) rfl ?_
  refine gc_putF (ty := .array .int) [.int 0, .ref 48, .ref 49, .ref 50, .ref 51, .ref 52, .null, .null, .null, .null, .int 0, .int 0, .null, .null, .null, .null, .int 0, .null, .null, .null, .int 0, .int 0, .null, .null, .null, .null, .null, .null, .int 0, .int 0, .null, .null, .null, .null, .int 0, .int 0, .null, .null, .null, .null, .null, .null, .null, .int 0, .null, .null, .null, .null, .int 0, .int 0] hp dX11_init_41 flX11_22 rfl (fun q hq => by cases hq; exact ⟨rfl, rfl, rfl⟩) rfl rfl rfl rfl ?_
  refine go_aload_n dX11_init_44 rfl ?_
  refine go_bipush (v := nI 16) dX11_init_45 (by decide) ?_
  refine gc_na0 16 53 hp (by first | rfl | simp) dX11_init_47 (by decide) (by decide) (by decide) rfl ?_
  refine gc_putF (ty := .array .int) [.int 0, .ref 48, .ref 49, .ref 50, .ref 51, .ref 52, .ref 53, .null, .null, .null, .int 0, .int 0, .null, .null, .null, .null, .int 0, .null, .null, .null, .int 0, .int 0, .null, .null, .null, .null, .null, .null, .int 0, .int 0, .null, .null, .null, .null, .int 0, .int 0, .null, .null, .null, .null, .null, .null, .null, .int 0, .null, .null, .null, .null, .int 0, .int 0] hp dX11_init_49 flX11_25 rfl (fun q hq => by cases hq; exact ⟨rfl, rfl, rfl⟩) rfl rfl rfl rfl ?_
  refine go_aload_n dX11_init_52 rfl ?_
  refine go_bipush (v := nI 16) dX11_init_53 (by decide) ?_
  refine gc_na0 16 54 hp (by first | rfl | simp) dX11_init_55 (by decide) (by decide) (by decide) rfl ?_
  refine gc_putF (ty := .array .int) [.int 0, .ref 48, .ref 49, .ref 50, .ref 51, .ref 52, .ref 53, .ref 54, .null, .null, .int 0, .int 0, .null, .null, .null, .null, .int 0, .null, .null, .null, .int 0, .int 0, .null, .null, .null, .null, .null, .null, .int 0, .int 0, .null, .null, .null, .null, .int 0, .int 0, .null, .null, .null, .null, .null, .null, .null, .int 0, .null, .null, .null, .null, .int 0, .int 0] hp dX11_init_57 flX11_28 rfl (fun q hq => by cases hq; exact ⟨rfl, rfl, rfl⟩) rfl rfl rfl rfl ?_
  refine go_aload_n dX11_init_60 rfl ?_
  refine go_bipush (v := nI 16) dX11_init_61 (by decide) ?_
  refine gc_na0 16 55 hp (by first | rfl | simp) dX11_init_63 (by decide) (by decide) (by decide) rfl ?_
  refine gc_putF (ty := .array .int) [.int 0, .ref 48, .ref 49, .ref 50, .ref 51, .ref 52, .ref 53, .ref 54, .ref 55, .null, .int 0, .int 0, .null, .null, .null, .null, .int 0, .null, .null, .null, .int 0, .int 0, .null, .null, .null, .null, .null, .null, .int 0, .int 0, .null, .null, .null, .null, .int 0, .int 0, .null, .null, .null, .null, .null, .null, .null, .int 0, .null, .null, .null, .null, .int 0, .int 0] hp dX11_init_65 flX11_31 rfl (fun q hq => by cases hq; exact ⟨rfl, rfl, rfl⟩) rfl rfl rfl rfl ?_
  refine go_aload_n dX11_init_68 rfl ?_
  refine go_bipush (v := nI 16) dX11_init_69 (by decide) ?_
  refine gc_na0 16 56 hp (by first | rfl | simp) dX11_init_71 (by decide) (by decide) (by decide) rfl ?_
  refine gc_putF (ty := .array .int) [.int 0, .ref 48, .ref 49, .ref 50, .ref 51, .ref 52, .ref 53, .ref 54, .ref 55, .ref 56, .int 0, .int 0, .null, .null, .null, .null, .int 0, .null, .null, .null, .int 0, .int 0, .null, .null, .null, .null, .null, .null, .int 0, .int 0, .null, .null, .null, .null, .int 0, .int 0, .null, .null, .null, .null, .null, .null, .null, .int 0, .null, .null, .null, .null, .int 0, .int 0] hp dX11_init_73 flX11_34 rfl (fun q hq => by cases hq; exact ⟨rfl, rfl, rfl⟩) rfl rfl rfl rfl ?_
  refine go_aload_n dX11_init_76 rfl ?_
  refine go_bipush (v := nI 9) dX11_init_77 (by decide) ?_
  refine gc_na0 9 57 hp (by first | rfl | simp) dX11_init_79 (by decide) (by decide) (by decide) rfl ?_
  refine gc_putF (ty := .array .int) [.int 0, .ref 48, .ref 49, .ref 50, .ref 51, .ref 52, .ref 53, .ref 54, .ref 55, .ref 56, .int 0, .int 0, .ref 57, .null, .null, .null, .int 0, .null, .null, .null, .int 0, .int 0, .null, .null, .null, .null, .null, .null, .int 0, .int 0, .null, .null, .null, .null, .int 0, .int 0, .null, .null, .null, .null, .null, .null, .null, .int 0, .null, .null, .null, .null, .int 0, .int 0] hp dX11_init_81 flX11_37 rfl (fun q hq => by cases hq; exact ⟨rfl, rfl, rfl⟩) rfl rfl rfl rfl ?_
  refine go_aload_n dX11_init_84 rfl ?_
  refine go_bipush (v := nI 9) dX11_init_85 (by decide) ?_
  refine gc_na0 9 58 hp (by first | rfl | simp) dX11_init_87 (by decide) (by decide) (by decide) rfl ?_
  refine gc_putF (ty := .array .int) [.int 0, .ref 48, .ref 49, .ref 50, .ref 51, .ref 52, .ref 53, .ref 54, .ref 55, .ref 56, .int 0, .int 0, .ref 57, .ref 58, .null, .null, .int 0, .null, .null, .null, .int 0, .int 0, .null, .null, .null, .null, .null, .null, .int 0, .int 0, .null, .null, .null, .null, .int 0, .int 0, .null, .null, .null, .null, .null, .null, .null, .int 0, .null, .null, .null, .null, .int 0, .int 0] hp dX11_init_89 flX11_40 rfl (fun q hq => by cases hq; exact ⟨rfl, rfl, rfl⟩) rfl rfl rfl rfl ?_
  refine go_aload_n dX11_init_92 rfl ?_
  refine go_bipush (v := nI 9) dX11_init_93 (by decide) ?_
  refine gc_na0 9 59 hp (by first | rfl | simp) dX11_init_95 (by decide) (by decide) (by decide) rfl ?_
  refine gc_putF (ty := .array .int) [.int 0, .ref 48, .ref 49, .ref 50, .ref 51, .ref 52, .ref 53, .ref 54, .ref 55, .ref 56, .int 0, .int 0, .ref 57, .ref 58, .ref 59, .null, .int 0, .null, .null, .null, .int 0, .int 0, .null, .null, .null, .null, .null, .null, .int 0, .int 0, .null, .null, .null, .null, .int 0, .int 0, .null, .null, .null, .null, .null, .null, .null, .int 0, .null, .null, .null, .null, .int 0, .int 0] hp dX11_init_97 flX11_43 rfl (fun q hq => by cases hq; exact ⟨rfl, rfl, rfl⟩) rfl rfl rfl rfl ?_
  refine go_aload_n dX11_init_100 rfl ?_
  refine go_bipush (v := nI 9) dX11_init_101 (by decide) ?_
  refine gc_na0 9 60 hp (by first | rfl | simp) dX11_init_103 (by decide) (by decide) (by decide) rfl ?_
  refine gc_putF (ty := .array .int) [.int 0, .ref 48, .ref 49, .ref 50, .ref 51, .ref 52, .ref 53, .ref 54, .ref 55, .ref 56, .int 0, .int 0, .ref 57, .ref 58, .ref 59, .ref 60, .int 0, .null, .null, .null, .int 0, .int 0, .null, .null, .null, .null, .null, .null, .int 0, .int 0, .null, .null, .null, .null, .int 0, .int 0, .null, .null, .null, .null, .null, .null, .null, .int 0, .null, .null, .null, .null, .int 0, .int 0] hp dX11_init_105 flX11_46 rfl (fun q hq => by cases hq; exact ⟨rfl, rfl, rfl⟩) rfl rfl rfl rfl ?_
  refine go_aload_n dX11_init_108 rfl ?_
  refine go_bipush (v := nI 6) dX11_init_109 (by decide) ?_
  refine gc_na0 6 61 hp (by first | rfl | simp) dX11_init_111 (by decide) (by decide) (by decide) rfl ?_
  refine gc_putF (ty := .array .int) [.int 0, .ref 48, .ref 49, .ref 50, .ref 51, .ref 52, .ref 53, .ref 54, .ref 55, .ref 56, .int 0, .int 0, .ref 57, .ref 58, .ref 59, .ref 60, .int 0, .ref 61, .null, .null, .int 0, .int 0, .null, .null, .null, .null, .null, .null, .int 0, .int 0, .null, .null, .null, .null, .int 0, .int 0, .null, .null, .null, .null, .null, .null, .null, .int 0, .null, .null, .null, .null, .int 0, .int 0] hp dX11_init_113 flX11_49 rfl (fun q hq => by cases hq; exact ⟨rfl, rfl, rfl⟩) rfl rfl rfl rfl ?_
  refine go_aload_n dX11_init_116 rfl ?_
  refine go_bipush (v := nI 96) dX11_init_117 (by decide) ?_
  refine gc_na0 96 62 hp (by first | rfl | simp) dX11_init_119 (by decide) (by decide) (by decide) rfl ?_
  refine gc_putF (ty := .array .int) [.int 0, .ref 48, .ref 49, .ref 50, .ref 51, .ref 52, .ref 53, .ref 54, .ref 55, .ref 56, .int 0, .int 0, .ref 57, .ref 58, .ref 59, .ref 60, .int 0, .ref 61, .ref 62, .null, .int 0, .int 0, .null, .null, .null, .null, .null, .null, .int 0, .int 0, .null, .null, .null, .null, .int 0, .int 0, .null, .null, .null, .null, .null, .null, .null, .int 0, .null, .null, .null, .null, .int 0, .int 0] hp dX11_init_121 flX11_52 rfl (fun q hq => by cases hq; exact ⟨rfl, rfl, rfl⟩) rfl rfl rfl rfl ?_
  refine go_aload_n dX11_init_124 rfl ?_
  refine go_bipush (v := nI 120) dX11_init_125 (by decide) ?_
  refine gc_na1 120 63 hp (by first | rfl | simp) dX11_init_127 (by decide) (by decide) (by decide) rfl ?_
  refine gc_putF (ty := .array .byte) [.int 0, .ref 48, .ref 49, .ref 50, .ref 51, .ref 52, .ref 53, .ref 54, .ref 55, .ref 56, .int 0, .int 0, .ref 57, .ref 58, .ref 59, .ref 60, .int 0, .ref 61, .ref 62, .ref 63, .int 0, .int 0, .null, .null, .null, .null, .null, .null, .int 0, .int 0, .null, .null, .null, .null, .int 0, .int 0, .null, .null, .null, .null, .null, .null, .null, .int 0, .null, .null, .null, .null, .int 0, .int 0] hp dX11_init_129 flX11_55 rfl (fun q hq => by cases hq; exact ⟨rfl, rfl, rfl⟩) rfl rfl rfl rfl ?_
  refine go_aload_n dX11_init_132 rfl ?_
  refine go_bipush (v := nI 12) dX11_init_133 (by decide) ?_
  refine gc_na3 12 64 hp (by first | rfl | simp) dX11_init_135 (by decide) (by decide) (by decide) rfl ?_
  refine gc_putF (ty := .array .boolean) [.int 0, .ref 48, .ref 49, .ref 50, .ref 51, .ref 52, .ref 53, .ref 54, .ref 55, .ref 56, .int 0, .int 0, .ref 57, .ref 58, .ref 59, .ref 60, .int 0, .ref 61, .ref 62, .ref 63, .int 0, .int 0, .ref 64, .null, .null, .null, .null, .null, .int 0, .int 0, .null, .null, .null, .null, .int 0, .int 0, .null, .null, .null, .null, .null, .null, .null, .int 0, .null, .null, .null, .null, .int 0, .int 0] hp dX11_init_137 flX11_59 rfl (fun q hq => by cases hq; exact ⟨rfl, rfl, rfl⟩) rfl rfl rfl rfl ?_
  refine go_aload_n dX11_init_140 rfl ?_
  refine go_bipush (v := nI 12) dX11_init_141 (by decide) ?_
  refine gc_na0 12 65 hp (by first | rfl | simp) dX11_init_143 (by decide) (by decide) (by decide) rfl ?_
  refine gc_putF (ty := .array .int) [.int 0, .ref 48, .ref 49, .ref 50, .ref 51, .ref 52, .ref 53, .ref 54, .ref 55, .ref 56, .int 0, .int 0, .ref 57, .ref 58, .ref 59, .ref 60, .int 0, .ref 61, .ref 62, .ref 63, .int 0, .int 0, .ref 64, .ref 65, .null, .null, .null, .null, .int 0, .int 0, .null, .null, .null, .null, .int 0, .int 0, .null, .null, .null, .null, .null, .null, .null, .int 0, .null, .null, .null, .null, .int 0, .int 0] hp dX11_init_145 flX11_63 rfl (fun q hq => by cases hq; exact ⟨rfl, rfl, rfl⟩) rfl rfl rfl rfl ?_
  refine go_aload_n dX11_init_148 rfl ?_
  refine go_bipush (v := nI 12) dX11_init_149 (by decide) ?_
  refine gc_na0 12 66 hp (by first | rfl | simp) dX11_init_151 (by decide) (by decide) (by decide) rfl ?_
  refine gc_putF (ty := .array .int) [.int 0, .ref 48, .ref 49, .ref 50, .ref 51, .ref 52, .ref 53, .ref 54, .ref 55, .ref 56, .int 0, .int 0, .ref 57, .ref 58, .ref 59, .ref 60, .int 0, .ref 61, .ref 62, .ref 63, .int 0, .int 0, .ref 64, .ref 65, .ref 66, .null, .null, .null, .int 0, .int 0, .null, .null, .null, .null, .int 0, .int 0, .null, .null, .null, .null, .null, .null, .null, .int 0, .null, .null, .null, .null, .int 0, .int 0] hp dX11_init_153 flX11_66 rfl (fun q hq => by cases hq; exact ⟨rfl, rfl, rfl⟩) rfl rfl rfl rfl ?_
  refine go_aload_n dX11_init_156 rfl ?_
  refine go_bipush (v := nI 24) dX11_init_157 (by decide) ?_
  refine gc_na0 24 67 hp (by first | rfl | simp) dX11_init_159 (by decide) (by decide) (by decide) rfl ?_
  refine gc_putF (ty := .array .int) [.int 0, .ref 48, .ref 49, .ref 50, .ref 51, .ref 52, .ref 53, .ref 54, .ref 55, .ref 56, .int 0, .int 0, .ref 57, .ref 58, .ref 59, .ref 60, .int 0, .ref 61, .ref 62, .ref 63, .int 0, .int 0, .ref 64, .ref 65, .ref 66, .ref 67, .null, .null, .int 0, .int 0, .null, .null, .null, .null, .int 0, .int 0, .null, .null, .null, .null, .null, .null, .null, .int 0, .null, .null, .null, .null, .int 0, .int 0] hp dX11_init_161 flX11_69 rfl (fun q hq => by cases hq; exact ⟨rfl, rfl, rfl⟩) rfl rfl rfl rfl ?_
  refine go_aload_n dX11_init_164 rfl ?_
  refine go_bipush (v := nI 24) dX11_init_165 (by decide) ?_
  refine gc_na0 24 68 hp (by first | rfl | simp) dX11_init_167 (by decide) (by decide) (by decide) rfl ?_
  refine gc_putF (ty := .array .int) [.int 0, .ref 48, .ref 49, .ref 50, .ref 51, .ref 52, .ref 53, .ref 54, .ref 55, .ref 56, .int 0, .int 0, .ref 57, .ref 58, .ref 59, .ref 60, .int 0, .ref 61, .ref 62, .ref 63, .int 0, .int 0, .ref 64, .ref 65, .ref 66, .ref 67, .ref 68, .null, .int 0, .int 0, .null, .null, .null, .null, .int 0, .int 0, .null, .null, .null, .null, .null, .null, .null, .int 0, .null, .null, .null, .null, .int 0, .int 0] hp dX11_init_169 flX11_72 rfl (fun q hq => by cases hq; exact ⟨rfl, rfl, rfl⟩) rfl rfl rfl rfl ?_
  refine go_aload_n dX11_init_172 rfl ?_
  refine go_bipush (v := nI 24) dX11_init_173 (by decide) ?_
  refine gc_na0 24 69 hp (by first | rfl | simp) dX11_init_175 (by decide) (by decide) (by decide) rfl ?_
  refine gc_putF (ty := .array .int) [.int 0, .ref 48, .ref 49, .ref 50, .ref 51, .ref 52, .ref 53, .ref 54, .ref 55, .ref 56, .int 0, .int 0, .ref 57, .ref 58, .ref 59, .ref 60, .int 0, .ref 61, .ref 62, .ref 63, .int 0, .int 0, .ref 64, .ref 65, .ref 66, .ref 67, .ref 68, .ref 69, .int 0, .int 0, .null, .null, .null, .null, .int 0, .int 0, .null, .null, .null, .null, .null, .null, .null, .int 0, .null, .null, .null, .null, .int 0, .int 0] hp dX11_init_177 flX11_75 rfl (fun q hq => by cases hq; exact ⟨rfl, rfl, rfl⟩) rfl rfl rfl rfl ?_
  refine go_aload_n dX11_init_180 rfl ?_
  refine go_bipush (v := nI 19) dX11_init_181 (by decide) ?_
  refine gc_na2 19 70 hp (by first | rfl | simp) dX11_init_183 (by decide) (by decide) (by decide) rfl ?_
  refine go_dup dX11_init_185 rfl ?_
  refine go_iconst (v := nI 0) dX11_init_186 (by decide) ?_
  refine go_bipush (v := nI 109) dX11_init_187 (by decide) ?_
  refine gc_cast (y := nI 109) 0 70 hp (by first | rfl | simp) dX11_init_189 rfl (by decide) rfl (by decide) ?_
  refine go_dup dX11_init_190 rfl ?_
  refine go_iconst (v := nI 1) dX11_init_191 (by decide) ?_
  refine go_bipush (v := nI 97) dX11_init_192 (by decide) ?_
  refine gc_cast (y := nI 97) 1 70 hp (by first | rfl | simp) dX11_init_194 rfl (by decide) rfl (by decide) ?_
  refine go_dup dX11_init_195 rfl ?_
  refine go_iconst (v := nI 2) dX11_init_196 (by decide) ?_
  refine go_bipush (v := nI 114) dX11_init_197 (by decide) ?_
  refine gc_cast (y := nI 114) 2 70 hp (by first | rfl | simp) dX11_init_199 rfl (by decide) rfl (by decide) ?_
  refine go_dup dX11_init_200 rfl ?_
  refine go_iconst (v := nI 3) dX11_init_201 (by decide) ?_
  refine go_bipush (v := nI 107) dX11_init_202 (by decide) ?_
  refine gc_cast (y := nI 107) 3 70 hp (by first | rfl | simp) dX11_init_204 rfl (by decide) rfl (by decide) ?_
  refine go_dup dX11_init_205 rfl ?_
  refine go_iconst (v := nI 4) dX11_init_206 (by decide) ?_
  refine go_bipush (v := nI 104) dX11_init_207 (by decide) ?_
  refine gc_cast (y := nI 104) 4 70 hp (by first | rfl | simp) dX11_init_209 rfl (by decide) rfl (by decide) ?_
  refine go_dup dX11_init_210 rfl ?_
  refine go_iconst (v := nI 5) dX11_init_211 (by decide) ?_
  refine go_bipush (v := nI 97) dX11_init_212 (by decide) ?_
  refine gc_cast (y := nI 97) 5 70 hp (by first | rfl | simp) dX11_init_214 rfl (by decide) rfl (by decide) ?_
  refine go_dup dX11_init_215 rfl ?_
  refine go_bipush (v := nI 6) dX11_init_216 (by decide) ?_
  refine go_bipush (v := nI 114) dX11_init_218 (by decide) ?_
  refine gc_cast (y := nI 114) 6 70 hp (by first | rfl | simp) dX11_init_220 rfl (by decide) rfl (by decide) ?_
  refine go_dup dX11_init_221 rfl ?_
  refine go_bipush (v := nI 7) dX11_init_222 (by decide) ?_
  refine go_bipush (v := nI 100) dX11_init_224 (by decide) ?_
  refine gc_cast (y := nI 100) 7 70 hp (by first | rfl | simp) dX11_init_226 rfl (by decide) rfl (by decide) ?_
  refine go_dup dX11_init_227 rfl ?_
  refine go_bipush (v := nI 8) dX11_init_228 (by decide) ?_
  refine go_bipush (v := nI 116) dX11_init_230 (by decide) ?_
  refine gc_cast (y := nI 116) 8 70 hp (by first | rfl | simp) dX11_init_232 rfl (by decide) rfl (by decide) ?_
  refine go_dup dX11_init_233 rfl ?_
  refine go_bipush (v := nI 9) dX11_init_234 (by decide) ?_
  refine go_bipush (v := nI 111) dX11_init_236 (by decide) ?_
  refine gc_cast (y := nI 111) 9 70 hp (by first | rfl | simp) dX11_init_238 rfl (by decide) rfl (by decide) ?_
  refine go_dup dX11_init_239 rfl ?_
  refine go_bipush (v := nI 10) dX11_init_240 (by decide) ?_
  refine go_bipush (v := nI 119) dX11_init_242 (by decide) ?_
  refine gc_cast (y := nI 119) 10 70 hp (by first | rfl | simp) dX11_init_244 rfl (by decide) rfl (by decide) ?_
  refine go_dup dX11_init_245 rfl ?_
  refine go_bipush (v := nI 11) dX11_init_246 (by decide) ?_
  refine go_bipush (v := nI 110) dX11_init_248 (by decide) ?_
  refine gc_cast (y := nI 110) 11 70 hp (by first | rfl | simp) dX11_init_250 rfl (by decide) rfl (by decide) ?_
  refine go_dup dX11_init_251 rfl ?_
  refine go_bipush (v := nI 12) dX11_init_252 (by decide) ?_
  refine go_bipush (v := nI 115) dX11_init_254 (by decide) ?_
  refine gc_cast (y := nI 115) 12 70 hp (by first | rfl | simp) dX11_init_256 rfl (by decide) rfl (by decide) ?_
  refine go_dup dX11_init_257 rfl ?_
  refine go_bipush (v := nI 13) dX11_init_258 (by decide) ?_
  refine go_bipush (v := nI 105) dX11_init_260 (by decide) ?_
  refine gc_cast (y := nI 105) 13 70 hp (by first | rfl | simp) dX11_init_262 rfl (by decide) rfl (by decide) ?_
  refine go_dup dX11_init_263 rfl ?_
  refine go_bipush (v := nI 14) dX11_init_264 (by decide) ?_
  refine go_bipush (v := nI 122) dX11_init_266 (by decide) ?_
  refine gc_cast (y := nI 122) 14 70 hp (by first | rfl | simp) dX11_init_268 rfl (by decide) rfl (by decide) ?_
  refine go_dup dX11_init_269 rfl ?_
  refine go_bipush (v := nI 15) dX11_init_270 (by decide) ?_
  refine go_bipush (v := nI 101) dX11_init_272 (by decide) ?_
  refine gc_cast (y := nI 101) 15 70 hp (by first | rfl | simp) dX11_init_274 rfl (by decide) rfl (by decide) ?_
  refine go_dup dX11_init_275 rfl ?_
  refine go_bipush (v := nI 16) dX11_init_276 (by decide) ?_
  refine go_bipush (v := nI 100) dX11_init_278 (by decide) ?_
  refine gc_cast (y := nI 100) 16 70 hp (by first | rfl | simp) dX11_init_280 rfl (by decide) rfl (by decide) ?_
  refine go_dup dX11_init_281 rfl ?_
  refine go_bipush (v := nI 17) dX11_init_282 (by decide) ?_
  refine go_bipush (v := nI 97) dX11_init_284 (by decide) ?_
  refine gc_cast (y := nI 97) 17 70 hp (by first | rfl | simp) dX11_init_286 rfl (by decide) rfl (by decide) ?_
  refine go_dup dX11_init_287 rfl ?_
  refine go_bipush (v := nI 18) dX11_init_288 (by decide) ?_
  refine go_bipush (v := nI 121) dX11_init_290 (by decide) ?_
  refine gc_cast (y := nI 121) 18 70 hp (by first | rfl | simp) dX11_init_292 rfl (by decide) rfl (by decide) ?_
  refine gc_putF (ty := .array .char) [.int 0, .ref 48, .ref 49, .ref 50, .ref 51, .ref 52, .ref 53, .ref 54, .ref 55, .ref 56, .int 0, .int 0, .ref 57, .ref 58, .ref 59, .ref 60, .int 0, .ref 61, .ref 62, .ref 63, .int 0, .int 0, .ref 64, .ref 65, .ref 66, .ref 67, .ref 68, .ref 69, .int 0, .int 0, .ref 70, .null, .null, .null, .int 0, .int 0, .null, .null, .null, .null, .null, .null, .null, .int 0, .null, .null, .null, .null, .int 0, .int 0] hp dX11_init_293 flX11_78 rfl (fun q hq => by cases hq; exact ⟨rfl, rfl, rfl⟩) rfl rfl rfl rfl ?_
  refine go_aload_n dX11_init_296 rfl ?_
  refine go_iconst (v := nI 5) dX11_init_297 (by decide) ?_
  refine gc_na0 5 71 hp (by first | rfl | simp) dX11_init_298 (by decide) (by decide) (by decide) rfl ?_
  refine go_dup dX11_init_300 rfl ?_
  refine go_iconst (v := nI 0) dX11_init_301 (by decide) ?_
  refine go_iconst (v := nI 0) dX11_init_302 (by decide) ?_
  refine gc_iast (y := nI 0) 0 71 hp (by first | rfl | simp) dX11_init_303 rfl (by decide) rfl rfl ?_
  refine go_dup dX11_init_304 rfl ?_
  refine go_iconst (v := nI 1) dX11_init_305 (by decide) ?_
  refine go_iconst (v := nI 4) dX11_init_306 (by decide) ?_
  refine gc_iast (y := nI 4) 1 71 hp (by first | rfl | simp) dX11_init_307 rfl (by decide) rfl rfl ?_
  refine go_dup dX11_init_308 rfl ?_
  refine go_iconst (v := nI 2) dX11_init_309 (by decide) ?_
  refine go_bipush (v := nI 8) dX11_init_310 (by decide) ?_
  refine gc_iast (y := nI 8) 2 71 hp (by first | rfl | simp) dX11_init_312 rfl (by decide) rfl rfl ?_
  refine go_dup dX11_init_313 rfl ?_
  refine go_iconst (v := nI 3) dX11_init_314 (by decide) ?_
  refine go_bipush (v := nI 12) dX11_init_315 (by decide) ?_
  refine gc_iast (y := nI 12) 3 71 hp (by first | rfl | simp) dX11_init_317 rfl (by decide) rfl rfl ?_
  refine go_dup dX11_init_318 rfl ?_
  refine go_iconst (v := nI 4) dX11_init_319 (by decide) ?_
  refine go_bipush (v := nI 16) dX11_init_320 (by decide) ?_
  refine gc_iast (y := nI 16) 4 71 hp (by first | rfl | simp) dX11_init_322 rfl (by decide) rfl rfl ?_
  refine gc_putF (ty := .array .int) [.int 0, .ref 48, .ref 49, .ref 50, .ref 51, .ref 52, .ref 53, .ref 54, .ref 55, .ref 56, .int 0, .int 0, .ref 57, .ref 58, .ref 59, .ref 60, .int 0, .ref 61, .ref 62, .ref 63, .int 0, .int 0, .ref 64, .ref 65, .ref 66, .ref 67, .ref 68, .ref 69, .int 0, .int 0, .ref 70, .ref 71, .null, .null, .int 0, .int 0, .null, .null, .null, .null, .null, .null, .null, .int 0, .null, .null, .null, .null, .int 0, .int 0] hp dX11_init_323 flX11_82 rfl (fun q hq => by cases hq; exact ⟨rfl, rfl, rfl⟩) rfl rfl rfl rfl ?_
  refine go_aload_n dX11_init_326 rfl ?_
  refine go_iconst (v := nI 5) dX11_init_327 (by decide) ?_
  refine gc_na0 5 72 hp (by first | rfl | simp) dX11_init_328 (by decide) (by decide) (by decide) rfl ?_
  refine go_dup dX11_init_330 rfl ?_
  refine go_iconst (v := nI 0) dX11_init_331 (by decide) ?_
  refine go_iconst (v := nI 4) dX11_init_332 (by decide) ?_
  refine gc_iast (y := nI 4) 0 72 hp (by first | rfl | simp) dX11_init_333 rfl (by decide) rfl rfl ?_
  refine go_dup dX11_init_334 rfl ?_
  refine go_iconst (v := nI 1) dX11_init_335 (by decide) ?_
  refine go_iconst (v := nI 4) dX11_init_336 (by decide) ?_
  refine gc_iast (y := nI 4) 1 72 hp (by first | rfl | simp) dX11_init_337 rfl (by decide) rfl rfl ?_
  refine go_dup dX11_init_338 rfl ?_
  refine go_iconst (v := nI 2) dX11_init_339 (by decide) ?_
  refine go_iconst (v := nI 4) dX11_init_340 (by decide) ?_
  refine gc_iast (y := nI 4) 2 72 hp (by first | rfl | simp) dX11_init_341 rfl (by decide) rfl rfl ?_
  refine go_dup dX11_init_342 rfl ?_
  refine go_iconst (v := nI 3) dX11_init_343 (by decide) ?_
  refine go_iconst (v := nI 4) dX11_init_344 (by decide) ?_
  refine gc_iast (y := nI 4) 3 72 hp (by first | rfl | simp) dX11_init_345 rfl (by decide) rfl rfl ?_
  refine go_dup dX11_init_346 rfl ?_
  refine go_iconst (v := nI 4) dX11_init_347 (by decide) ?_
  refine go_iconst (v := nI 3) dX11_init_348 (by decide) ?_
  refine gc_iast (y := nI 3) 4 72 hp (by first | rfl | simp) dX11_init_349 rfl (by decide) rfl rfl ?_
  refine gc_putF (ty := .array .int) [.int 0, .ref 48, .ref 49, .ref 50, .ref 51, .ref 52, .ref 53, .ref 54, .ref 55, .ref 56, .int 0, .int 0, .ref 57, .ref 58, .ref 59, .ref 60, .int 0, .ref 61, .ref 62, .ref 63, .int 0, .int 0, .ref 64, .ref 65, .ref 66, .ref 67, .ref 68, .ref 69, .int 0, .int 0, .ref 70, .ref 71, .ref 72, .null, .int 0, .int 0, .null, .null, .null, .null, .null, .null, .null, .int 0, .null, .null, .null, .null, .int 0, .int 0] hp dX11_init_350 flX11_85 rfl (fun q hq => by cases hq; exact ⟨rfl, rfl, rfl⟩) rfl rfl rfl rfl ?_
  refine go_aload_n dX11_init_353 rfl ?_
  refine go_bipush (v := nI 8) dX11_init_354 (by decide) ?_
  refine gc_na0 8 73 hp (by first | rfl | simp) dX11_init_356 (by decide) (by decide) (by decide) rfl ?_
  refine gc_putF (ty := .array .int) [.int 0, .ref 48, .ref 49, .ref 50, .ref 51, .ref 52, .ref 53, .ref 54, .ref 55, .ref 56, .int 0, .int 0, .ref 57, .ref 58, .ref 59, .ref 60, .int 0, .ref 61, .ref 62, .ref 63, .int 0, .int 0, .ref 64, .ref 65, .ref 66, .ref 67, .ref 68, .ref 69, .int 0, .int 0, .ref 70, .ref 71, .ref 72, .ref 73, .int 0, .int 0, .null, .null, .null, .null, .null, .null, .null, .int 0, .null, .null, .null, .null, .int 0, .int 0] hp dX11_init_358 flX11_88 rfl (fun q hq => by cases hq; exact ⟨rfl, rfl, rfl⟩) rfl rfl rfl rfl ?_
  refine go_aload_n dX11_init_361 rfl ?_
  refine go_iconst (v := nI 4) dX11_init_362 (by decide) ?_
  refine gc_put (ty := .int) [.int 0, .ref 48, .ref 49, .ref 50, .ref 51, .ref 52, .ref 53, .ref 54, .ref 55, .ref 56, .int 0, .int 0, .ref 57, .ref 58, .ref 59, .ref 60, .int 0, .ref 61, .ref 62, .ref 63, .int 0, .int 0, .ref 64, .ref 65, .ref 66, .ref 67, .ref 68, .ref 69, .int 0, .int 0, .ref 70, .ref 71, .ref 72, .ref 73, .int (nI 4), .int 0, .null, .null, .null, .null, .null, .null, .null, .int 0, .null, .null, .null, .null, .int 0, .int 0] hp dX11_init_363 flX11_91 (fun q hq => by cases hq; exact ⟨rfl, rfl⟩) rfl rfl rfl rfl ?_
  refine go_aload_n dX11_init_366 rfl ?_
  refine go_bipush (v := nI 20) dX11_init_367 (by decide) ?_
  refine gc_put (ty := .int) [.int 0, .ref 48, .ref 49, .ref 50, .ref 51, .ref 52, .ref 53, .ref 54, .ref 55, .ref 56, .int 0, .int 0, .ref 57, .ref 58, .ref 59, .ref 60, .int 0, .ref 61, .ref 62, .ref 63, .int 0, .int 0, .ref 64, .ref 65, .ref 66, .ref 67, .ref 68, .ref 69, .int 0, .int 0, .ref 70, .ref 71, .ref 72, .ref 73, .int (nI 4), .int (nI 20), .null, .null, .null, .null, .null, .null, .null, .int 0, .null, .null, .null, .null, .int 0, .int 0] hp dX11_init_369 flX11_95 (fun q hq => by cases hq; exact ⟨rfl, rfl⟩) rfl rfl rfl rfl ?_
  refine go_aload_n dX11_init_372 rfl ?_
  refine go_iconst (v := nI 4) dX11_init_373 (by decide) ?_
  refine gc_na0 4 74 hp (by first | rfl | simp) dX11_init_374 (by decide) (by decide) (by decide) rfl ?_
  refine gc_putF (ty := .array .int) [.int 0, .ref 48, .ref 49, .ref 50, .ref 51, .ref 52, .ref 53, .ref 54, .ref 55, .ref 56, .int 0, .int 0, .ref 57, .ref 58, .ref 59, .ref 60, .int 0, .ref 61, .ref 62, .ref 63, .int 0, .int 0, .ref 64, .ref 65, .ref 66, .ref 67, .ref 68, .ref 69, .int 0, .int 0, .ref 70, .ref 71, .ref 72, .ref 73, .int (nI 4), .int (nI 20), .ref 74, .null, .null, .null, .null, .null, .null, .int 0, .null, .null, .null, .null, .int 0, .int 0] hp dX11_init_376 flX11_98 rfl (fun q hq => by cases hq; exact ⟨rfl, rfl, rfl⟩) rfl rfl rfl rfl ?_
  refine go_aload_n dX11_init_379 rfl ?_
  refine go_iconst (v := nI 4) dX11_init_380 (by decide) ?_
  refine gc_na0 4 75 hp (by first | rfl | simp) dX11_init_381 (by decide) (by decide) (by decide) rfl ?_
  refine gc_putF (ty := .array .int) [.int 0, .ref 48, .ref 49, .ref 50, .ref 51, .ref 52, .ref 53, .ref 54, .ref 55, .ref 56, .int 0, .int 0, .ref 57, .ref 58, .ref 59, .ref 60, .int 0, .ref 61, .ref 62, .ref 63, .int 0, .int 0, .ref 64, .ref 65, .ref 66, .ref 67, .ref 68, .ref 69, .int 0, .int 0, .ref 70, .ref 71, .ref 72, .ref 73, .int (nI 4), .int (nI 20), .ref 74, .ref 75, .null, .null, .null, .null, .null, .int 0, .null, .null, .null, .null, .int 0, .int 0] hp dX11_init_383 flX11_101 rfl (fun q hq => by cases hq; exact ⟨rfl, rfl, rfl⟩) rfl rfl rfl rfl ?_
  refine go_aload_n dX11_init_386 rfl ?_
  refine go_sipush (v := nI 144) dX11_init_387 (by decide) ?_
  refine gc_na3 144 76 hp (by first | rfl | simp) dX11_init_390 (by decide) (by decide) (by decide) rfl ?_
  refine gc_putF (ty := .array .boolean) [.int 0, .ref 48, .ref 49, .ref 50, .ref 51, .ref 52, .ref 53, .ref 54, .ref 55, .ref 56, .int 0, .int 0, .ref 57, .ref 58, .ref 59, .ref 60, .int 0, .ref 61, .ref 62, .ref 63, .int 0, .int 0, .ref 64, .ref 65, .ref 66, .ref 67, .ref 68, .ref 69, .int 0, .int 0, .ref 70, .ref 71, .ref 72, .ref 73, .int (nI 4), .int (nI 20), .ref 74, .ref 75, .ref 76, .null, .null, .null, .null, .int 0, .null, .null, .null, .null, .int 0, .int 0] hp dX11_init_392 flX11_104 rfl (fun q hq => by cases hq; exact ⟨rfl, rfl, rfl⟩) rfl rfl rfl rfl ?_
  refine go_aload_n dX11_init_395 rfl ?_
  refine go_bipush (v := nI 9) dX11_init_396 (by decide) ?_
  refine gc_na3 9 77 hp (by first | rfl | simp) dX11_init_398 (by decide) (by decide) (by decide) rfl ?_
  refine gc_putF (ty := .array .boolean) [.int 0, .ref 48, .ref 49, .ref 50, .ref 51, .ref 52, .ref 53, .ref 54, .ref 55, .ref 56, .int 0, .int 0, .ref 57, .ref 58, .ref 59, .ref 60, .int 0, .ref 61, .ref 62, .ref 63, .int 0, .int 0, .ref 64, .ref 65, .ref 66, .ref 67, .ref 68, .ref 69, .int 0, .int 0, .ref 70, .ref 71, .ref 72, .ref 73, .int (nI 4), .int (nI 20), .ref 74, .ref 75, .ref 76, .ref 77, .null, .null, .null, .int 0, .null, .null, .null, .null, .int 0, .int 0] hp dX11_init_400 flX11_107 rfl (fun q hq => by cases hq; exact ⟨rfl, rfl, rfl⟩) rfl rfl rfl rfl ?_
  refine go_aload_n dX11_init_403 rfl ?_
  refine go_bipush (v := nI 81) dX11_init_404 (by decide) ?_
  refine gc_na0 81 78 hp (by first | rfl | simp) dX11_init_406 (by decide) (by decide) (by decide) rfl ?_
  refine gc_putF (ty := .array .int) [.int 0, .ref 48, .ref 49, .ref 50, .ref 51, .ref 52, .ref 53, .ref 54, .ref 55, .ref 56, .int 0, .int 0, .ref 57, .ref 58, .ref 59, .ref 60, .int 0, .ref 61, .ref 62, .ref 63, .int 0, .int 0, .ref 64, .ref 65, .ref 66, .ref 67, .ref 68, .ref 69, .int 0, .int 0, .ref 70, .ref 71, .ref 72, .ref 73, .int (nI 4), .int (nI 20), .ref 74, .ref 75, .ref 76, .ref 77, .ref 78, .null, .null, .int 0, .null, .null, .null, .null, .int 0, .int 0] hp dX11_init_408 flX11_110 rfl (fun q hq => by cases hq; exact ⟨rfl, rfl, rfl⟩) rfl rfl rfl rfl ?_
  refine go_aload_n dX11_init_411 rfl ?_
  refine go_sipush (v := nI 4608) dX11_init_412 (by decide) ?_
  refine gc_na0 4608 79 hp (by first | rfl | simp) dX11_init_415 (by decide) (by decide) (by decide) rfl ?_
  refine gc_putF (ty := .array .int) [.int 0, .ref 48, .ref 49, .ref 50, .ref 51, .ref 52, .ref 53, .ref 54, .ref 55, .ref 56, .int 0, .int 0, .ref 57, .ref 58, .ref 59, .ref 60, .int 0, .ref 61, .ref 62, .ref 63, .int 0, .int 0, .ref 64, .ref 65, .ref 66, .ref 67, .ref 68, .ref 69, .int 0, .int 0, .ref 70, .ref 71, .ref 72, .ref 73, .int (nI 4), .int (nI 20), .ref 74, .ref 75, .ref 76, .ref 77, .ref 78, .ref 79, .null, .int 0, .null, .null, .null, .null, .int 0, .int 0] hp dX11_init_417 flX11_113 rfl (fun q hq => by cases hq; exact ⟨rfl, rfl, rfl⟩) rfl rfl rfl rfl ?_
  refine go_aload_n dX11_init_420 rfl ?_
  refine go_bipush (v := nI 9) dX11_init_421 (by decide) ?_
  refine gc_na0 9 80 hp (by first | rfl | simp) dX11_init_423 (by decide) (by decide) (by decide) rfl ?_
  refine gc_putF (ty := .array .int) [.int 0, .ref 48, .ref 49, .ref 50, .ref 51, .ref 52, .ref 53, .ref 54, .ref 55, .ref 56, .int 0, .int 0, .ref 57, .ref 58, .ref 59, .ref 60, .int 0, .ref 61, .ref 62, .ref 63, .int 0, .int 0, .ref 64, .ref 65, .ref 66, .ref 67, .ref 68, .ref 69, .int 0, .int 0, .ref 70, .ref 71, .ref 72, .ref 73, .int (nI 4), .int (nI 20), .ref 74, .ref 75, .ref 76, .ref 77, .ref 78, .ref 79, .ref 80, .int 0, .null, .null, .null, .null, .int 0, .int 0] hp dX11_init_425 flX11_116 rfl (fun q hq => by cases hq; exact ⟨rfl, rfl, rfl⟩) rfl rfl rfl rfl ?_
  refine go_aload_n dX11_init_428 rfl ?_
  refine go_bipush (v := nI 96) dX11_init_429 (by decide) ?_
  refine gc_na0 96 81 hp (by first | rfl | simp) dX11_init_431 (by decide) (by decide) (by decide) rfl ?_
  refine gc_putF (ty := .array .int) [.int 0, .ref 48, .ref 49, .ref 50, .ref 51, .ref 52, .ref 53, .ref 54, .ref 55, .ref 56, .int 0, .int 0, .ref 57, .ref 58, .ref 59, .ref 60, .int 0, .ref 61, .ref 62, .ref 63, .int 0, .int 0, .ref 64, .ref 65, .ref 66, .ref 67, .ref 68, .ref 69, .int 0, .int 0, .ref 70, .ref 71, .ref 72, .ref 73, .int (nI 4), .int (nI 20), .ref 74, .ref 75, .ref 76, .ref 77, .ref 78, .ref 79, .ref 80, .int 0, .ref 81, .null, .null, .null, .int 0, .int 0] hp dX11_init_433 flX11_119 rfl (fun q hq => by cases hq; exact ⟨rfl, rfl, rfl⟩) rfl rfl rfl rfl ?_
  refine go_aload_n dX11_init_436 rfl ?_
  refine go_bipush (v := nI 96) dX11_init_437 (by decide) ?_
  refine gc_na0 96 82 hp (by first | rfl | simp) dX11_init_439 (by decide) (by decide) (by decide) rfl ?_
  refine gc_putF (ty := .array .int) [.int 0, .ref 48, .ref 49, .ref 50, .ref 51, .ref 52, .ref 53, .ref 54, .ref 55, .ref 56, .int 0, .int 0, .ref 57, .ref 58, .ref 59, .ref 60, .int 0, .ref 61, .ref 62, .ref 63, .int 0, .int 0, .ref 64, .ref 65, .ref 66, .ref 67, .ref 68, .ref 69, .int 0, .int 0, .ref 70, .ref 71, .ref 72, .ref 73, .int (nI 4), .int (nI 20), .ref 74, .ref 75, .ref 76, .ref 77, .ref 78, .ref 79, .ref 80, .int 0, .ref 81, .ref 82, .null, .null, .int 0, .int 0] hp dX11_init_441 flX11_122 rfl (fun q hq => by cases hq; exact ⟨rfl, rfl, rfl⟩) rfl rfl rfl rfl ?_
  refine go_aload_n dX11_init_444 rfl ?_
  refine go_bipush (v := nI 8) dX11_init_445 (by decide) ?_
  refine gc_na0 8 83 hp (by first | rfl | simp) dX11_init_447 (by decide) (by decide) (by decide) rfl ?_
  refine gc_putF (ty := .array .int) [.int 0, .ref 48, .ref 49, .ref 50, .ref 51, .ref 52, .ref 53, .ref 54, .ref 55, .ref 56, .int 0, .int 0, .ref 57, .ref 58, .ref 59, .ref 60, .int 0, .ref 61, .ref 62, .ref 63, .int 0, .int 0, .ref 64, .ref 65, .ref 66, .ref 67, .ref 68, .ref 69, .int 0, .int 0, .ref 70, .ref 71, .ref 72, .ref 73, .int (nI 4), .int (nI 20), .ref 74, .ref 75, .ref 76, .ref 77, .ref 78, .ref 79, .ref 80, .int 0, .ref 81, .ref 82, .ref 83, .null, .int 0, .int 0] hp dX11_init_449 flX11_125 rfl (fun q hq => by cases hq; exact ⟨rfl, rfl, rfl⟩) rfl rfl rfl rfl ?_
  refine go_aload_n dX11_init_452 rfl ?_
  refine go_bipush (v := nI 16) dX11_init_453 (by decide) ?_
  refine gc_na0 16 84 hp (by first | rfl | simp) dX11_init_455 (by decide) (by decide) (by decide) rfl ?_
  refine gc_putF (ty := .array .int) [.int 0, .ref 48, .ref 49, .ref 50, .ref 51, .ref 52, .ref 53, .ref 54, .ref 55, .ref 56, .int 0, .int 0, .ref 57, .ref 58, .ref 59, .ref 60, .int 0, .ref 61, .ref 62, .ref 63, .int 0, .int 0, .ref 64, .ref 65, .ref 66, .ref 67, .ref 68, .ref 69, .int 0, .int 0, .ref 70, .ref 71, .ref 72, .ref 73, .int (nI 4), .int (nI 20), .ref 74, .ref 75, .ref 76, .ref 77, .ref 78, .ref 79, .ref 80, .int 0, .ref 81, .ref 82, .ref 83, .ref 84, .int 0, .int 0] hp dX11_init_457 flX11_128 rfl (fun q hq => by cases hq; exact ⟨rfl, rfl, rfl⟩) rfl rfl rfl rfl ?_
  refine go_aload_n dX11_init_460 rfl ?_
  refine go_iconst (v := nI 2) dX11_init_461 (by decide) ?_
  refine gc_put (ty := .int) [.int 0, .ref 48, .ref 49, .ref 50, .ref 51, .ref 52, .ref 53, .ref 54, .ref 55, .ref 56, .int 0, .int 0, .ref 57, .ref 58, .ref 59, .ref 60, .int 0, .ref 61, .ref 62, .ref 63, .int 0, .int 0, .ref 64, .ref 65, .ref 66, .ref 67, .ref 68, .ref 69, .int 0, .int 0, .ref 70, .ref 71, .ref 72, .ref 73, .int (nI 4), .int (nI 20), .ref 74, .ref 75, .ref 76, .ref 77, .ref 78, .ref 79, .ref 80, .int 0, .ref 81, .ref 82, .ref 83, .ref 84, .int 0, .int (nI 2)] hp dX11_init_462 flX11_131 (fun q hq => by cases hq; exact ⟨rfl, rfl⟩) rfl rfl rfl rfl ?_
  refine go_vret dX11_init_465 rfl rfl ?_
  exact ⟨rfl, rfl⟩
/-- what the cells hold behind both constructors -/
def s_0 : wg_S := fun p => match p with
  | 16 => fil 96 (-1) (fun _ => 0) 96
  | 17 => upd (fun _ => 0) 3 (-1)
  | 29 => upd (upd (fun _ => 0) 0 (nI 4)) 1 (nI 20)
  | 30 => fil 16 (-1) (fun _ => 0) 16
  | 31 => fil 16 (-1) (fun _ => 0) 16
  | 41 => fil 96 (-1) (fun _ => 0) 96
  | 45 => fil 16 (-1) (fun _ => 0) 16
  | 46 => upd (fun _ => 0) 0 (nI 2)
  | 47 => upd (upd (upd (fun _ => 0) 34 (nI 4)) 35 (nI 20)) 49 (nI 2)
  | 70 => upd (upd (upd (upd (upd (upd (upd (upd (upd (upd (upd (upd (upd (upd (upd (upd (upd (upd (upd (fun _ => 0) 0 (nI 109)) 1 (nI 97)) 2 (nI 114)) 3 (nI 107)) 4 (nI 104)) 5 (nI 97)) 6 (nI 114)) 7 (nI 100)) 8 (nI 116)) 9 (nI 111)) 10 (nI 119)) 11 (nI 110)) 12 (nI 115)) 13 (nI 105)) 14 (nI 122)) 15 (nI 101)) 16 (nI 100)) 17 (nI 97)) 18 (nI 121)
  | 71 => upd (upd (upd (upd (upd (fun _ => 0) 0 (nI 0)) 1 (nI 4)) 2 (nI 8)) 3 (nI 12)) 4 (nI 16)
  | 72 => upd (upd (upd (upd (upd (fun _ => 0) 0 (nI 4)) 1 (nI 4)) 2 (nI 4)) 3 (nI 4)) 4 (nI 3)
  | _ => fun _ => 0
set_option maxRecDepth 100000 in
theorem s_0_wd : [] ++ LX10_init ++ LX11_init = wd (gg false) s_0 := by
  simp only [LX10_init, LX0_init, LX7_init, LX2_init, LX9_init, LX6_init, LX8_init, LX5_init, LX1_init, LX3_init, LX4_init, LX11_init]
  rfl
