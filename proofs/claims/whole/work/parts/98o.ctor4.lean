/-! constructors: Stock -/
def oStock (cI : ClassId) (h0 : Nat) (ad : Nat → Nat) : va_W := [(h0, .inr (3, [.ref (ad 0), .ref (ad 1), .ref (ad 2), .int (nI 0), .ref (ad 3), .ref (ad 4), .int (nI 0), .ref (ad 5), .ref (ad 6), .ref (ad 7), .ref (ad 8), .int (nI 1)])), (ad 0, .inl (cI, 16, .inl (fun _ => nI 0))), (ad 1, .inl (cI, 16, .inl (fun _ => nI 0))), (ad 2, .inl (cI, 16, .inl (fun _ => nI 0))), (ad 3, .inl (cI, 96, .inl (fun _ => nI 0))), (ad 4, .inl (cI, 24, .inl (fun _ => nI 0))), (ad 5, .inl (cI, 2, .inl (fun _ => nI 0))), (ad 6, .inl (cI, 2, .inl (fun _ => nI 0))), (ad 7, .inl (cI, 10, .inl (fun _ => nI 0))), oSlip (ad 8)]
set_option maxHeartbeats 16000000 in
set_option maxRecDepth 100000 in
theorem K_X3_init : KG 2 9 187 mX3_init 3 [.null, .null, .null, .int 0, .null, .null, .int 0, .null, .null, .null, .null, .int 0] (fun cI _ h0 ad => oStock cI h0 ad) := by
  intro l D cI cS h0 sz
  refine Met.ofW (cc := mX3_init.2.1) (maxL := 1) (ret := none) (by decide) rfl ?_
  intro p e s m args below meth c s₁ B hml hv
  obtain ⟨rfl, hsz, hP, hK, hD0⟩ := hv
  have hx := B.exec
  have hb := B.bytes
  have hr := B.returns
  have hts0 := atoms_spec (ws := wsM mX3_init) B.pre
  have hts : ∀ w ∈ tblG, w.before _ s = true := fun w hw => hts0 w (List.mem_cons_of_mem _ hw)
  have hown : s.vm.findClass RX3 = some m.cls := findClass_of_methodNamed B.named
  have hin : meth.name = "<init>" := (name_of_methodNamed B.named B.method).1
  subst hsz
  have hD := hD0.self (sz := s.heap.size)
  generalize hAe : va_A [(h0, .inr (3, [.null, .null, .null, .int 0, .null, .null, .int 0, .null, .null, .null, .null, .int 0]))] s.heap.size = A at hD ⊢
  have hA : ∀ q : Nat, s.heap.size ≤ q → A q := fun q h => by rw [← hAe]; exact Or.inr h
  have hS : va_S A s.heap s.heap [] := va_S.rf
  have hl := lv_entry ([.ref h0]) (n := 1) (Nat.le_of_ble_eq_true rfl)
  rw [lg_entry_eq]
  generalize (lg_sl ([.ref h0]) ++ List.replicate (1 - (lg_sl ([.ref h0])).length) Slot.unset).toArray = ls at hl ⊢
  have hl : lv_has ls 1 [(0, .ref h0)] := hl
  have Y : CY mX3_init p s m _ meth c D A [(cI, .int), (cS, .object "TitleMimes$Sheet")] := ⟨hx, hb, hown, hts, hK, hA, hin⟩
  refine lv_aload_n hx hb dX3_init_0 rfl (lv_at hl 0 rfl) ?_
  refine W.objInit hx hb hown (hts (.methodLink RX3 3 objectInit) (by decide +kernel)) (hts (.instanceMethod objectInit) (by decide +kernel)) (hts (.code objectInit ⟨#[0xb1]⟩ 1 none) (by decide +kernel)) rfl (by rw [hml]; exact hl.1) rfl dX3_init_1 (Nat.le_of_ble_eq_true rfl) (Nat.le_of_ble_eq_true rfl) ?_
  refine W.eq (g2 := F0 m 4 ls []) rfl ?_
  refine lv_aload_n hx hb dX3_init_4 rfl (lv_at hl 0 rfl) ?_
  refine lv_bipush (v := (nI 16)) hx hb dX3_init_5 (by decide) ?_
  refine cw_newa Y (t0 := 0) (N := 16) rfl (by decide) dX3_init_7 (Nat.le_of_ble_eq_true rfl) (Nat.le_of_ble_eq_true rfl) (fun q0 H locs hP hD hS => ?_) _ _ hP hD hS
  refine cw_putR Y 3 0 0 (.array .int) dX3_init_9 fl_X3_9 rfl (fun r h => by cases h; exact ⟨rfl, by decide +kernel, rfl⟩) rfl rfl (Nat.le_of_ble_eq_true rfl) (fun H locs hP hD hS => ?_) _ _ hP hD hS
  refine lv_aload_n hx hb dX3_init_12 rfl (lv_at hl 0 rfl) ?_
  refine lv_bipush (v := (nI 16)) hx hb dX3_init_13 (by decide) ?_
  refine cw_newa Y (t0 := 0) (N := 16) rfl (by decide) dX3_init_15 (Nat.le_of_ble_eq_true rfl) (Nat.le_of_ble_eq_true rfl) (fun q1 H locs hP hD hS => ?_) _ _ hP hD hS
  refine cw_putR Y 3 1 0 (.array .int) dX3_init_17 fl_X3_15 rfl (fun r h => by cases h; exact ⟨rfl, by decide +kernel, rfl⟩) rfl rfl (Nat.le_of_ble_eq_true rfl) (fun H locs hP hD hS => ?_) _ _ hP hD hS
  refine lv_aload_n hx hb dX3_init_20 rfl (lv_at hl 0 rfl) ?_
  refine lv_bipush (v := (nI 16)) hx hb dX3_init_21 (by decide) ?_
  refine cw_newa Y (t0 := 0) (N := 16) rfl (by decide) dX3_init_23 (Nat.le_of_ble_eq_true rfl) (Nat.le_of_ble_eq_true rfl) (fun q2 H locs hP hD hS => ?_) _ _ hP hD hS
  refine cw_putR Y 3 2 0 (.array .int) dX3_init_25 fl_X3_18 rfl (fun r h => by cases h; exact ⟨rfl, by decide +kernel, rfl⟩) rfl rfl (Nat.le_of_ble_eq_true rfl) (fun H locs hP hD hS => ?_) _ _ hP hD hS
  refine lv_aload_n hx hb dX3_init_28 rfl (lv_at hl 0 rfl) ?_
  refine lv_iconst (v := (nI 0)) hx hb dX3_init_29 (by decide) ?_
  refine cw_putI Y 3 3 0 .int dX3_init_30 fl_X3_21 rfl (fun r h => by cases h; exact ⟨rfl, by decide +kernel⟩) rfl rfl (Nat.le_of_ble_eq_true rfl) (fun H locs hP hD hS => ?_) _ _ hP hD hS
  refine lv_aload_n hx hb dX3_init_33 rfl (lv_at hl 0 rfl) ?_
  refine lv_bipush (v := (nI 96)) hx hb dX3_init_34 (by decide) ?_
  refine cw_newa Y (t0 := 0) (N := 96) rfl (by decide) dX3_init_36 (Nat.le_of_ble_eq_true rfl) (Nat.le_of_ble_eq_true rfl) (fun q3 H locs hP hD hS => ?_) _ _ hP hD hS
  refine cw_putR Y 3 4 0 (.array .int) dX3_init_38 fl_X3_25 rfl (fun r h => by cases h; exact ⟨rfl, by decide +kernel, rfl⟩) rfl rfl (Nat.le_of_ble_eq_true rfl) (fun H locs hP hD hS => ?_) _ _ hP hD hS
  refine lv_aload_n hx hb dX3_init_41 rfl (lv_at hl 0 rfl) ?_
  refine lv_bipush (v := (nI 24)) hx hb dX3_init_42 (by decide) ?_
  refine cw_newa Y (t0 := 0) (N := 24) rfl (by decide) dX3_init_44 (Nat.le_of_ble_eq_true rfl) (Nat.le_of_ble_eq_true rfl) (fun q4 H locs hP hD hS => ?_) _ _ hP hD hS
  refine cw_putR Y 3 5 0 (.array .int) dX3_init_46 fl_X3_28 rfl (fun r h => by cases h; exact ⟨rfl, by decide +kernel, rfl⟩) rfl rfl (Nat.le_of_ble_eq_true rfl) (fun H locs hP hD hS => ?_) _ _ hP hD hS
  refine lv_aload_n hx hb dX3_init_49 rfl (lv_at hl 0 rfl) ?_
  refine lv_iconst (v := (nI 0)) hx hb dX3_init_50 (by decide) ?_
  refine cw_putI Y 3 6 0 .int dX3_init_51 fl_X3_31 rfl (fun r h => by cases h; exact ⟨rfl, by decide +kernel⟩) rfl rfl (Nat.le_of_ble_eq_true rfl) (fun H locs hP hD hS => ?_) _ _ hP hD hS
  refine lv_aload_n hx hb dX3_init_54 rfl (lv_at hl 0 rfl) ?_
  refine lv_iconst (v := (nI 2)) hx hb dX3_init_55 (by decide) ?_
  refine cw_newa Y (t0 := 0) (N := 2) rfl (by decide) dX3_init_56 (Nat.le_of_ble_eq_true rfl) (Nat.le_of_ble_eq_true rfl) (fun q5 H locs hP hD hS => ?_) _ _ hP hD hS
  refine cw_putR Y 3 7 0 (.array .int) dX3_init_58 fl_X3_34 rfl (fun r h => by cases h; exact ⟨rfl, by decide +kernel, rfl⟩) rfl rfl (Nat.le_of_ble_eq_true rfl) (fun H locs hP hD hS => ?_) _ _ hP hD hS
  refine lv_aload_n hx hb dX3_init_61 rfl (lv_at hl 0 rfl) ?_
  refine lv_iconst (v := (nI 2)) hx hb dX3_init_62 (by decide) ?_
  refine cw_newa Y (t0 := 0) (N := 2) rfl (by decide) dX3_init_63 (Nat.le_of_ble_eq_true rfl) (Nat.le_of_ble_eq_true rfl) (fun q6 H locs hP hD hS => ?_) _ _ hP hD hS
  refine cw_putR Y 3 8 0 (.array .int) dX3_init_65 fl_X3_37 rfl (fun r h => by cases h; exact ⟨rfl, by decide +kernel, rfl⟩) rfl rfl (Nat.le_of_ble_eq_true rfl) (fun H locs hP hD hS => ?_) _ _ hP hD hS
  refine lv_aload_n hx hb dX3_init_68 rfl (lv_at hl 0 rfl) ?_
  refine lv_bipush (v := (nI 10)) hx hb dX3_init_69 (by decide) ?_
  refine cw_newa Y (t0 := 0) (N := 10) rfl (by decide) dX3_init_71 (Nat.le_of_ble_eq_true rfl) (Nat.le_of_ble_eq_true rfl) (fun q7 H locs hP hD hS => ?_) _ _ hP hD hS
  refine cw_putR Y 3 9 0 (.array .int) dX3_init_73 fl_X3_40 rfl (fun r h => by cases h; exact ⟨rfl, by decide +kernel, rfl⟩) rfl rfl (Nat.le_of_ble_eq_true rfl) (fun H locs hP hD hS => ?_) _ _ hP hD hS
  refine lv_aload_n hx hb dX3_init_76 rfl (lv_at hl 0 rfl) ?_
  refine cw_new Y (ci := 2) (N := 5) (C := RX2) (T := TX2) (fs := [.int 0, .int 0, .int 0, .int 0, .int 0]) dX3_init_77 (by decide +kernel) (by decide +kernel) (by decide +kernel) inC2 tyX2 tyX2_ok rfl (by decide) (Nat.le_of_ble_eq_true rfl) (Nat.le_of_ble_eq_true rfl) (fun q8 H locs hP hD hS => ?_) _ _ hP hD hS
  refine lv_dup hx hb dX3_init_80 rfl ?_
  refine cw_call Y hml hl.1 K_X2_init dX3_init_81 cbX2_init (by decide +kernel) (by decide +kernel) (by decide +kernel) rfl rfl (Nat.le_of_ble_eq_true rfl) (Nat.le_of_ble_eq_true rfl) (Nat.le_of_ble_eq_true rfl) (Nat.le_of_ble_eq_true rfl) (Nat.le_of_ble_eq_true rfl) (fun a81 H locs hP hD hS => ?_) _ _ hP hD hS
  refine cw_putR Y 3 10 0 (.object "TitleMimes$Slip") dX3_init_84 fl_X3_46 rfl (fun r h => by cases h; exact ⟨rfl, by decide +kernel, rfl⟩) rfl rfl (Nat.le_of_ble_eq_true rfl) (fun H locs hP hD hS => ?_) _ _ hP hD hS
  refine lv_aload_n hx hb dX3_init_87 rfl (lv_at hl 0 rfl) ?_
  refine lv_iconst (v := (nI 1)) hx hb dX3_init_88 (by decide) ?_
  refine cw_putI Y 3 11 0 .int dX3_init_89 fl_X3_50 rfl (fun r h => by cases h; exact ⟨rfl, by decide +kernel⟩) rfl rfl (Nat.le_of_ble_eq_true rfl) (fun H locs hP hD hS => ?_) _ _ hP hD hS
  exact W.vret hx hb hr (fun t ht hW => ⟨⟨fun k => ([q0, q1, q2, q3, q4, q5, q6, q7, q8] : List Nat).getD k 0, rfl, trivial, by rw [ht]; exact hP, hD⟩, hS.F ht⟩) hS.2.2 dX3_init_92
