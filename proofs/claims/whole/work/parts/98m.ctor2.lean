/-! constructors: Sheet, Chart, Tape -/
def oSheet (cI : ClassId) (h0 : Nat) (ad : Nat → Nat) : va_W := [(h0, .inr (1, [.ref (ad 0), .int (nI 0), .int (nI 0)])), (ad 0, .inl (cI, 40, .inl (fun _ => nI 0)))]
set_option maxHeartbeats 4000000 in
set_option maxRecDepth 100000 in
theorem K_X1_init : KG 1 1 40 mX1_init 1 [.null, .int 0, .int 0] (fun cI _ h0 ad => oSheet cI h0 ad) := by
  intro l D cI cS h0 sz
  refine Met.ofW (cc := mX1_init.2.1) (maxL := 1) (ret := none) (by decide) rfl ?_
  intro p e s m args below meth c s₁ B hml hv
  obtain ⟨rfl, hsz, hP, hK, hD0, hNX⟩ := hv
  have hx := B.exec
  have hb := B.bytes
  have hr := B.returns
  have hts0 := atoms_spec (ws := wsM mX1_init) B.pre
  have hts : ∀ w ∈ tblG, w.before _ s = true := fun w hw => hts0 w (List.mem_cons_of_mem _ hw)
  have hown : s.vm.findClass RX1 = some m.cls := findClass_of_methodNamed B.named
  have hin : meth.name = "<init>" := (name_of_methodNamed B.named B.method).1
  subst hsz
  have hD := hD0.self (sz := s.heap.size)
  generalize hAe : va_A [(h0, .inr (1, [.null, .int 0, .int 0]))] s.heap.size = A at hD ⊢
  have hA : ∀ q : Nat, s.heap.size ≤ q → A q := fun q h => by rw [← hAe]; exact Or.inr h
  have hS : va_S A s.heap s.heap [] := va_S.rf
  have hl := lv_entry ([.ref h0]) (n := 1) (Nat.le_of_ble_eq_true rfl)
  rw [lg_entry_eq]
  generalize (lg_sl ([.ref h0]) ++ List.replicate (1 - (lg_sl ([.ref h0])).length) Slot.unset).toArray = ls at hl ⊢
  have hl : lv_has ls 1 [(0, .ref h0)] := hl
  have Y : CY mX1_init p s m _ meth c D A [(cI, .int), (cS, .object "TitleMimes$Sheet")] := ⟨hx, hb, hown, hts, hK, hA, fun _ => hin, hNX⟩
  refine lv_aload_n hx hb dX1_init_0 rfl (lv_at hl 0 rfl) ?_
  refine W.objInit hx hb hown (hts (.methodLink RX1 3 objectInit) (by decide +kernel)) (hts (.instanceMethod objectInit) (by decide +kernel)) (hts (.code objectInit ⟨#[0xb1]⟩ 1 none) (by decide +kernel)) rfl (by rw [hml]; exact hl.1) rfl dX1_init_1 (Nat.le_of_ble_eq_true rfl) (Nat.le_of_ble_eq_true rfl) ?_
  refine W.eq (g2 := F0 m 4 ls []) rfl ?_
  refine lv_aload_n hx hb dX1_init_4 rfl (lv_at hl 0 rfl) ?_
  refine lv_bipush (v := (nI 40)) hx hb dX1_init_5 (by decide) ?_
  refine cw_newa Y (t0 := 0) (N := 40) rfl (by decide) dX1_init_7 (Nat.le_of_ble_eq_true rfl) (Nat.le_of_ble_eq_true rfl) (fun q0 H locs hP hD hS => ?_) _ _ hP hD hS
  refine cw_putR rfl Y 1 0 0 (.array .int) dX1_init_9 fl_X1_9 rfl (fun r h => by cases h; exact ⟨rfl, by decide +kernel, rfl⟩) rfl rfl (Nat.le_of_ble_eq_true rfl) (fun H locs hP hD hS => ?_) _ _ hP hD hS
  refine lv_aload_n hx hb dX1_init_12 rfl (lv_at hl 0 rfl) ?_
  refine lv_iconst (v := (nI 0)) hx hb dX1_init_13 (by decide) ?_
  refine cw_putI Y 1 1 0 .int dX1_init_14 fl_X1_15 rfl (fun r h => by cases h; exact ⟨rfl, by decide +kernel⟩) rfl rfl (Nat.le_of_ble_eq_true rfl) (fun H locs hP hD hS => ?_) _ _ hP hD hS
  refine lv_aload_n hx hb dX1_init_17 rfl (lv_at hl 0 rfl) ?_
  refine lv_iconst (v := (nI 0)) hx hb dX1_init_18 (by decide) ?_
  refine cw_putI Y 1 2 0 .int dX1_init_19 fl_X1_19 rfl (fun r h => by cases h; exact ⟨rfl, by decide +kernel⟩) rfl rfl (Nat.le_of_ble_eq_true rfl) (fun H locs hP hD hS => ?_) _ _ hP hD hS
  exact W.vret hx hb hr (fun t ht hW => ⟨⟨fun k => ([q0] : List Nat).getD k 0, rfl, trivial, by rw [ht]; exact hP, hD⟩, hS.F ht⟩) hS.2.2 dX1_init_22
def oChart (cI : ClassId) (h0 : Nat) (ad : Nat → Nat) : va_W := [(h0, .inr (0, [.ref (ad 0), .ref (ad 1), .ref (ad 2), .int (nI 0)])), (ad 0, .inl (cI, 672, .inl (fun _ => nI 0))), (ad 1, .inl (cI, 24, .inl (fun _ => nI 0))), (ad 2, .inl (cI, 97, .inl (fun _ => nI 0)))]
set_option maxHeartbeats 4000000 in
set_option maxRecDepth 100000 in
theorem K_X0_init : KG 1 3 793 mX0_init 0 [.null, .null, .null, .int 0] (fun cI _ h0 ad => oChart cI h0 ad) := by
  intro l D cI cS h0 sz
  refine Met.ofW (cc := mX0_init.2.1) (maxL := 1) (ret := none) (by decide) rfl ?_
  intro p e s m args below meth c s₁ B hml hv
  obtain ⟨rfl, hsz, hP, hK, hD0, hNX⟩ := hv
  have hx := B.exec
  have hb := B.bytes
  have hr := B.returns
  have hts0 := atoms_spec (ws := wsM mX0_init) B.pre
  have hts : ∀ w ∈ tblG, w.before _ s = true := fun w hw => hts0 w (List.mem_cons_of_mem _ hw)
  have hown : s.vm.findClass RX0 = some m.cls := findClass_of_methodNamed B.named
  have hin : meth.name = "<init>" := (name_of_methodNamed B.named B.method).1
  subst hsz
  have hD := hD0.self (sz := s.heap.size)
  generalize hAe : va_A [(h0, .inr (0, [.null, .null, .null, .int 0]))] s.heap.size = A at hD ⊢
  have hA : ∀ q : Nat, s.heap.size ≤ q → A q := fun q h => by rw [← hAe]; exact Or.inr h
  have hS : va_S A s.heap s.heap [] := va_S.rf
  have hl := lv_entry ([.ref h0]) (n := 1) (Nat.le_of_ble_eq_true rfl)
  rw [lg_entry_eq]
  generalize (lg_sl ([.ref h0]) ++ List.replicate (1 - (lg_sl ([.ref h0])).length) Slot.unset).toArray = ls at hl ⊢
  have hl : lv_has ls 1 [(0, .ref h0)] := hl
  have Y : CY mX0_init p s m _ meth c D A [(cI, .int), (cS, .object "TitleMimes$Sheet")] := ⟨hx, hb, hown, hts, hK, hA, fun _ => hin, hNX⟩
  refine lv_aload_n hx hb dX0_init_0 rfl (lv_at hl 0 rfl) ?_
  refine W.objInit hx hb hown (hts (.methodLink RX0 3 objectInit) (by decide +kernel)) (hts (.instanceMethod objectInit) (by decide +kernel)) (hts (.code objectInit ⟨#[0xb1]⟩ 1 none) (by decide +kernel)) rfl (by rw [hml]; exact hl.1) rfl dX0_init_1 (Nat.le_of_ble_eq_true rfl) (Nat.le_of_ble_eq_true rfl) ?_
  refine W.eq (g2 := F0 m 4 ls []) rfl ?_
  refine lv_aload_n hx hb dX0_init_4 rfl (lv_at hl 0 rfl) ?_
  refine lv_sipush (v := (nI 672)) hx hb dX0_init_5 (by decide) ?_
  refine cw_newa Y (t0 := 0) (N := 672) rfl (by decide) dX0_init_8 (Nat.le_of_ble_eq_true rfl) (Nat.le_of_ble_eq_true rfl) (fun q0 H locs hP hD hS => ?_) _ _ hP hD hS
  refine cw_putR rfl Y 0 0 0 (.array .int) dX0_init_10 fl_X0_9 rfl (fun r h => by cases h; exact ⟨rfl, by decide +kernel, rfl⟩) rfl rfl (Nat.le_of_ble_eq_true rfl) (fun H locs hP hD hS => ?_) _ _ hP hD hS
  refine lv_aload_n hx hb dX0_init_13 rfl (lv_at hl 0 rfl) ?_
  refine lv_bipush (v := (nI 24)) hx hb dX0_init_14 (by decide) ?_
  refine cw_newa Y (t0 := 0) (N := 24) rfl (by decide) dX0_init_16 (Nat.le_of_ble_eq_true rfl) (Nat.le_of_ble_eq_true rfl) (fun q1 H locs hP hD hS => ?_) _ _ hP hD hS
  refine cw_putR rfl Y 0 1 0 (.array .int) dX0_init_18 fl_X0_15 rfl (fun r h => by cases h; exact ⟨rfl, by decide +kernel, rfl⟩) rfl rfl (Nat.le_of_ble_eq_true rfl) (fun H locs hP hD hS => ?_) _ _ hP hD hS
  refine lv_aload_n hx hb dX0_init_21 rfl (lv_at hl 0 rfl) ?_
  refine lv_bipush (v := (nI 97)) hx hb dX0_init_22 (by decide) ?_
  refine cw_newa Y (t0 := 0) (N := 97) rfl (by decide) dX0_init_24 (Nat.le_of_ble_eq_true rfl) (Nat.le_of_ble_eq_true rfl) (fun q2 H locs hP hD hS => ?_) _ _ hP hD hS
  refine cw_putR rfl Y 0 2 0 (.array .int) dX0_init_26 fl_X0_18 rfl (fun r h => by cases h; exact ⟨rfl, by decide +kernel, rfl⟩) rfl rfl (Nat.le_of_ble_eq_true rfl) (fun H locs hP hD hS => ?_) _ _ hP hD hS
  refine lv_aload_n hx hb dX0_init_29 rfl (lv_at hl 0 rfl) ?_
  refine lv_iconst (v := (nI 0)) hx hb dX0_init_30 (by decide) ?_
  refine cw_putI Y 0 3 0 .int dX0_init_31 fl_X0_21 rfl (fun r h => by cases h; exact ⟨rfl, by decide +kernel⟩) rfl rfl (Nat.le_of_ble_eq_true rfl) (fun H locs hP hD hS => ?_) _ _ hP hD hS
  exact W.vret hx hb hr (fun t ht hW => ⟨⟨fun k => ([q0, q1, q2] : List Nat).getD k 0, rfl, trivial, by rw [ht]; exact hP, hD⟩, hS.F ht⟩) hS.2.2 dX0_init_34
def oTape (cI : ClassId) (h0 : Nat) (ad : Nat → Nat) : va_W := [(h0, .inr (4, [.ref (ad 0), .int (nI 0), .int (nI 0), .int (nI 0), .int (nI 0), .int (nI 0)])), (ad 0, .inl (cI, 120, .inl (fun _ => nI 0)))]
set_option maxHeartbeats 4000000 in
set_option maxRecDepth 100000 in
theorem K_X4_init : KG 1 1 120 mX4_init 4 [.null, .int 0, .int 0, .int 0, .int 0, .int 0] (fun cI _ h0 ad => oTape cI h0 ad) := by
  intro l D cI cS h0 sz
  refine Met.ofW (cc := mX4_init.2.1) (maxL := 1) (ret := none) (by decide) rfl ?_
  intro p e s m args below meth c s₁ B hml hv
  obtain ⟨rfl, hsz, hP, hK, hD0, hNX⟩ := hv
  have hx := B.exec
  have hb := B.bytes
  have hr := B.returns
  have hts0 := atoms_spec (ws := wsM mX4_init) B.pre
  have hts : ∀ w ∈ tblG, w.before _ s = true := fun w hw => hts0 w (List.mem_cons_of_mem _ hw)
  have hown : s.vm.findClass RX4 = some m.cls := findClass_of_methodNamed B.named
  have hin : meth.name = "<init>" := (name_of_methodNamed B.named B.method).1
  subst hsz
  have hD := hD0.self (sz := s.heap.size)
  generalize hAe : va_A [(h0, .inr (4, [.null, .int 0, .int 0, .int 0, .int 0, .int 0]))] s.heap.size = A at hD ⊢
  have hA : ∀ q : Nat, s.heap.size ≤ q → A q := fun q h => by rw [← hAe]; exact Or.inr h
  have hS : va_S A s.heap s.heap [] := va_S.rf
  have hl := lv_entry ([.ref h0]) (n := 1) (Nat.le_of_ble_eq_true rfl)
  rw [lg_entry_eq]
  generalize (lg_sl ([.ref h0]) ++ List.replicate (1 - (lg_sl ([.ref h0])).length) Slot.unset).toArray = ls at hl ⊢
  have hl : lv_has ls 1 [(0, .ref h0)] := hl
  have Y : CY mX4_init p s m _ meth c D A [(cI, .int), (cS, .object "TitleMimes$Sheet")] := ⟨hx, hb, hown, hts, hK, hA, fun _ => hin, hNX⟩
  refine lv_aload_n hx hb dX4_init_0 rfl (lv_at hl 0 rfl) ?_
  refine W.objInit hx hb hown (hts (.methodLink RX4 3 objectInit) (by decide +kernel)) (hts (.instanceMethod objectInit) (by decide +kernel)) (hts (.code objectInit ⟨#[0xb1]⟩ 1 none) (by decide +kernel)) rfl (by rw [hml]; exact hl.1) rfl dX4_init_1 (Nat.le_of_ble_eq_true rfl) (Nat.le_of_ble_eq_true rfl) ?_
  refine W.eq (g2 := F0 m 4 ls []) rfl ?_
  refine lv_aload_n hx hb dX4_init_4 rfl (lv_at hl 0 rfl) ?_
  refine lv_bipush (v := (nI 120)) hx hb dX4_init_5 (by decide) ?_
  refine cw_newa Y (t0 := 0) (N := 120) rfl (by decide) dX4_init_7 (Nat.le_of_ble_eq_true rfl) (Nat.le_of_ble_eq_true rfl) (fun q0 H locs hP hD hS => ?_) _ _ hP hD hS
  refine cw_putR rfl Y 4 0 0 (.array .int) dX4_init_9 fl_X4_9 rfl (fun r h => by cases h; exact ⟨rfl, by decide +kernel, rfl⟩) rfl rfl (Nat.le_of_ble_eq_true rfl) (fun H locs hP hD hS => ?_) _ _ hP hD hS
  refine lv_aload_n hx hb dX4_init_12 rfl (lv_at hl 0 rfl) ?_
  refine lv_iconst (v := (nI 0)) hx hb dX4_init_13 (by decide) ?_
  refine cw_putI Y 4 1 0 .int dX4_init_14 fl_X4_15 rfl (fun r h => by cases h; exact ⟨rfl, by decide +kernel⟩) rfl rfl (Nat.le_of_ble_eq_true rfl) (fun H locs hP hD hS => ?_) _ _ hP hD hS
  refine lv_aload_n hx hb dX4_init_17 rfl (lv_at hl 0 rfl) ?_
  refine lv_iconst (v := (nI 0)) hx hb dX4_init_18 (by decide) ?_
  refine cw_putI Y 4 2 0 .int dX4_init_19 fl_X4_19 rfl (fun r h => by cases h; exact ⟨rfl, by decide +kernel⟩) rfl rfl (Nat.le_of_ble_eq_true rfl) (fun H locs hP hD hS => ?_) _ _ hP hD hS
  refine lv_aload_n hx hb dX4_init_22 rfl (lv_at hl 0 rfl) ?_
  refine lv_iconst (v := (nI 0)) hx hb dX4_init_23 (by decide) ?_
  refine cw_putI Y 4 3 0 .int dX4_init_24 fl_X4_22 rfl (fun r h => by cases h; exact ⟨rfl, by decide +kernel⟩) rfl rfl (Nat.le_of_ble_eq_true rfl) (fun H locs hP hD hS => ?_) _ _ hP hD hS
  refine lv_aload_n hx hb dX4_init_27 rfl (lv_at hl 0 rfl) ?_
  refine lv_iconst (v := (nI 0)) hx hb dX4_init_28 (by decide) ?_
  refine cw_putI Y 4 4 0 .int dX4_init_29 fl_X4_25 rfl (fun r h => by cases h; exact ⟨rfl, by decide +kernel⟩) rfl rfl (Nat.le_of_ble_eq_true rfl) (fun H locs hP hD hS => ?_) _ _ hP hD hS
  refine lv_aload_n hx hb dX4_init_32 rfl (lv_at hl 0 rfl) ?_
  refine lv_iconst (v := (nI 0)) hx hb dX4_init_33 (by decide) ?_
  refine cw_putI Y 4 5 0 .int dX4_init_34 fl_X4_28 rfl (fun r h => by cases h; exact ⟨rfl, by decide +kernel⟩) rfl rfl (Nat.le_of_ble_eq_true rfl) (fun H locs hP hD hS => ?_) _ _ hP hD hS
  exact W.vret hx hb hr (fun t ht hW => ⟨⟨fun k => ([q0] : List Nat).getD k 0, rfl, trivial, by rw [ht]; exact hP, hD⟩, hS.F ht⟩) hS.2.2 dX4_init_37
