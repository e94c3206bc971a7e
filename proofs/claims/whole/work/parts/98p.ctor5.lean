/-! constructors: TitleMimes -/
def oMimes (cI cS : ClassId) (h0 : Nat) (ad : Nat → Nat) : va_W := [(h0, .inr (5, [.ref (ad 0), .ref (ad 10), .ref (ad 20), .ref (ad 30), .ref (ad 34), .ref (ad 35), .ref (ad 37), .ref (ad 38), .ref (ad 39), .int (nI 0)])),
  ((ad 0), .inr (3, [.ref (ad 1), .ref (ad 2), .ref (ad 3), .int (nI 0), .ref (ad 4), .ref (ad 5), .int (nI 0), .ref (ad 6), .ref (ad 7), .ref (ad 8), .ref (ad 9), .int (nI 1)])),
  ((ad 1), .inl (cI, 16, .inl (fun _ => nI 0))),
  ((ad 2), .inl (cI, 16, .inl (fun _ => nI 0))),
  ((ad 3), .inl (cI, 16, .inl (fun _ => nI 0))),
  ((ad 4), .inl (cI, 96, .inl (fun _ => nI 0))),
  ((ad 5), .inl (cI, 24, .inl (fun _ => nI 0))),
  ((ad 6), .inl (cI, 2, .inl (fun _ => nI 0))),
  ((ad 7), .inl (cI, 2, .inl (fun _ => nI 0))),
  ((ad 8), .inl (cI, 10, .inl (fun _ => nI 0))),
  oSlip (ad 9),
  ((ad 10), .inr (3, [.ref (ad 11), .ref (ad 12), .ref (ad 13), .int (nI 0), .ref (ad 14), .ref (ad 15), .int (nI 0), .ref (ad 16), .ref (ad 17), .ref (ad 18), .ref (ad 19), .int (nI 1)])),
  ((ad 11), .inl (cI, 16, .inl (fun _ => nI 0))),
  ((ad 12), .inl (cI, 16, .inl (fun _ => nI 0))),
  ((ad 13), .inl (cI, 16, .inl (fun _ => nI 0))),
  ((ad 14), .inl (cI, 96, .inl (fun _ => nI 0))),
  ((ad 15), .inl (cI, 24, .inl (fun _ => nI 0))),
  ((ad 16), .inl (cI, 2, .inl (fun _ => nI 0))),
  ((ad 17), .inl (cI, 2, .inl (fun _ => nI 0))),
  ((ad 18), .inl (cI, 10, .inl (fun _ => nI 0))),
  oSlip (ad 19),
  ((ad 20), .inr (3, [.ref (ad 21), .ref (ad 22), .ref (ad 23), .int (nI 0), .ref (ad 24), .ref (ad 25), .int (nI 0), .ref (ad 26), .ref (ad 27), .ref (ad 28), .ref (ad 29), .int (nI 1)])),
  ((ad 21), .inl (cI, 16, .inl (fun _ => nI 0))),
  ((ad 22), .inl (cI, 16, .inl (fun _ => nI 0))),
  ((ad 23), .inl (cI, 16, .inl (fun _ => nI 0))),
  ((ad 24), .inl (cI, 96, .inl (fun _ => nI 0))),
  ((ad 25), .inl (cI, 24, .inl (fun _ => nI 0))),
  ((ad 26), .inl (cI, 2, .inl (fun _ => nI 0))),
  ((ad 27), .inl (cI, 2, .inl (fun _ => nI 0))),
  ((ad 28), .inl (cI, 10, .inl (fun _ => nI 0))),
  oSlip (ad 29),
  ((ad 30), .inr (0, [.ref (ad 31), .ref (ad 32), .ref (ad 33), .int (nI 0)])),
  ((ad 31), .inl (cI, 672, .inl (fun _ => nI 0))),
  ((ad 32), .inl (cI, 24, .inl (fun _ => nI 0))),
  ((ad 33), .inl (cI, 97, .inl (fun _ => nI 0))),
  oSlip (ad 34),
  ((ad 35), .inr (4, [.ref (ad 36), .int (nI 0), .int (nI 0), .int (nI 0), .int (nI 0), .int (nI 0)])),
  ((ad 36), .inl (cI, 120, .inl (fun _ => nI 0))),
  ((ad 37), .inl (cS, 4, .inr (.inr (.inr (.inr (va_up (va_up (va_up (va_up ((fun _ => none)) (nI 0).toNatClampNeg (some (ad 40))) (nI 1).toNatClampNeg (some (ad 42))) (nI 2).toNatClampNeg (some (ad 44))) (nI 3).toNatClampNeg (some (ad 46)))))))),
  ((ad 38), .inl (cI, 7, .inl (fun _ => nI 0))),
  ((ad 39), .inl (cI, 24, .inl (fun _ => nI 0))),
  ((ad 40), .inr (1, [.ref (ad 41), .int (nI 0), .int (nI 0)])),
  ((ad 41), .inl (cI, 40, .inl (fun _ => nI 0))),
  ((ad 42), .inr (1, [.ref (ad 43), .int (nI 0), .int (nI 0)])),
  ((ad 43), .inl (cI, 40, .inl (fun _ => nI 0))),
  ((ad 44), .inr (1, [.ref (ad 45), .int (nI 0), .int (nI 0)])),
  ((ad 45), .inl (cI, 40, .inl (fun _ => nI 0))),
  ((ad 46), .inr (1, [.ref (ad 47), .int (nI 0), .int (nI 0)])),
  ((ad 47), .inl (cI, 40, .inl (fun _ => nI 0)))]
set_option maxHeartbeats 64000000 in
set_option maxRecDepth 100000 in
theorem K_X5_init : KG 3 48 1732 mX5_init 5 [.null, .null, .null, .null, .null, .null, .null, .null, .null, .int 0] (fun cI cS h0 ad => oMimes cI cS h0 ad) := by
  intro l D cI cS h0 sz
  refine Met.ofW (cc := mX5_init.2.1) (maxL := 2) (ret := none) (by decide) rfl ?_
  intro p e s m args below meth c s₁ B hml hv
  obtain ⟨rfl, hsz, hP, hK, hD0, hNX⟩ := hv
  have hx := B.exec
  have hb := B.bytes
  have hr := B.returns
  have hts0 := atoms_spec (ws := wsM mX5_init) B.pre
  have hts : ∀ w ∈ tblG, w.before _ s = true := fun w hw => hts0 w (List.mem_cons_of_mem _ hw)
  have hown : s.vm.findClass RX5 = some m.cls := findClass_of_methodNamed B.named
  have hin : meth.name = "<init>" := (name_of_methodNamed B.named B.method).1
  subst hsz
  have hD := hD0.self (sz := s.heap.size)
  generalize hAe : va_A [(h0, .inr (5, [.null, .null, .null, .null, .null, .null, .null, .null, .null, .int 0]))] s.heap.size = A at hD ⊢
  have hA : ∀ q : Nat, s.heap.size ≤ q → A q := fun q h => by rw [← hAe]; exact Or.inr h
  have hS : va_S A s.heap s.heap [] := va_S.rf
  have hl := lv_entry ([.ref h0]) (n := 2) (Nat.le_of_ble_eq_true rfl)
  rw [lg_entry_eq]
  generalize (lg_sl ([.ref h0]) ++ List.replicate (2 - (lg_sl ([.ref h0])).length) Slot.unset).toArray = ls at hl ⊢
  have hl : lv_has ls 2 [(0, .ref h0)] := hl
  have Y : CY mX5_init p s m _ meth c D A [(cI, .int), (cS, .object "TitleMimes$Sheet")] := ⟨hx, hb, hown, hts, hK, hA, fun _ => hin, hNX⟩
  refine lv_aload_n hx hb dX5_init_0 rfl (lv_at hl 0 rfl) ?_
  refine W.objInit hx hb hown (hts (.methodLink RX5 3 objectInit) (by decide +kernel)) (hts (.instanceMethod objectInit) (by decide +kernel)) (hts (.code objectInit ⟨#[0xb1]⟩ 1 none) (by decide +kernel)) rfl (by rw [hml]; exact hl.1) rfl dX5_init_1 (Nat.le_of_ble_eq_true rfl) (Nat.le_of_ble_eq_true rfl) ?_
  refine W.eq (g2 := F0 m 4 ls []) rfl ?_
  refine lv_aload_n hx hb dX5_init_4 rfl (lv_at hl 0 rfl) ?_
  refine cw_new Y (ci := 3) (N := 12) (C := RX3) (T := TX3) (fs := [.null, .null, .null, .int 0, .null, .null, .int 0, .null, .null, .null, .null, .int 0]) dX5_init_5 (by decide +kernel) (by decide +kernel) (by decide +kernel) inC3 tyX3 tyX3_ok rfl (fun j hj => by rcases (show j = 0 ∨ j = 1 ∨ j = 2 ∨ j = 3 ∨ j = 4 ∨ j = 5 ∨ j = 6 ∨ j = 7 ∨ j = 8 ∨ j = 9 ∨ j = 10 ∨ j = 11 by omega) with rfl | rfl | rfl | rfl | rfl | rfl | rfl | rfl | rfl | rfl | rfl | rfl <;> rfl) (Nat.le_of_ble_eq_true rfl) (Nat.le_of_ble_eq_true rfl) (fun q5 H locs hP hD hS => ?_) _ _ hP hD hS
  refine lv_dup hx hb dX5_init_8 rfl ?_
  refine cw_callN (wr := [(h0, .inr (5, [.null, .null, .null, .null, .null, .null, .null, .null, .null, .int 0]))]) Y hml hl.1 K_X3_init dX5_init_9 cbX3_init (by decide +kernel) (by decide +kernel) (by decide +kernel) rfl rfl (Nat.le_of_ble_eq_true rfl) (Nat.le_of_ble_eq_true rfl) (Nat.le_of_ble_eq_true rfl) (Nat.le_of_ble_eq_true rfl) (Nat.le_of_ble_eq_true rfl) (fun a5 H locs hP hD hS => ?_) _ _ hP hD hS
  have hP : va_P D vwCl ((h0, .inr (5, [.null, .null, .null, .null, .null, .null, .null, .null, .null, .int 0])) :: (oStock cI q5 a5)) H := hP
  have hD : va_D A ((h0, .inr (5, [.null, .null, .null, .null, .null, .null, .null, .null, .null, .int 0])) :: (oStock cI q5 a5)) := hD
  refine cw_putR rfl Y 5 0 0 (.object "TitleMimes$Stock") dX5_init_12 fl_X5_12 rfl (fun r h => by cases h; exact ⟨rfl, by decide +kernel, rfl⟩) rfl rfl (Nat.le_of_ble_eq_true rfl) (fun H locs hP hD hS => ?_) _ _ hP hD hS
  have hP : va_P D vwCl ((h0, .inr (5, [.ref q5, .null, .null, .null, .null, .null, .null, .null, .null, .int 0])) :: (oStock cI q5 a5)) H := hP
  have hD : va_D A ((h0, .inr (5, [.ref q5, .null, .null, .null, .null, .null, .null, .null, .null, .int 0])) :: (oStock cI q5 a5)) := hD
  refine lv_aload_n hx hb dX5_init_15 rfl (lv_at hl 0 rfl) ?_
  refine cw_new Y (ci := 3) (N := 12) (C := RX3) (T := TX3) (fs := [.null, .null, .null, .int 0, .null, .null, .int 0, .null, .null, .null, .null, .int 0]) dX5_init_16 (by decide +kernel) (by decide +kernel) (by decide +kernel) inC3 tyX3 tyX3_ok rfl (fun j hj => by rcases (show j = 0 ∨ j = 1 ∨ j = 2 ∨ j = 3 ∨ j = 4 ∨ j = 5 ∨ j = 6 ∨ j = 7 ∨ j = 8 ∨ j = 9 ∨ j = 10 ∨ j = 11 by omega) with rfl | rfl | rfl | rfl | rfl | rfl | rfl | rfl | rfl | rfl | rfl | rfl <;> rfl) (Nat.le_of_ble_eq_true rfl) (Nat.le_of_ble_eq_true rfl) (fun q16 H locs hP hD hS => ?_) _ _ hP hD hS
  refine lv_dup hx hb dX5_init_19 rfl ?_
  refine cw_callN (wr := ((h0, .inr (5, [.ref q5, .null, .null, .null, .null, .null, .null, .null, .null, .int 0])) :: (oStock cI q5 a5))) Y hml hl.1 K_X3_init dX5_init_20 cbX3_init (by decide +kernel) (by decide +kernel) (by decide +kernel) rfl rfl (Nat.le_of_ble_eq_true rfl) (Nat.le_of_ble_eq_true rfl) (Nat.le_of_ble_eq_true rfl) (Nat.le_of_ble_eq_true rfl) (Nat.le_of_ble_eq_true rfl) (fun a16 H locs hP hD hS => ?_) _ _ hP hD hS
  have hP : va_P D vwCl ((h0, .inr (5, [.ref q5, .null, .null, .null, .null, .null, .null, .null, .null, .int 0])) :: (oStock cI q5 a5 ++ oStock cI q16 a16)) H := hP
  have hD : va_D A ((h0, .inr (5, [.ref q5, .null, .null, .null, .null, .null, .null, .null, .null, .int 0])) :: (oStock cI q5 a5 ++ oStock cI q16 a16)) := hD
  refine cw_putR rfl Y 5 1 0 (.object "TitleMimes$Stock") dX5_init_23 fl_X5_16 rfl (fun r h => by cases h; exact ⟨rfl, by decide +kernel, rfl⟩) rfl rfl (Nat.le_of_ble_eq_true rfl) (fun H locs hP hD hS => ?_) _ _ hP hD hS
  have hP : va_P D vwCl ((h0, .inr (5, [.ref q5, .ref q16, .null, .null, .null, .null, .null, .null, .null, .int 0])) :: (oStock cI q5 a5 ++ oStock cI q16 a16)) H := hP
  have hD : va_D A ((h0, .inr (5, [.ref q5, .ref q16, .null, .null, .null, .null, .null, .null, .null, .int 0])) :: (oStock cI q5 a5 ++ oStock cI q16 a16)) := hD
  refine lv_aload_n hx hb dX5_init_26 rfl (lv_at hl 0 rfl) ?_
  refine cw_new Y (ci := 3) (N := 12) (C := RX3) (T := TX3) (fs := [.null, .null, .null, .int 0, .null, .null, .int 0, .null, .null, .null, .null, .int 0]) dX5_init_27 (by decide +kernel) (by decide +kernel) (by decide +kernel) inC3 tyX3 tyX3_ok rfl (fun j hj => by rcases (show j = 0 ∨ j = 1 ∨ j = 2 ∨ j = 3 ∨ j = 4 ∨ j = 5 ∨ j = 6 ∨ j = 7 ∨ j = 8 ∨ j = 9 ∨ j = 10 ∨ j = 11 by omega) with rfl | rfl | rfl | rfl | rfl | rfl | rfl | rfl | rfl | rfl | rfl | rfl <;> rfl) (Nat.le_of_ble_eq_true rfl) (Nat.le_of_ble_eq_true rfl) (fun q27 H locs hP hD hS => ?_) _ _ hP hD hS
  refine lv_dup hx hb dX5_init_30 rfl ?_
  refine cw_callN (wr := ((h0, .inr (5, [.ref q5, .ref q16, .null, .null, .null, .null, .null, .null, .null, .int 0])) :: (oStock cI q5 a5 ++ oStock cI q16 a16))) Y hml hl.1 K_X3_init dX5_init_31 cbX3_init (by decide +kernel) (by decide +kernel) (by decide +kernel) rfl rfl (Nat.le_of_ble_eq_true rfl) (Nat.le_of_ble_eq_true rfl) (Nat.le_of_ble_eq_true rfl) (Nat.le_of_ble_eq_true rfl) (Nat.le_of_ble_eq_true rfl) (fun a27 H locs hP hD hS => ?_) _ _ hP hD hS
  have hP : va_P D vwCl ((h0, .inr (5, [.ref q5, .ref q16, .null, .null, .null, .null, .null, .null, .null, .int 0])) :: (oStock cI q5 a5 ++ oStock cI q16 a16 ++ oStock cI q27 a27)) H := hP
  have hD : va_D A ((h0, .inr (5, [.ref q5, .ref q16, .null, .null, .null, .null, .null, .null, .null, .int 0])) :: (oStock cI q5 a5 ++ oStock cI q16 a16 ++ oStock cI q27 a27)) := hD
  refine cw_putR rfl Y 5 2 0 (.object "TitleMimes$Stock") dX5_init_34 fl_X5_19 rfl (fun r h => by cases h; exact ⟨rfl, by decide +kernel, rfl⟩) rfl rfl (Nat.le_of_ble_eq_true rfl) (fun H locs hP hD hS => ?_) _ _ hP hD hS
  have hP : va_P D vwCl ((h0, .inr (5, [.ref q5, .ref q16, .ref q27, .null, .null, .null, .null, .null, .null, .int 0])) :: (oStock cI q5 a5 ++ oStock cI q16 a16 ++ oStock cI q27 a27)) H := hP
  have hD : va_D A ((h0, .inr (5, [.ref q5, .ref q16, .ref q27, .null, .null, .null, .null, .null, .null, .int 0])) :: (oStock cI q5 a5 ++ oStock cI q16 a16 ++ oStock cI q27 a27)) := hD
  refine lv_aload_n hx hb dX5_init_37 rfl (lv_at hl 0 rfl) ?_
  refine cw_new Y (ci := 0) (N := 4) (C := RX0) (T := TX0) (fs := [.null, .null, .null, .int 0]) dX5_init_38 (by decide +kernel) (by decide +kernel) (by decide +kernel) inC0 tyX0 tyX0_ok rfl (fun j hj => by rcases (show j = 0 ∨ j = 1 ∨ j = 2 ∨ j = 3 by omega) with rfl | rfl | rfl | rfl <;> rfl) (Nat.le_of_ble_eq_true rfl) (Nat.le_of_ble_eq_true rfl) (fun q38 H locs hP hD hS => ?_) _ _ hP hD hS
  refine lv_dup hx hb dX5_init_41 rfl ?_
  refine cw_callN (wr := ((h0, .inr (5, [.ref q5, .ref q16, .ref q27, .null, .null, .null, .null, .null, .null, .int 0])) :: (oStock cI q5 a5 ++ oStock cI q16 a16 ++ oStock cI q27 a27))) Y hml hl.1 K_X0_init dX5_init_42 cbX0_init (by decide +kernel) (by decide +kernel) (by decide +kernel) rfl rfl (Nat.le_of_ble_eq_true rfl) (Nat.le_of_ble_eq_true rfl) (Nat.le_of_ble_eq_true rfl) (Nat.le_of_ble_eq_true rfl) (Nat.le_of_ble_eq_true rfl) (fun a38 H locs hP hD hS => ?_) _ _ hP hD hS
  have hP : va_P D vwCl ((h0, .inr (5, [.ref q5, .ref q16, .ref q27, .null, .null, .null, .null, .null, .null, .int 0])) :: (oStock cI q5 a5 ++ oStock cI q16 a16 ++ oStock cI q27 a27 ++ oChart cI q38 a38)) H := hP
  have hD : va_D A ((h0, .inr (5, [.ref q5, .ref q16, .ref q27, .null, .null, .null, .null, .null, .null, .int 0])) :: (oStock cI q5 a5 ++ oStock cI q16 a16 ++ oStock cI q27 a27 ++ oChart cI q38 a38)) := hD
  refine cw_putR rfl Y 5 3 0 (.object "TitleMimes$Chart") dX5_init_45 fl_X5_25 rfl (fun r h => by cases h; exact ⟨rfl, by decide +kernel, rfl⟩) rfl rfl (Nat.le_of_ble_eq_true rfl) (fun H locs hP hD hS => ?_) _ _ hP hD hS
  have hP : va_P D vwCl ((h0, .inr (5, [.ref q5, .ref q16, .ref q27, .ref q38, .null, .null, .null, .null, .null, .int 0])) :: (oStock cI q5 a5 ++ oStock cI q16 a16 ++ oStock cI q27 a27 ++ oChart cI q38 a38)) H := hP
  have hD : va_D A ((h0, .inr (5, [.ref q5, .ref q16, .ref q27, .ref q38, .null, .null, .null, .null, .null, .int 0])) :: (oStock cI q5 a5 ++ oStock cI q16 a16 ++ oStock cI q27 a27 ++ oChart cI q38 a38)) := hD
  refine lv_aload_n hx hb dX5_init_48 rfl (lv_at hl 0 rfl) ?_
  refine cw_new Y (ci := 2) (N := 5) (C := RX2) (T := TX2) (fs := [.int 0, .int 0, .int 0, .int 0, .int 0]) dX5_init_49 (by decide +kernel) (by decide +kernel) (by decide +kernel) inC2 tyX2 tyX2_ok rfl (fun j hj => by rcases (show j = 0 ∨ j = 1 ∨ j = 2 ∨ j = 3 ∨ j = 4 by omega) with rfl | rfl | rfl | rfl | rfl <;> rfl) (Nat.le_of_ble_eq_true rfl) (Nat.le_of_ble_eq_true rfl) (fun q49 H locs hP hD hS => ?_) _ _ hP hD hS
  refine lv_dup hx hb dX5_init_52 rfl ?_
  refine cw_callN (wr := ((h0, .inr (5, [.ref q5, .ref q16, .ref q27, .ref q38, .null, .null, .null, .null, .null, .int 0])) :: (oStock cI q5 a5 ++ oStock cI q16 a16 ++ oStock cI q27 a27 ++ oChart cI q38 a38))) Y hml hl.1 K_X2_init dX5_init_53 cbX2_init (by decide +kernel) (by decide +kernel) (by decide +kernel) rfl rfl (Nat.le_of_ble_eq_true rfl) (Nat.le_of_ble_eq_true rfl) (Nat.le_of_ble_eq_true rfl) (Nat.le_of_ble_eq_true rfl) (Nat.le_of_ble_eq_true rfl) (fun a49 H locs hP hD hS => ?_) _ _ hP hD hS
  have hP : va_P D vwCl ((h0, .inr (5, [.ref q5, .ref q16, .ref q27, .ref q38, .null, .null, .null, .null, .null, .int 0])) :: (oStock cI q5 a5 ++ oStock cI q16 a16 ++ oStock cI q27 a27 ++ oChart cI q38 a38 ++ [oSlip q49])) H := hP
  have hD : va_D A ((h0, .inr (5, [.ref q5, .ref q16, .ref q27, .ref q38, .null, .null, .null, .null, .null, .int 0])) :: (oStock cI q5 a5 ++ oStock cI q16 a16 ++ oStock cI q27 a27 ++ oChart cI q38 a38 ++ [oSlip q49])) := hD
  refine cw_putR rfl Y 5 4 0 (.object "TitleMimes$Slip") dX5_init_56 fl_X5_32 rfl (fun r h => by cases h; exact ⟨rfl, by decide +kernel, rfl⟩) rfl rfl (Nat.le_of_ble_eq_true rfl) (fun H locs hP hD hS => ?_) _ _ hP hD hS
  have hP : va_P D vwCl ((h0, .inr (5, [.ref q5, .ref q16, .ref q27, .ref q38, .ref q49, .null, .null, .null, .null, .int 0])) :: (oStock cI q5 a5 ++ oStock cI q16 a16 ++ oStock cI q27 a27 ++ oChart cI q38 a38 ++ [oSlip q49])) H := hP
  have hD : va_D A ((h0, .inr (5, [.ref q5, .ref q16, .ref q27, .ref q38, .ref q49, .null, .null, .null, .null, .int 0])) :: (oStock cI q5 a5 ++ oStock cI q16 a16 ++ oStock cI q27 a27 ++ oChart cI q38 a38 ++ [oSlip q49])) := hD
  refine lv_aload_n hx hb dX5_init_59 rfl (lv_at hl 0 rfl) ?_
  refine cw_new Y (ci := 4) (N := 6) (C := RX4) (T := TX4) (fs := [.null, .int 0, .int 0, .int 0, .int 0, .int 0]) dX5_init_60 (by decide +kernel) (by decide +kernel) (by decide +kernel) inC4 tyX4 tyX4_ok rfl (fun j hj => by rcases (show j = 0 ∨ j = 1 ∨ j = 2 ∨ j = 3 ∨ j = 4 ∨ j = 5 by omega) with rfl | rfl | rfl | rfl | rfl | rfl <;> rfl) (Nat.le_of_ble_eq_true rfl) (Nat.le_of_ble_eq_true rfl) (fun q60 H locs hP hD hS => ?_) _ _ hP hD hS
  refine lv_dup hx hb dX5_init_63 rfl ?_
  refine cw_callN (wr := ((h0, .inr (5, [.ref q5, .ref q16, .ref q27, .ref q38, .ref q49, .null, .null, .null, .null, .int 0])) :: (oStock cI q5 a5 ++ oStock cI q16 a16 ++ oStock cI q27 a27 ++ oChart cI q38 a38 ++ [oSlip q49]))) Y hml hl.1 K_X4_init dX5_init_64 cbX4_init (by decide +kernel) (by decide +kernel) (by decide +kernel) rfl rfl (Nat.le_of_ble_eq_true rfl) (Nat.le_of_ble_eq_true rfl) (Nat.le_of_ble_eq_true rfl) (Nat.le_of_ble_eq_true rfl) (Nat.le_of_ble_eq_true rfl) (fun a60 H locs hP hD hS => ?_) _ _ hP hD hS
  have hP : va_P D vwCl ((h0, .inr (5, [.ref q5, .ref q16, .ref q27, .ref q38, .ref q49, .null, .null, .null, .null, .int 0])) :: (oStock cI q5 a5 ++ oStock cI q16 a16 ++ oStock cI q27 a27 ++ oChart cI q38 a38 ++ [oSlip q49] ++ oTape cI q60 a60)) H := hP
  have hD : va_D A ((h0, .inr (5, [.ref q5, .ref q16, .ref q27, .ref q38, .ref q49, .null, .null, .null, .null, .int 0])) :: (oStock cI q5 a5 ++ oStock cI q16 a16 ++ oStock cI q27 a27 ++ oChart cI q38 a38 ++ [oSlip q49] ++ oTape cI q60 a60)) := hD
  refine cw_putR rfl Y 5 5 0 (.object "TitleMimes$Tape") dX5_init_67 fl_X5_39 rfl (fun r h => by cases h; exact ⟨rfl, by decide +kernel, rfl⟩) rfl rfl (Nat.le_of_ble_eq_true rfl) (fun H locs hP hD hS => ?_) _ _ hP hD hS
  have hP : va_P D vwCl ((h0, .inr (5, [.ref q5, .ref q16, .ref q27, .ref q38, .ref q49, .ref q60, .null, .null, .null, .int 0])) :: (oStock cI q5 a5 ++ oStock cI q16 a16 ++ oStock cI q27 a27 ++ oChart cI q38 a38 ++ [oSlip q49] ++ oTape cI q60 a60)) H := hP
  have hD : va_D A ((h0, .inr (5, [.ref q5, .ref q16, .ref q27, .ref q38, .ref q49, .ref q60, .null, .null, .null, .int 0])) :: (oStock cI q5 a5 ++ oStock cI q16 a16 ++ oStock cI q27 a27 ++ oChart cI q38 a38 ++ [oSlip q49] ++ oTape cI q60 a60)) := hD
  refine lv_aload_n hx hb dX5_init_70 rfl (lv_at hl 0 rfl) ?_
  refine lv_iconst (v := (nI 4)) hx hb dX5_init_71 (by decide) ?_
  refine cw_newq Y (t0 := 1) (N := 4) rfl (by decide +kernel) (by decide) dX5_init_72 (Nat.le_of_ble_eq_true rfl) (Nat.le_of_ble_eq_true rfl) (fun q72 H locs hP hD hS => ?_) _ _ hP hD hS
  have hP : va_P D vwCl ((h0, .inr (5, [.ref q5, .ref q16, .ref q27, .ref q38, .ref q49, .ref q60, .null, .null, .null, .int 0])) :: (oStock cI q5 a5 ++ oStock cI q16 a16 ++ oStock cI q27 a27 ++ oChart cI q38 a38 ++ [oSlip q49] ++ oTape cI q60 a60 ++ [(q72, .inl (cS, 4, .inr (.inr (.inr (.inr (fun _ => none))))))])) H := hP
  have hD : va_D A ((h0, .inr (5, [.ref q5, .ref q16, .ref q27, .ref q38, .ref q49, .ref q60, .null, .null, .null, .int 0])) :: (oStock cI q5 a5 ++ oStock cI q16 a16 ++ oStock cI q27 a27 ++ oChart cI q38 a38 ++ [oSlip q49] ++ oTape cI q60 a60 ++ [(q72, .inl (cS, 4, .inr (.inr (.inr (.inr (fun _ => none))))))])) := hD
  refine cw_putR rfl Y 5 6 0 (.array (.object "TitleMimes$Sheet")) dX5_init_75 fl_X5_45 rfl (fun r h => by cases h; exact ⟨rfl, by decide +kernel, rfl⟩) rfl rfl (Nat.le_of_ble_eq_true rfl) (fun H locs hP hD hS => ?_) _ _ hP hD hS
  have hP : va_P D vwCl ((h0, .inr (5, [.ref q5, .ref q16, .ref q27, .ref q38, .ref q49, .ref q60, .ref q72, .null, .null, .int 0])) :: (oStock cI q5 a5 ++ oStock cI q16 a16 ++ oStock cI q27 a27 ++ oChart cI q38 a38 ++ [oSlip q49] ++ oTape cI q60 a60 ++ [(q72, .inl (cS, 4, .inr (.inr (.inr (.inr (fun _ => none))))))])) H := hP
  have hD : va_D A ((h0, .inr (5, [.ref q5, .ref q16, .ref q27, .ref q38, .ref q49, .ref q60, .ref q72, .null, .null, .int 0])) :: (oStock cI q5 a5 ++ oStock cI q16 a16 ++ oStock cI q27 a27 ++ oChart cI q38 a38 ++ [oSlip q49] ++ oTape cI q60 a60 ++ [(q72, .inl (cS, 4, .inr (.inr (.inr (.inr (fun _ => none))))))])) := hD
  refine lv_aload_n hx hb dX5_init_78 rfl (lv_at hl 0 rfl) ?_
  refine lv_bipush (v := (nI 7)) hx hb dX5_init_79 (by decide) ?_
  refine cw_newa Y (t0 := 0) (N := 7) rfl (by decide) dX5_init_81 (Nat.le_of_ble_eq_true rfl) (Nat.le_of_ble_eq_true rfl) (fun q81 H locs hP hD hS => ?_) _ _ hP hD hS
  have hP : va_P D vwCl ((h0, .inr (5, [.ref q5, .ref q16, .ref q27, .ref q38, .ref q49, .ref q60, .ref q72, .null, .null, .int 0])) :: (oStock cI q5 a5 ++ oStock cI q16 a16 ++ oStock cI q27 a27 ++ oChart cI q38 a38 ++ [oSlip q49] ++ oTape cI q60 a60 ++ [(q72, .inl (cS, 4, .inr (.inr (.inr (.inr (fun _ => none))))))] ++ [(q81, .inl (cI, 7, .inl (fun _ => nI 0)))])) H := hP
  have hD : va_D A ((h0, .inr (5, [.ref q5, .ref q16, .ref q27, .ref q38, .ref q49, .ref q60, .ref q72, .null, .null, .int 0])) :: (oStock cI q5 a5 ++ oStock cI q16 a16 ++ oStock cI q27 a27 ++ oChart cI q38 a38 ++ [oSlip q49] ++ oTape cI q60 a60 ++ [(q72, .inl (cS, 4, .inr (.inr (.inr (.inr (fun _ => none))))))] ++ [(q81, .inl (cI, 7, .inl (fun _ => nI 0)))])) := hD
  refine cw_putR rfl Y 5 7 0 (.array .int) dX5_init_83 fl_X5_49 rfl (fun r h => by cases h; exact ⟨rfl, by decide +kernel, rfl⟩) rfl rfl (Nat.le_of_ble_eq_true rfl) (fun H locs hP hD hS => ?_) _ _ hP hD hS
  have hP : va_P D vwCl ((h0, .inr (5, [.ref q5, .ref q16, .ref q27, .ref q38, .ref q49, .ref q60, .ref q72, .ref q81, .null, .int 0])) :: (oStock cI q5 a5 ++ oStock cI q16 a16 ++ oStock cI q27 a27 ++ oChart cI q38 a38 ++ [oSlip q49] ++ oTape cI q60 a60 ++ [(q72, .inl (cS, 4, .inr (.inr (.inr (.inr (fun _ => none))))))] ++ [(q81, .inl (cI, 7, .inl (fun _ => nI 0)))])) H := hP
  have hD : va_D A ((h0, .inr (5, [.ref q5, .ref q16, .ref q27, .ref q38, .ref q49, .ref q60, .ref q72, .ref q81, .null, .int 0])) :: (oStock cI q5 a5 ++ oStock cI q16 a16 ++ oStock cI q27 a27 ++ oChart cI q38 a38 ++ [oSlip q49] ++ oTape cI q60 a60 ++ [(q72, .inl (cS, 4, .inr (.inr (.inr (.inr (fun _ => none))))))] ++ [(q81, .inl (cI, 7, .inl (fun _ => nI 0)))])) := hD
  refine lv_aload_n hx hb dX5_init_86 rfl (lv_at hl 0 rfl) ?_
  refine lv_bipush (v := (nI 24)) hx hb dX5_init_87 (by decide) ?_
  refine cw_newa Y (t0 := 0) (N := 24) rfl (by decide) dX5_init_89 (Nat.le_of_ble_eq_true rfl) (Nat.le_of_ble_eq_true rfl) (fun q89 H locs hP hD hS => ?_) _ _ hP hD hS
  have hP : va_P D vwCl ((h0, .inr (5, [.ref q5, .ref q16, .ref q27, .ref q38, .ref q49, .ref q60, .ref q72, .ref q81, .null, .int 0])) :: (oStock cI q5 a5 ++ oStock cI q16 a16 ++ oStock cI q27 a27 ++ oChart cI q38 a38 ++ [oSlip q49] ++ oTape cI q60 a60 ++ [(q72, .inl (cS, 4, .inr (.inr (.inr (.inr (fun _ => none))))))] ++ [(q81, .inl (cI, 7, .inl (fun _ => nI 0)))] ++ [(q89, .inl (cI, 24, .inl (fun _ => nI 0)))])) H := hP
  have hD : va_D A ((h0, .inr (5, [.ref q5, .ref q16, .ref q27, .ref q38, .ref q49, .ref q60, .ref q72, .ref q81, .null, .int 0])) :: (oStock cI q5 a5 ++ oStock cI q16 a16 ++ oStock cI q27 a27 ++ oChart cI q38 a38 ++ [oSlip q49] ++ oTape cI q60 a60 ++ [(q72, .inl (cS, 4, .inr (.inr (.inr (.inr (fun _ => none))))))] ++ [(q81, .inl (cI, 7, .inl (fun _ => nI 0)))] ++ [(q89, .inl (cI, 24, .inl (fun _ => nI 0)))])) := hD
  refine cw_putR rfl Y 5 8 0 (.array .int) dX5_init_91 fl_X5_53 rfl (fun r h => by cases h; exact ⟨rfl, by decide +kernel, rfl⟩) rfl rfl (Nat.le_of_ble_eq_true rfl) (fun H locs hP hD hS => ?_) _ _ hP hD hS
  have hP : va_P D vwCl ((h0, .inr (5, [.ref q5, .ref q16, .ref q27, .ref q38, .ref q49, .ref q60, .ref q72, .ref q81, .ref q89, .int 0])) :: (oStock cI q5 a5 ++ oStock cI q16 a16 ++ oStock cI q27 a27 ++ oChart cI q38 a38 ++ [oSlip q49] ++ oTape cI q60 a60 ++ [(q72, .inl (cS, 4, .inr (.inr (.inr (.inr (fun _ => none))))))] ++ [(q81, .inl (cI, 7, .inl (fun _ => nI 0)))] ++ [(q89, .inl (cI, 24, .inl (fun _ => nI 0)))])) H := hP
  have hD : va_D A ((h0, .inr (5, [.ref q5, .ref q16, .ref q27, .ref q38, .ref q49, .ref q60, .ref q72, .ref q81, .ref q89, .int 0])) :: (oStock cI q5 a5 ++ oStock cI q16 a16 ++ oStock cI q27 a27 ++ oChart cI q38 a38 ++ [oSlip q49] ++ oTape cI q60 a60 ++ [(q72, .inl (cS, 4, .inr (.inr (.inr (.inr (fun _ => none))))))] ++ [(q81, .inl (cI, 7, .inl (fun _ => nI 0)))] ++ [(q89, .inl (cI, 24, .inl (fun _ => nI 0)))])) := hD
  refine lv_aload_n hx hb dX5_init_94 rfl (lv_at hl 0 rfl) ?_
  refine lv_iconst (v := (nI 0)) hx hb dX5_init_95 (by decide) ?_
  refine cw_putI Y 5 9 0 .boolean dX5_init_96 fl_X5_56 rfl (fun r h => by cases h; exact ⟨rfl, by decide +kernel⟩) (by decide) (by decide) (Nat.le_of_ble_eq_true rfl) (fun H locs hP hD hS => ?_) _ _ hP hD hS
  have hP : va_P D vwCl ((h0, .inr (5, [.ref q5, .ref q16, .ref q27, .ref q38, .ref q49, .ref q60, .ref q72, .ref q81, .ref q89, .int (nI 0)])) :: (oStock cI q5 a5 ++ oStock cI q16 a16 ++ oStock cI q27 a27 ++ oChart cI q38 a38 ++ [oSlip q49] ++ oTape cI q60 a60 ++ [(q72, .inl (cS, 4, .inr (.inr (.inr (.inr (fun _ => none))))))] ++ [(q81, .inl (cI, 7, .inl (fun _ => nI 0)))] ++ [(q89, .inl (cI, 24, .inl (fun _ => nI 0)))])) H := hP
  have hD : va_D A ((h0, .inr (5, [.ref q5, .ref q16, .ref q27, .ref q38, .ref q49, .ref q60, .ref q72, .ref q81, .ref q89, .int (nI 0)])) :: (oStock cI q5 a5 ++ oStock cI q16 a16 ++ oStock cI q27 a27 ++ oChart cI q38 a38 ++ [oSlip q49] ++ oTape cI q60 a60 ++ [(q72, .inl (cS, 4, .inr (.inr (.inr (.inr (fun _ => none))))))] ++ [(q81, .inl (cI, 7, .inl (fun _ => nI 0)))] ++ [(q89, .inl (cI, 24, .inl (fun _ => nI 0)))])) := hD
  have hP : va_P D vwCl ((h0, .inr (5, [.ref q5, .ref q16, .ref q27, .ref q38, .ref q49, .ref q60, .ref q72, .ref q81, .ref q89, .int (nI 0)])) :: ((oStock cI q5 a5 ++ oStock cI q16 a16 ++ oStock cI q27 a27 ++ oChart cI q38 a38 ++ [oSlip q49] ++ oTape cI q60 a60) ++ ((q72, .inl (cS, 4, .inr (.inr (.inr (.inr ((fun _ => none))))))) :: ([(q81, .inl (cI, 7, .inl (fun _ => nI 0)))] ++ [(q89, .inl (cI, 24, .inl (fun _ => nI 0)))])))) H := hP
  have hD : va_D A ((h0, .inr (5, [.ref q5, .ref q16, .ref q27, .ref q38, .ref q49, .ref q60, .ref q72, .ref q81, .ref q89, .int (nI 0)])) :: ((oStock cI q5 a5 ++ oStock cI q16 a16 ++ oStock cI q27 a27 ++ oChart cI q38 a38 ++ [oSlip q49] ++ oTape cI q60 a60) ++ ((q72, .inl (cS, 4, .inr (.inr (.inr (.inr ((fun _ => none))))))) :: ([(q81, .inl (cI, 7, .inl (fun _ => nI 0)))] ++ [(q89, .inl (cI, 24, .inl (fun _ => nI 0)))])))) := hD
  refine lv_iconst (v := (nI 0)) hx hb dX5_init_99 (by decide) ?_
  refine lv_istore_n hx hb dX5_init_100 rfl hl (by decide) rfl (fun ls hl => ?_)
  have hl : lv_has ls 2 [(1, .int (nI 0)), (0, .ref h0)] := hl
  refine lv_iload_n hx hb dX5_init_101 rfl (lv_at hl 0 rfl) ?_
  refine lv_iconst (v := (nI 4)) hx hb dX5_init_102 (by decide) ?_
  refine lv_icmp_ge (tgt := 125) hx hb dX5_init_103 (by decide) (fun h => absurd h (by decide)) (fun _ => ?_)
  refine lv_aload_n hx hb dX5_init_106 rfl (lv_at hl 1 rfl) ?_
  refine cw_get Y 5 6 0 dX5_init_107 fl_X5_45 rfl rfl (fun H locs hP hD hS => ?_) _ _ hP hD hS
  refine lv_iload_n hx hb dX5_init_110 rfl (lv_at hl 0 rfl) ?_
  refine cw_new Y (ci := 1) (N := 3) (C := RX1) (T := TX1) (fs := [.null, .int 0, .int 0]) dX5_init_111 (by decide +kernel) (by decide +kernel) (by decide +kernel) inC1 tyX1 tyX1_ok rfl (fun j hj => by rcases (show j = 0 ∨ j = 1 ∨ j = 2 by omega) with rfl | rfl | rfl <;> rfl) (Nat.le_of_ble_eq_true rfl) (Nat.le_of_ble_eq_true rfl) (fun qs0 H locs hP hD hS => ?_) _ _ hP hD hS
  refine lv_dup hx hb dX5_init_114 rfl ?_
  refine cw_callN (wr := ((h0, .inr (5, [.ref q5, .ref q16, .ref q27, .ref q38, .ref q49, .ref q60, .ref q72, .ref q81, .ref q89, .int (nI 0)])) :: ((oStock cI q5 a5 ++ oStock cI q16 a16 ++ oStock cI q27 a27 ++ oChart cI q38 a38 ++ [oSlip q49] ++ oTape cI q60 a60) ++ ((q72, .inl (cS, 4, .inr (.inr (.inr (.inr ((fun _ => none))))))) :: ([(q81, .inl (cI, 7, .inl (fun _ => nI 0)))] ++ [(q89, .inl (cI, 24, .inl (fun _ => nI 0)))]))))) Y hml hl.1 K_X1_init dX5_init_115 cbX1_init (by decide +kernel) (by decide +kernel) (by decide +kernel) rfl rfl (Nat.le_of_ble_eq_true rfl) (Nat.le_of_ble_eq_true rfl) (Nat.le_of_ble_eq_true rfl) (Nat.le_of_ble_eq_true rfl) (Nat.le_of_ble_eq_true rfl) (fun as0 H locs hP hD hS => ?_) _ _ hP hD hS
  have hP : va_P D vwCl ((h0, .inr (5, [.ref q5, .ref q16, .ref q27, .ref q38, .ref q49, .ref q60, .ref q72, .ref q81, .ref q89, .int (nI 0)])) :: ((oStock cI q5 a5 ++ oStock cI q16 a16 ++ oStock cI q27 a27 ++ oChart cI q38 a38 ++ [oSlip q49] ++ oTape cI q60 a60) ++ ((q72, .inl (cS, 4, .inr (.inr (.inr (.inr ((fun _ => none))))))) :: ([(q81, .inl (cI, 7, .inl (fun _ => nI 0)))] ++ [(q89, .inl (cI, 24, .inl (fun _ => nI 0)))] ++ oSheet cI qs0 as0)))) H := hP
  have hD : va_D A ((h0, .inr (5, [.ref q5, .ref q16, .ref q27, .ref q38, .ref q49, .ref q60, .ref q72, .ref q81, .ref q89, .int (nI 0)])) :: ((oStock cI q5 a5 ++ oStock cI q16 a16 ++ oStock cI q27 a27 ++ oChart cI q38 a38 ++ [oSlip q49] ++ oTape cI q60 a60) ++ ((q72, .inl (cS, 4, .inr (.inr (.inr (.inr ((fun _ => none))))))) :: ([(q81, .inl (cI, 7, .inl (fun _ => nI 0)))] ++ [(q89, .inl (cI, 24, .inl (fun _ => nI 0)))] ++ oSheet cI qs0 as0)))) := hD
  refine cw_astq Y 38 1 41 1 rfl rfl rfl rfl (vp_in_nI (by decide) (by decide)) dX5_init_118 (fun H locs hP hD hS => ?_) _ _ hP hD hS
  have hP : va_P D vwCl ((h0, .inr (5, [.ref q5, .ref q16, .ref q27, .ref q38, .ref q49, .ref q60, .ref q72, .ref q81, .ref q89, .int (nI 0)])) :: ((oStock cI q5 a5 ++ oStock cI q16 a16 ++ oStock cI q27 a27 ++ oChart cI q38 a38 ++ [oSlip q49] ++ oTape cI q60 a60) ++ ((q72, .inl (cS, 4, .inr (.inr (.inr (.inr (va_up ((fun _ => none)) (nI 0).toNatClampNeg (some qs0))))))) :: ([(q81, .inl (cI, 7, .inl (fun _ => nI 0)))] ++ [(q89, .inl (cI, 24, .inl (fun _ => nI 0)))] ++ oSheet cI qs0 as0)))) H := hP
  have hD : va_D A ((h0, .inr (5, [.ref q5, .ref q16, .ref q27, .ref q38, .ref q49, .ref q60, .ref q72, .ref q81, .ref q89, .int (nI 0)])) :: ((oStock cI q5 a5 ++ oStock cI q16 a16 ++ oStock cI q27 a27 ++ oChart cI q38 a38 ++ [oSlip q49] ++ oTape cI q60 a60) ++ ((q72, .inl (cS, 4, .inr (.inr (.inr (.inr (va_up ((fun _ => none)) (nI 0).toNatClampNeg (some qs0))))))) :: ([(q81, .inl (cI, 7, .inl (fun _ => nI 0)))] ++ [(q89, .inl (cI, 24, .inl (fun _ => nI 0)))] ++ oSheet cI qs0 as0)))) := hD
  refine lv_iinc (k := 0) (v := nI 1) hx hb dX5_init_119 hl rfl (by decide) (by decide) rfl (fun ls hl => ?_)
  have hl : lv_has ls 2 [(1, .int (nI 1)), (0, .ref h0)] := hl
  refine lv_goto (tgt := 101) hx hb dX5_init_122 (by decide) ?_
  refine lv_iload_n hx hb dX5_init_101 rfl (lv_at hl 0 rfl) ?_
  refine lv_iconst (v := (nI 4)) hx hb dX5_init_102 (by decide) ?_
  refine lv_icmp_ge (tgt := 125) hx hb dX5_init_103 (by decide) (fun h => absurd h (by decide)) (fun _ => ?_)
  refine lv_aload_n hx hb dX5_init_106 rfl (lv_at hl 1 rfl) ?_
  refine cw_get Y 5 6 0 dX5_init_107 fl_X5_45 rfl rfl (fun H locs hP hD hS => ?_) _ _ hP hD hS
  refine lv_iload_n hx hb dX5_init_110 rfl (lv_at hl 0 rfl) ?_
  refine cw_new Y (ci := 1) (N := 3) (C := RX1) (T := TX1) (fs := [.null, .int 0, .int 0]) dX5_init_111 (by decide +kernel) (by decide +kernel) (by decide +kernel) inC1 tyX1 tyX1_ok rfl (fun j hj => by rcases (show j = 0 ∨ j = 1 ∨ j = 2 by omega) with rfl | rfl | rfl <;> rfl) (Nat.le_of_ble_eq_true rfl) (Nat.le_of_ble_eq_true rfl) (fun qs1 H locs hP hD hS => ?_) _ _ hP hD hS
  refine lv_dup hx hb dX5_init_114 rfl ?_
  refine cw_callN (wr := ((h0, .inr (5, [.ref q5, .ref q16, .ref q27, .ref q38, .ref q49, .ref q60, .ref q72, .ref q81, .ref q89, .int (nI 0)])) :: ((oStock cI q5 a5 ++ oStock cI q16 a16 ++ oStock cI q27 a27 ++ oChart cI q38 a38 ++ [oSlip q49] ++ oTape cI q60 a60) ++ ((q72, .inl (cS, 4, .inr (.inr (.inr (.inr (va_up ((fun _ => none)) (nI 0).toNatClampNeg (some qs0))))))) :: ([(q81, .inl (cI, 7, .inl (fun _ => nI 0)))] ++ [(q89, .inl (cI, 24, .inl (fun _ => nI 0)))] ++ oSheet cI qs0 as0))))) Y hml hl.1 K_X1_init dX5_init_115 cbX1_init (by decide +kernel) (by decide +kernel) (by decide +kernel) rfl rfl (Nat.le_of_ble_eq_true rfl) (Nat.le_of_ble_eq_true rfl) (Nat.le_of_ble_eq_true rfl) (Nat.le_of_ble_eq_true rfl) (Nat.le_of_ble_eq_true rfl) (fun as1 H locs hP hD hS => ?_) _ _ hP hD hS
  have hP : va_P D vwCl ((h0, .inr (5, [.ref q5, .ref q16, .ref q27, .ref q38, .ref q49, .ref q60, .ref q72, .ref q81, .ref q89, .int (nI 0)])) :: ((oStock cI q5 a5 ++ oStock cI q16 a16 ++ oStock cI q27 a27 ++ oChart cI q38 a38 ++ [oSlip q49] ++ oTape cI q60 a60) ++ ((q72, .inl (cS, 4, .inr (.inr (.inr (.inr (va_up ((fun _ => none)) (nI 0).toNatClampNeg (some qs0))))))) :: ([(q81, .inl (cI, 7, .inl (fun _ => nI 0)))] ++ [(q89, .inl (cI, 24, .inl (fun _ => nI 0)))] ++ oSheet cI qs0 as0 ++ oSheet cI qs1 as1)))) H := hP
  have hD : va_D A ((h0, .inr (5, [.ref q5, .ref q16, .ref q27, .ref q38, .ref q49, .ref q60, .ref q72, .ref q81, .ref q89, .int (nI 0)])) :: ((oStock cI q5 a5 ++ oStock cI q16 a16 ++ oStock cI q27 a27 ++ oChart cI q38 a38 ++ [oSlip q49] ++ oTape cI q60 a60) ++ ((q72, .inl (cS, 4, .inr (.inr (.inr (.inr (va_up ((fun _ => none)) (nI 0).toNatClampNeg (some qs0))))))) :: ([(q81, .inl (cI, 7, .inl (fun _ => nI 0)))] ++ [(q89, .inl (cI, 24, .inl (fun _ => nI 0)))] ++ oSheet cI qs0 as0 ++ oSheet cI qs1 as1)))) := hD
  refine cw_astq Y 38 1 43 1 rfl rfl rfl rfl (vp_in_nI (by decide) (by decide)) dX5_init_118 (fun H locs hP hD hS => ?_) _ _ hP hD hS
  have hP : va_P D vwCl ((h0, .inr (5, [.ref q5, .ref q16, .ref q27, .ref q38, .ref q49, .ref q60, .ref q72, .ref q81, .ref q89, .int (nI 0)])) :: ((oStock cI q5 a5 ++ oStock cI q16 a16 ++ oStock cI q27 a27 ++ oChart cI q38 a38 ++ [oSlip q49] ++ oTape cI q60 a60) ++ ((q72, .inl (cS, 4, .inr (.inr (.inr (.inr (va_up (va_up ((fun _ => none)) (nI 0).toNatClampNeg (some qs0)) (nI 1).toNatClampNeg (some qs1))))))) :: ([(q81, .inl (cI, 7, .inl (fun _ => nI 0)))] ++ [(q89, .inl (cI, 24, .inl (fun _ => nI 0)))] ++ oSheet cI qs0 as0 ++ oSheet cI qs1 as1)))) H := hP
  have hD : va_D A ((h0, .inr (5, [.ref q5, .ref q16, .ref q27, .ref q38, .ref q49, .ref q60, .ref q72, .ref q81, .ref q89, .int (nI 0)])) :: ((oStock cI q5 a5 ++ oStock cI q16 a16 ++ oStock cI q27 a27 ++ oChart cI q38 a38 ++ [oSlip q49] ++ oTape cI q60 a60) ++ ((q72, .inl (cS, 4, .inr (.inr (.inr (.inr (va_up (va_up ((fun _ => none)) (nI 0).toNatClampNeg (some qs0)) (nI 1).toNatClampNeg (some qs1))))))) :: ([(q81, .inl (cI, 7, .inl (fun _ => nI 0)))] ++ [(q89, .inl (cI, 24, .inl (fun _ => nI 0)))] ++ oSheet cI qs0 as0 ++ oSheet cI qs1 as1)))) := hD
  refine lv_iinc (k := 0) (v := nI 2) hx hb dX5_init_119 hl rfl (by decide) (by decide) rfl (fun ls hl => ?_)
  have hl : lv_has ls 2 [(1, .int (nI 2)), (0, .ref h0)] := hl
  refine lv_goto (tgt := 101) hx hb dX5_init_122 (by decide) ?_
  refine lv_iload_n hx hb dX5_init_101 rfl (lv_at hl 0 rfl) ?_
  refine lv_iconst (v := (nI 4)) hx hb dX5_init_102 (by decide) ?_
  refine lv_icmp_ge (tgt := 125) hx hb dX5_init_103 (by decide) (fun h => absurd h (by decide)) (fun _ => ?_)
  refine lv_aload_n hx hb dX5_init_106 rfl (lv_at hl 1 rfl) ?_
  refine cw_get Y 5 6 0 dX5_init_107 fl_X5_45 rfl rfl (fun H locs hP hD hS => ?_) _ _ hP hD hS
  refine lv_iload_n hx hb dX5_init_110 rfl (lv_at hl 0 rfl) ?_
  refine cw_new Y (ci := 1) (N := 3) (C := RX1) (T := TX1) (fs := [.null, .int 0, .int 0]) dX5_init_111 (by decide +kernel) (by decide +kernel) (by decide +kernel) inC1 tyX1 tyX1_ok rfl (fun j hj => by rcases (show j = 0 ∨ j = 1 ∨ j = 2 by omega) with rfl | rfl | rfl <;> rfl) (Nat.le_of_ble_eq_true rfl) (Nat.le_of_ble_eq_true rfl) (fun qs2 H locs hP hD hS => ?_) _ _ hP hD hS
  refine lv_dup hx hb dX5_init_114 rfl ?_
  refine cw_callN (wr := ((h0, .inr (5, [.ref q5, .ref q16, .ref q27, .ref q38, .ref q49, .ref q60, .ref q72, .ref q81, .ref q89, .int (nI 0)])) :: ((oStock cI q5 a5 ++ oStock cI q16 a16 ++ oStock cI q27 a27 ++ oChart cI q38 a38 ++ [oSlip q49] ++ oTape cI q60 a60) ++ ((q72, .inl (cS, 4, .inr (.inr (.inr (.inr (va_up (va_up ((fun _ => none)) (nI 0).toNatClampNeg (some qs0)) (nI 1).toNatClampNeg (some qs1))))))) :: ([(q81, .inl (cI, 7, .inl (fun _ => nI 0)))] ++ [(q89, .inl (cI, 24, .inl (fun _ => nI 0)))] ++ oSheet cI qs0 as0 ++ oSheet cI qs1 as1))))) Y hml hl.1 K_X1_init dX5_init_115 cbX1_init (by decide +kernel) (by decide +kernel) (by decide +kernel) rfl rfl (Nat.le_of_ble_eq_true rfl) (Nat.le_of_ble_eq_true rfl) (Nat.le_of_ble_eq_true rfl) (Nat.le_of_ble_eq_true rfl) (Nat.le_of_ble_eq_true rfl) (fun as2 H locs hP hD hS => ?_) _ _ hP hD hS
  have hP : va_P D vwCl ((h0, .inr (5, [.ref q5, .ref q16, .ref q27, .ref q38, .ref q49, .ref q60, .ref q72, .ref q81, .ref q89, .int (nI 0)])) :: ((oStock cI q5 a5 ++ oStock cI q16 a16 ++ oStock cI q27 a27 ++ oChart cI q38 a38 ++ [oSlip q49] ++ oTape cI q60 a60) ++ ((q72, .inl (cS, 4, .inr (.inr (.inr (.inr (va_up (va_up ((fun _ => none)) (nI 0).toNatClampNeg (some qs0)) (nI 1).toNatClampNeg (some qs1))))))) :: ([(q81, .inl (cI, 7, .inl (fun _ => nI 0)))] ++ [(q89, .inl (cI, 24, .inl (fun _ => nI 0)))] ++ oSheet cI qs0 as0 ++ oSheet cI qs1 as1 ++ oSheet cI qs2 as2)))) H := hP
  have hD : va_D A ((h0, .inr (5, [.ref q5, .ref q16, .ref q27, .ref q38, .ref q49, .ref q60, .ref q72, .ref q81, .ref q89, .int (nI 0)])) :: ((oStock cI q5 a5 ++ oStock cI q16 a16 ++ oStock cI q27 a27 ++ oChart cI q38 a38 ++ [oSlip q49] ++ oTape cI q60 a60) ++ ((q72, .inl (cS, 4, .inr (.inr (.inr (.inr (va_up (va_up ((fun _ => none)) (nI 0).toNatClampNeg (some qs0)) (nI 1).toNatClampNeg (some qs1))))))) :: ([(q81, .inl (cI, 7, .inl (fun _ => nI 0)))] ++ [(q89, .inl (cI, 24, .inl (fun _ => nI 0)))] ++ oSheet cI qs0 as0 ++ oSheet cI qs1 as1 ++ oSheet cI qs2 as2)))) := hD
  refine cw_astq Y 38 1 45 1 rfl rfl rfl rfl (vp_in_nI (by decide) (by decide)) dX5_init_118 (fun H locs hP hD hS => ?_) _ _ hP hD hS
  have hP : va_P D vwCl ((h0, .inr (5, [.ref q5, .ref q16, .ref q27, .ref q38, .ref q49, .ref q60, .ref q72, .ref q81, .ref q89, .int (nI 0)])) :: ((oStock cI q5 a5 ++ oStock cI q16 a16 ++ oStock cI q27 a27 ++ oChart cI q38 a38 ++ [oSlip q49] ++ oTape cI q60 a60) ++ ((q72, .inl (cS, 4, .inr (.inr (.inr (.inr (va_up (va_up (va_up ((fun _ => none)) (nI 0).toNatClampNeg (some qs0)) (nI 1).toNatClampNeg (some qs1)) (nI 2).toNatClampNeg (some qs2))))))) :: ([(q81, .inl (cI, 7, .inl (fun _ => nI 0)))] ++ [(q89, .inl (cI, 24, .inl (fun _ => nI 0)))] ++ oSheet cI qs0 as0 ++ oSheet cI qs1 as1 ++ oSheet cI qs2 as2)))) H := hP
  have hD : va_D A ((h0, .inr (5, [.ref q5, .ref q16, .ref q27, .ref q38, .ref q49, .ref q60, .ref q72, .ref q81, .ref q89, .int (nI 0)])) :: ((oStock cI q5 a5 ++ oStock cI q16 a16 ++ oStock cI q27 a27 ++ oChart cI q38 a38 ++ [oSlip q49] ++ oTape cI q60 a60) ++ ((q72, .inl (cS, 4, .inr (.inr (.inr (.inr (va_up (va_up (va_up ((fun _ => none)) (nI 0).toNatClampNeg (some qs0)) (nI 1).toNatClampNeg (some qs1)) (nI 2).toNatClampNeg (some qs2))))))) :: ([(q81, .inl (cI, 7, .inl (fun _ => nI 0)))] ++ [(q89, .inl (cI, 24, .inl (fun _ => nI 0)))] ++ oSheet cI qs0 as0 ++ oSheet cI qs1 as1 ++ oSheet cI qs2 as2)))) := hD
  refine lv_iinc (k := 0) (v := nI 3) hx hb dX5_init_119 hl rfl (by decide) (by decide) rfl (fun ls hl => ?_)
  have hl : lv_has ls 2 [(1, .int (nI 3)), (0, .ref h0)] := hl
  refine lv_goto (tgt := 101) hx hb dX5_init_122 (by decide) ?_
  refine lv_iload_n hx hb dX5_init_101 rfl (lv_at hl 0 rfl) ?_
  refine lv_iconst (v := (nI 4)) hx hb dX5_init_102 (by decide) ?_
  refine lv_icmp_ge (tgt := 125) hx hb dX5_init_103 (by decide) (fun h => absurd h (by decide)) (fun _ => ?_)
  refine lv_aload_n hx hb dX5_init_106 rfl (lv_at hl 1 rfl) ?_
  refine cw_get Y 5 6 0 dX5_init_107 fl_X5_45 rfl rfl (fun H locs hP hD hS => ?_) _ _ hP hD hS
  refine lv_iload_n hx hb dX5_init_110 rfl (lv_at hl 0 rfl) ?_
  refine cw_new Y (ci := 1) (N := 3) (C := RX1) (T := TX1) (fs := [.null, .int 0, .int 0]) dX5_init_111 (by decide +kernel) (by decide +kernel) (by decide +kernel) inC1 tyX1 tyX1_ok rfl (fun j hj => by rcases (show j = 0 ∨ j = 1 ∨ j = 2 by omega) with rfl | rfl | rfl <;> rfl) (Nat.le_of_ble_eq_true rfl) (Nat.le_of_ble_eq_true rfl) (fun qs3 H locs hP hD hS => ?_) _ _ hP hD hS
  refine lv_dup hx hb dX5_init_114 rfl ?_
  refine cw_callN (wr := ((h0, .inr (5, [.ref q5, .ref q16, .ref q27, .ref q38, .ref q49, .ref q60, .ref q72, .ref q81, .ref q89, .int (nI 0)])) :: ((oStock cI q5 a5 ++ oStock cI q16 a16 ++ oStock cI q27 a27 ++ oChart cI q38 a38 ++ [oSlip q49] ++ oTape cI q60 a60) ++ ((q72, .inl (cS, 4, .inr (.inr (.inr (.inr (va_up (va_up (va_up ((fun _ => none)) (nI 0).toNatClampNeg (some qs0)) (nI 1).toNatClampNeg (some qs1)) (nI 2).toNatClampNeg (some qs2))))))) :: ([(q81, .inl (cI, 7, .inl (fun _ => nI 0)))] ++ [(q89, .inl (cI, 24, .inl (fun _ => nI 0)))] ++ oSheet cI qs0 as0 ++ oSheet cI qs1 as1 ++ oSheet cI qs2 as2))))) Y hml hl.1 K_X1_init dX5_init_115 cbX1_init (by decide +kernel) (by decide +kernel) (by decide +kernel) rfl rfl (Nat.le_of_ble_eq_true rfl) (Nat.le_of_ble_eq_true rfl) (Nat.le_of_ble_eq_true rfl) (Nat.le_of_ble_eq_true rfl) (Nat.le_of_ble_eq_true rfl) (fun as3 H locs hP hD hS => ?_) _ _ hP hD hS
  have hP : va_P D vwCl ((h0, .inr (5, [.ref q5, .ref q16, .ref q27, .ref q38, .ref q49, .ref q60, .ref q72, .ref q81, .ref q89, .int (nI 0)])) :: ((oStock cI q5 a5 ++ oStock cI q16 a16 ++ oStock cI q27 a27 ++ oChart cI q38 a38 ++ [oSlip q49] ++ oTape cI q60 a60) ++ ((q72, .inl (cS, 4, .inr (.inr (.inr (.inr (va_up (va_up (va_up ((fun _ => none)) (nI 0).toNatClampNeg (some qs0)) (nI 1).toNatClampNeg (some qs1)) (nI 2).toNatClampNeg (some qs2))))))) :: ([(q81, .inl (cI, 7, .inl (fun _ => nI 0)))] ++ [(q89, .inl (cI, 24, .inl (fun _ => nI 0)))] ++ oSheet cI qs0 as0 ++ oSheet cI qs1 as1 ++ oSheet cI qs2 as2 ++ oSheet cI qs3 as3)))) H := hP
  have hD : va_D A ((h0, .inr (5, [.ref q5, .ref q16, .ref q27, .ref q38, .ref q49, .ref q60, .ref q72, .ref q81, .ref q89, .int (nI 0)])) :: ((oStock cI q5 a5 ++ oStock cI q16 a16 ++ oStock cI q27 a27 ++ oChart cI q38 a38 ++ [oSlip q49] ++ oTape cI q60 a60) ++ ((q72, .inl (cS, 4, .inr (.inr (.inr (.inr (va_up (va_up (va_up ((fun _ => none)) (nI 0).toNatClampNeg (some qs0)) (nI 1).toNatClampNeg (some qs1)) (nI 2).toNatClampNeg (some qs2))))))) :: ([(q81, .inl (cI, 7, .inl (fun _ => nI 0)))] ++ [(q89, .inl (cI, 24, .inl (fun _ => nI 0)))] ++ oSheet cI qs0 as0 ++ oSheet cI qs1 as1 ++ oSheet cI qs2 as2 ++ oSheet cI qs3 as3)))) := hD
  refine cw_astq Y 38 1 47 1 rfl rfl rfl rfl (vp_in_nI (by decide) (by decide)) dX5_init_118 (fun H locs hP hD hS => ?_) _ _ hP hD hS
  have hP : va_P D vwCl ((h0, .inr (5, [.ref q5, .ref q16, .ref q27, .ref q38, .ref q49, .ref q60, .ref q72, .ref q81, .ref q89, .int (nI 0)])) :: ((oStock cI q5 a5 ++ oStock cI q16 a16 ++ oStock cI q27 a27 ++ oChart cI q38 a38 ++ [oSlip q49] ++ oTape cI q60 a60) ++ ((q72, .inl (cS, 4, .inr (.inr (.inr (.inr (va_up (va_up (va_up (va_up ((fun _ => none)) (nI 0).toNatClampNeg (some qs0)) (nI 1).toNatClampNeg (some qs1)) (nI 2).toNatClampNeg (some qs2)) (nI 3).toNatClampNeg (some qs3))))))) :: ([(q81, .inl (cI, 7, .inl (fun _ => nI 0)))] ++ [(q89, .inl (cI, 24, .inl (fun _ => nI 0)))] ++ oSheet cI qs0 as0 ++ oSheet cI qs1 as1 ++ oSheet cI qs2 as2 ++ oSheet cI qs3 as3)))) H := hP
  have hD : va_D A ((h0, .inr (5, [.ref q5, .ref q16, .ref q27, .ref q38, .ref q49, .ref q60, .ref q72, .ref q81, .ref q89, .int (nI 0)])) :: ((oStock cI q5 a5 ++ oStock cI q16 a16 ++ oStock cI q27 a27 ++ oChart cI q38 a38 ++ [oSlip q49] ++ oTape cI q60 a60) ++ ((q72, .inl (cS, 4, .inr (.inr (.inr (.inr (va_up (va_up (va_up (va_up ((fun _ => none)) (nI 0).toNatClampNeg (some qs0)) (nI 1).toNatClampNeg (some qs1)) (nI 2).toNatClampNeg (some qs2)) (nI 3).toNatClampNeg (some qs3))))))) :: ([(q81, .inl (cI, 7, .inl (fun _ => nI 0)))] ++ [(q89, .inl (cI, 24, .inl (fun _ => nI 0)))] ++ oSheet cI qs0 as0 ++ oSheet cI qs1 as1 ++ oSheet cI qs2 as2 ++ oSheet cI qs3 as3)))) := hD
  refine lv_iinc (k := 0) (v := nI 4) hx hb dX5_init_119 hl rfl (by decide) (by decide) rfl (fun ls hl => ?_)
  have hl : lv_has ls 2 [(1, .int (nI 4)), (0, .ref h0)] := hl
  refine lv_goto (tgt := 101) hx hb dX5_init_122 (by decide) ?_
  refine lv_iload_n hx hb dX5_init_101 rfl (lv_at hl 0 rfl) ?_
  refine lv_iconst (v := (nI 4)) hx hb dX5_init_102 (by decide) ?_
  refine lv_icmp_ge (tgt := 125) hx hb dX5_init_103 (by decide) (fun _ => ?_) (fun h => absurd (show nI 4 ≤ nI 4 by decide) h)
  exact W.vret hx hb hr (fun t ht hW => ⟨⟨fun k => ([q5, (a5 0), (a5 1), (a5 2), (a5 3), (a5 4), (a5 5), (a5 6), (a5 7), (a5 8), q16, (a16 0), (a16 1), (a16 2), (a16 3), (a16 4), (a16 5), (a16 6), (a16 7), (a16 8), q27, (a27 0), (a27 1), (a27 2), (a27 3), (a27 4), (a27 5), (a27 6), (a27 7), (a27 8), q38, (a38 0), (a38 1), (a38 2), q49, q60, (a60 0), q72, q81, q89, qs0, (as0 0), qs1, (as1 0), qs2, (as2 0), qs3, (as3 0)] : List Nat).getD k 0, rfl, trivial, by rw [ht]; exact hP, hD⟩, hS.F ht⟩) hS.2.2 dX5_init_125
