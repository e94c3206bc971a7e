/-! constructors: rows over an explicit list of cells -/
def NX (U : State) : Prop := (∀ w ∈ nestL, va_Nw w U) ∧ va_AO "TitleMimes$Sheet" U
theorem NX.warm {s U : State} (hW : s.WarmedH U.vm) (h : NX s) : NX U := ⟨fun w hw => nest_warm hW hw (h.1 w hw), h.2.moved hW.alike⟩
theorem NX.same {u U : State} (hv : u.vm = U.vm) (h : NX u) : NX U := ⟨fun w hw => nest_same hv hw (h.1 w hw), h.2.moved (by rw [← hv]; exact Vm.Alike.refl u.vm)⟩
section Ctor
variable {p : Program} {l : Launch} {e : Env} {R : Room} {s : State} {m : MethodId} {args : Array Value} {below : List Frame} {meth : Method} {c : Code} {Q : State → Prop} {D : va_G} {A : Nat → Prop} {tys : List (ClassId × FieldType)} {M : MT} {pc cells slots : Nat} {ls : Array Slot} {st : List Value} {ws : va_W}
def CY (M : MT) (p : Program) (s : State) (m : MethodId) (args : Array Value) (meth : Method) (c : Code) (D : va_G) (A : Nat → Prop) (tys : List (ClassId × FieldType)) : Prop := p.tables.exec = Jvm.exec ∧ c.code = M.2.1 ∧ s.vm.findClass M.1.cls = some m.cls ∧ (∀ w ∈ tblG, w.before args s = true) ∧ va_K D vwCl tys s ∧ (∀ q, s.heap.size ≤ q → A q) ∧ (M.1.name = "<init>" → meth.name = "<init>") ∧ NX s
def CW (p : Program) (l : Launch) (e : Env) (R : Room) (s : State) (m : MethodId) (args : Array Value) (below : List Frame) (meth : Method) (c : Code) (Q : State → Prop) (D : va_G) (A : Nat → Prop) (pc : Nat) (ls : Array Slot) (st : List Value) (cells slots : Nat) (ws : va_W) : Prop := ∀ (H : Heap) (locs : List Loc), va_P D vwCl ws H → va_D A ws → va_S A s.heap H locs → W p l e R s m args below meth c H locs cells slots Q (F0 m pc ls st)
theorem cw_putI (Y : CY M p s m args meth c D A tys) {idx : Nat} (ci j q0 : Nat) (ty : FieldType) {a : Nat} {x : Int32} {fs : List Value} (hd : decode M.2.1 pc = .ok (.putfield idx, 3)) (hF : FL M.1.cls idx ci j) (he : ws[q0]? = some (a, .inr (ci, fs))) (hfin : ∀ r, vwCl[ci]? = some r → (r.2.1 j).2.2.2 = false ∧ parseFieldDescriptor (r.2.1 j).2.2.1 = some ty) (hn : narrow ty (.int x) = .int x) (hfit : fits ty (.int x) = true) (hjl : j < fs.length) (k : CW p l e R s m args below meth c Q D A (pc + 3) ls st cells slots (ws.set q0 (a, .inr (ci, fs.set j (.int x))))) : CW p l e R s m args below meth c Q D A pc ls (.int x :: .ref a :: st) cells slots ws := by
  intro H locs hP hD hS
  obtain ⟨hx, hcb, hown, hts, hK, hA, hin2, hNX⟩ := Y
  obtain ⟨C, T, N, hc, hjN, hin, hlink, hty, hnm, -⟩ := hF
  exact va_put (D := D) (ci := ci) (v := .int x) hx hcb hts hin (tyC ci) hty hnm hown hK hP hD hS q0 he hc j hjN (hts _ hlink) (fun _ h => h) (hfin _ hc).1 (hfin _ hc).2 hn hfit hjl hd (fun H1 locs1 hP1 hD1 hS1 => k H1 locs1 hP1 hD1 hS1)
theorem cw_putR (hini : M.1.name = "<init>") (Y : CY M p s m args meth c D A tys) {idx : Nat} (ci j q0 : Nat) (ty : FieldType) {a q : Nat} {fs : List Value} (hd : decode M.2.1 pc = .ok (.putfield idx, 3)) (hF : FL M.1.cls idx ci j) (he : ws[q0]? = some (a, .inr (ci, fs))) (hfin : ∀ r, vwCl[ci]? = some r → (r.2.1 j).2.2.2 = true ∧ parseFieldDescriptor (r.2.1 j).2.2.1 = some ty ∧ (r.2.1 j).1 = M.1.cls) (hn : narrow ty (.ref q) = .ref q) (hfit : fits ty (.ref q) = true) (hjl : j < fs.length) (k : CW p l e R s m args below meth c Q D A (pc + 3) ls st cells slots (ws.set q0 (a, .inr (ci, fs.set j (.ref q))))) : CW p l e R s m args below meth c Q D A pc ls (.ref q :: .ref a :: st) cells slots ws := by
  intro H locs hP hD hS
  obtain ⟨hx, hcb, hown, hts, hK, hA, hin2, hNX⟩ := Y
  obtain ⟨C, T, N, hc, hjN, hin, hlink, hty, hnm, -⟩ := hF
  exact va_putF (D := D) (ci := ci) (v := .ref q) hx hcb hts hin (tyC ci) hty hnm hown hK hP hD hS q0 he hc j hjN (hts _ hlink) (fun _ h => h) (hfin _ hc).1 (hin2 hini) (hfin _ hc).2.2 (hfin _ hc).2.1 hn hfit hjl hd (fun H1 locs1 hP1 hD1 hS1 => k H1 locs1 hP1 hD1 hS1)
theorem arr_int : Cond.arrayClass FieldType.int ∈ tblG := by decide +kernel
set_option maxHeartbeats 4000000 in
theorem cw_newa (Y : CY M p s m args meth c D A tys) {t0 N : Nat} {cI : ClassId} (ht : tys[t0]? = some (cI, .int)) (hN : N < 1000) (hd : decode M.2.1 pc = .ok (.newarray .int, 2)) (hcells : cells + 1 ≤ R.cells) (hslots : slots + N ≤ R.slots) (k : ∀ q, CW p l e R s m args below meth c Q D A (pc + 2) ls (.ref q :: st) (cells + 1) (slots + N) (ws ++ [(q, .inl (cI, N, .inl (fun _ => nI 0)))])) : CW p l e R s m args below meth c Q D A pc ls (.int (nI N) :: st) cells slots ws := by
  intro H locs hP hD hS
  obtain ⟨hx, hcb, hown, hts, hK, hA, hin2, hNX⟩ := Y
  have hcA : (Cond.arrayClass .int).before args s = true := hts _ arr_int
  have hb4 : N * componentBytes FieldType.int ≤ 536870912 := by
    rw [show componentBytes FieldType.int = 4 from rfl]; omega
  have h0 : ¬ nI N < 0 := Int32.not_lt.mpr (nI_pos' (by omega))
  have hc0 : (nI N).toNatClampNeg = N := nI_clamp (by omega)
  have hv : ∀ cA : ClassId, vp_cell cA (N, .inl (fun _ => nI 0)) = arrV cA N (fun _ => defaultValue FieldType.int) := fun cA => vp_cell_i cA N _
  refine va_newa (atype := .int) (ty := .int) hx hcb hcA rfl hK hP hD hS hA hv h0 hc0 hb4 hcells hslots hd (fun q cA H1 hK1 hP1 hD1 hS1 => ?_)
  have h1 : s.vm.findClass ("[" ++ FieldType.int.toString) = some cI := (hK.2 t0 _ ht).2
  have h2 : s.vm.findClass ("[" ++ FieldType.int.toString) = some cA := (hK1.2 tys.length (cA, .int) (by rw [List.getElem?_append_right (Nat.le_refl _), Nat.sub_self]; rfl)).2
  have e1 : cA = cI := Option.some.inj (h2.symm.trans h1)
  rw [e1] at hP1 hD1
  exact k q H1 locs hP1 hD1 hS1
end Ctor
def rmc (d mc ms : Nat) : Room := { frames := d, cells := mc, slots := ms, locals := 64 * d }
/-- a constructor's contract: from the bare object h0 to the cells out -/
def KG (d mc ms : Nat) (M : MT) (ci : Nat) (fs0 : List Value) (out : ClassId → ClassId → Nat → (Nat → Nat) → va_W) : Prop := ∀ (l : Launch) (D : va_G) (cI cS : ClassId) (h0 sz : Nat), Met l M.1 (wsM M) (rmc d mc ms) (va_Pc [.ref h0] (fun U => U.heap.size = sz ∧ va_P D vwCl [(h0, .inr (ci, fs0))] U.heap ∧ va_K D vwCl [(cI, .int), (cS, .object "TitleMimes$Sheet")] U ∧ va_D (fun _ => True) [(h0, .inr (ci, fs0))] ∧ NX U)) (va_Qv (fun _ : Nat → Nat => True) (fun ad t => va_P D vwCl (out cI cS h0 ad) t.heap ∧ va_D (va_A [(h0, .inr (ci, fs0))] sz) (out cI cS h0 ad)) (va_A [(h0, .inr (ci, fs0))] sz)) mc ms (va_A [(h0, .inr (ci, fs0))] sz)
def oSlip (h0 : Nat) : Nat × va_E := (h0, .inr (2, [.int (-1), .int (nI 0), .int (nI 0), .int (nI 0), .int (nI 0)]))
set_option maxHeartbeats 4000000 in
set_option maxRecDepth 100000 in
theorem K_X2_init : KG 1 0 0 mX2_init 2 [.int 0, .int 0, .int 0, .int 0, .int 0] (fun _ _ h0 _ => [oSlip h0]) := by
  intro l D cI cS h0 sz
  refine Met.ofW (cc := mX2_init.2.1) (maxL := 1) (ret := none) (by decide) rfl ?_
  intro p e s m args below meth c s₁ B hml hv
  obtain ⟨rfl, hsz, hP, hK, hD0, hNX⟩ := hv
  have hx := B.exec
  have hb := B.bytes
  have hr := B.returns
  have hts0 := atoms_spec (ws := wsM mX2_init) B.pre
  have hts : ∀ w ∈ tblG, w.before _ s = true := fun w hw => hts0 w (List.mem_cons_of_mem _ hw)
  have hown : s.vm.findClass RX2 = some m.cls := findClass_of_methodNamed B.named
  have hin : meth.name = "<init>" := (name_of_methodNamed B.named B.method).1
  subst hsz
  have hD := hD0.self (sz := s.heap.size)
  generalize hAe : va_A [(h0, .inr (2, [.int 0, .int 0, .int 0, .int 0, .int 0]))] s.heap.size = A at hD ⊢
  have hA : ∀ q : Nat, s.heap.size ≤ q → A q := fun q h => by rw [← hAe]; exact Or.inr h
  have hS : va_S A s.heap s.heap [] := va_S.rf
  have hl := lv_entry ([.ref h0]) (n := 1) (Nat.le_of_ble_eq_true rfl)
  rw [lg_entry_eq]
  generalize (lg_sl ([.ref h0]) ++ List.replicate (1 - (lg_sl ([.ref h0])).length) Slot.unset).toArray = ls at hl ⊢
  have hl : lv_has ls 1 [(0, .ref h0)] := hl
  have Y : CY mX2_init p s m _ meth c D A [(cI, .int), (cS, .object "TitleMimes$Sheet")] := ⟨hx, hb, hown, hts, hK, hA, fun _ => hin, hNX⟩
  refine lv_aload_n hx hb dX2_init_0 rfl (lv_at hl 0 rfl) ?_
  refine W.objInit hx hb hown (hts (.methodLink RX2 3 objectInit) (by decide +kernel)) (hts (.instanceMethod objectInit) (by decide +kernel)) (hts (.code objectInit ⟨#[0xb1]⟩ 1 none) (by decide +kernel)) rfl (by rw [hml]; exact hl.1) rfl dX2_init_1 (Nat.le_of_ble_eq_true rfl) (Nat.le_of_ble_eq_true rfl) ?_
  refine W.eq (g2 := F0 m 4 ls []) rfl ?_
  refine lv_aload_n hx hb dX2_init_4 rfl (lv_at hl 0 rfl) ?_
  refine lv_iconst (v := (-1)) hx hb dX2_init_5 (by decide) ?_
  refine cw_putI Y 2 0 0 .int dX2_init_6 fl_X2_9 rfl (fun r h => by cases h; exact ⟨rfl, by decide +kernel⟩) rfl rfl (by decide) (fun H locs hP hD hS => ?_) _ _ hP hD hS
  refine lv_aload_n hx hb dX2_init_9 rfl (lv_at hl 0 rfl) ?_
  refine lv_iconst (v := (nI 0)) hx hb dX2_init_10 (by decide) ?_
  refine cw_putI Y 2 1 0 .int dX2_init_11 fl_X2_15 rfl (fun r h => by cases h; exact ⟨rfl, by decide +kernel⟩) rfl rfl (by decide) (fun H locs hP hD hS => ?_) _ _ hP hD hS
  refine lv_aload_n hx hb dX2_init_14 rfl (lv_at hl 0 rfl) ?_
  refine lv_iconst (v := (nI 0)) hx hb dX2_init_15 (by decide) ?_
  refine cw_putI Y 2 2 0 .int dX2_init_16 fl_X2_18 rfl (fun r h => by cases h; exact ⟨rfl, by decide +kernel⟩) rfl rfl (by decide) (fun H locs hP hD hS => ?_) _ _ hP hD hS
  refine lv_aload_n hx hb dX2_init_19 rfl (lv_at hl 0 rfl) ?_
  refine lv_iconst (v := (nI 0)) hx hb dX2_init_20 (by decide) ?_
  refine cw_putI Y 2 3 0 .int dX2_init_21 fl_X2_21 rfl (fun r h => by cases h; exact ⟨rfl, by decide +kernel⟩) rfl rfl (by decide) (fun H locs hP hD hS => ?_) _ _ hP hD hS
  refine lv_aload_n hx hb dX2_init_24 rfl (lv_at hl 0 rfl) ?_
  refine lv_iconst (v := (nI 0)) hx hb dX2_init_25 (by decide) ?_
  refine cw_putI Y 2 4 0 .int dX2_init_26 fl_X2_24 rfl (fun r h => by cases h; exact ⟨rfl, by decide +kernel⟩) rfl rfl (by decide) (fun H locs hP hD hS => ?_) _ _ hP hD hS
  exact W.vret hx hb hr (fun t ht hW => ⟨⟨fun _ => 0, rfl, trivial, by rw [ht]; exact hP, hD⟩, hS.F ht⟩) hS.2.2 dX2_init_29
