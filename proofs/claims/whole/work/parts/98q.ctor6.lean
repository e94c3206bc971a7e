/-! constructors: the model -/
/-- the model's row m, once k of its ten last numbers are set -/
def f6 (k : Nat) : Nat → Int32 := fun j => if j = 4 then nI 1 else if j = 5 ∨ (202 ≤ j ∧ j < 202 + k) then -1 else nI 0
theorem f6_0 : upd (upd (fun _ => nI 0) (nI 4).toNatClampNeg (nI 1)) (nI 5).toNatClampNeg (-1) = f6 0 := by
  rw [nI_clamp (n := 4) (by decide), nI_clamp (n := 5) (by decide)]
  funext j
  unfold upd f6
  by_cases h5 : j = 5
  · rw [if_pos h5, if_neg (by omega), if_pos (Or.inl h5)]
  · by_cases h4 : j = 4
    · rw [if_neg h5, if_pos h4, if_pos h4]
    · rw [if_neg h5, if_neg h4, if_neg h4, if_neg (by omega)]
theorem f6_s {k : Nat} (hk : k < 10) : upd (f6 k) (nI (202 + k)).toNatClampNeg (-1) = f6 (k + 1) := by
  rw [nI_clamp (n := 202 + k) (by omega)]
  funext j
  unfold upd f6
  by_cases h : j = 202 + k
  · rw [if_pos h, if_neg (by omega), if_pos (by omega)]
  · rw [if_neg h]
    by_cases h4 : j = 4
    · rw [if_pos h4, if_pos h4]
    · rw [if_neg h4, if_neg h4]
      by_cases h5 : j = 5 ∨ (202 ≤ j ∧ j < 202 + k)
      · rw [if_pos h5, if_pos (by omega)]
      · rw [if_neg h5, if_neg (by omega)]
section Ctor6
variable {p : Program} {l : Launch} {e : Env} {R : Room} {s : State} {m : MethodId} {args : Array Value} {below : List Frame} {meth : Method} {c : Code} {Q : State → Prop} {D : va_G} {A : Nat → Prop} {cells slots : Nat}
set_option maxHeartbeats 4000000 in
theorem m_loop {cI cS : ClassId} (Y : CY mX6_init p s m args meth c D A [(cI, .int), (cS, .object "TitleMimes$Sheet")]) {h0 q : Nat} {fs : List Value} {rest : va_W} (hf : fs[0]? = some (.ref q)) (hend : ∀ ls, CW p l e R s m args below meth c Q D A 134 ls [] cells slots ((h0, .inr (6, fs)) :: (q, .inl (cI, 212, .inl (f6 10))) :: rest)) : ∀ (n k : Nat) (ls : Array Slot), k + n = 10 → lv_has ls 2 [(1, .int (nI k)), (0, .ref h0)] → CW p l e R s m args below meth c Q D A 111 ls [] cells slots ((h0, .inr (6, fs)) :: (q, .inl (cI, 212, .inl (f6 k))) :: rest) := by
  have hx := Y.1
  have hb : c.code = mX6_init.2.1 := Y.2.1
  intro n
  induction n with
  | zero =>
    intro k ls hk hl H locs hP hD hS
    have e1 : k = 10 := by omega
    subst e1
    refine lv_iload_n hx hb dX6_init_111 rfl (lv_at hl 0 rfl) ?_
    refine lv_bipush (v := nI 10) hx hb dX6_init_112 (by decide) ?_
    exact lv_icmp_ge (tgt := 134) hx hb dX6_init_114 (by decide) (fun _ => hend ls H locs hP hD hS) (fun h => absurd (show nI 10 ≤ nI 10 by decide) h)
  | succ n ih =>
    intro k ls hk hl H locs hP hD hS
    refine lv_iload_n hx hb dX6_init_111 rfl (lv_at hl 0 rfl) ?_
    refine lv_bipush (v := nI 10) hx hb dX6_init_112 (by decide) ?_
    refine lv_icmp_ge (tgt := 134) hx hb dX6_init_114 (by decide) (fun h => absurd h (nI_ge (by omega) (by decide))) (fun _ => ?_)
    refine lv_aload_n hx hb dX6_init_117 rfl (lv_at hl 1 rfl) ?_
    refine cw_get Y 6 0 0 dX6_init_118 fl_X6_9 rfl hf (fun H locs hP hD hS => ?_) _ _ hP hD hS
    refine lv_sipush (v := nI 202) hx hb dX6_init_121 (by decide) ?_
    refine lv_iload_n hx hb dX6_init_124 rfl (lv_at hl 0 rfl) ?_
    refine lv_iadd hx hb dX6_init_125 ?_
    refine lv_iconst (v := -1) hx hb dX6_init_126 (by decide) ?_
    rw [nI_add]
    refine cw_iast Y 1 0 rfl rfl (vp_in_nI (by omega) (by decide)) dX6_init_127 (fun H locs hP hD hS => ?_) _ _ hP hD hS
    have hP : va_P D vwCl ((h0, .inr (6, fs)) :: (q, .inl (cI, 212, .inl (upd (f6 k) (nI (202 + k)).toNatClampNeg (-1)))) :: rest) H := hP
    have hD : va_D A ((h0, .inr (6, fs)) :: (q, .inl (cI, 212, .inl (upd (f6 k) (nI (202 + k)).toNatClampNeg (-1)))) :: rest) := hD
    rw [f6_s (by omega)] at hP hD
    refine lv_iinc (k := 0) (v := nI (k + 1)) hx hb dX6_init_128 hl rfl (by rw [show Int32.ofInt 1 = nI 1 by decide, nI_add]) (by decide) rfl (fun ls hl => ?_)
    have hl : lv_has ls 2 [(1, .int (nI (k + 1))), (0, .ref h0)] := hl
    refine lv_goto (tgt := 111) hx hb dX6_init_131 (by decide) ?_
    exact ih (k + 1) ls (by omega) hl H locs hP hD hS
end Ctor6
def oModel (cI : ClassId) (h0 : Nat) (ad : Nat → Nat) : va_W := [(h0, .inr (6, [.ref (ad 0), .ref (ad 1), .ref (ad 2), .int 0, .ref (ad 3), .ref (ad 4), .ref (ad 5), .int 0, .int 0, .int 0, .int 0, .int 0, .ref (ad 6), .int 0, .int 0, .ref (ad 7), .int 0, .int 0, .int 0, .int 0, .int 0, .int 0, .ref (ad 8), .ref (ad 9), .ref (ad 10)])),
  (ad 0, .inl (cI, 212, .inl (f6 10))),
  (ad 1, .inl (cI, 212, .inl (fun _ => nI 0))),
  (ad 2, .inl (cI, 212, .inl (fun _ => nI 0))),
  (ad 3, .inl (cI, 7, .inl (fun _ => nI 0))),
  (ad 4, .inl (cI, 672, .inl (fun _ => nI 0))),
  (ad 5, .inl (cI, 24, .inl (fun _ => nI 0))),
  (ad 6, .inl (cI, 24, .inl (fun _ => nI 0))),
  (ad 7, .inl (cI, 120, .inl (fun _ => nI 0))),
  (ad 8, .inl (cI, 4, .inl (fun _ => nI 0))),
  (ad 9, .inl (cI, 4, .inl (fun _ => nI 0))),
  (ad 10, .inl (cI, 160, .inl (fun _ => nI 0)))]
set_option maxHeartbeats 16000000 in
set_option maxRecDepth 100000 in
theorem K_X6_init : KG 1 11 1651 mX6_init 6 [.null, .null, .null, .int 0, .null, .null, .null, .int 0, .int 0, .int 0, .int 0, .int 0, .null, .int 0, .int 0, .null, .int 0, .int 0, .int 0, .int 0, .int 0, .int 0, .null, .null, .null] (fun cI _ h0 ad => oModel cI h0 ad) := by
  intro l D cI cS h0 sz
  refine Met.ofW (cc := mX6_init.2.1) (maxL := 2) (ret := none) (by decide) rfl ?_
  intro p e s m args below meth c s₁ B hml hv
  obtain ⟨rfl, hsz, hP, hK, hD0, hNX⟩ := hv
  have hx := B.exec
  have hb := B.bytes
  have hr := B.returns
  have hts0 := atoms_spec (ws := wsM mX6_init) B.pre
  have hts : ∀ w ∈ tblG, w.before _ s = true := fun w hw => hts0 w (List.mem_cons_of_mem _ hw)
  have hown : s.vm.findClass RX6 = some m.cls := findClass_of_methodNamed B.named
  have hin : meth.name = "<init>" := (name_of_methodNamed B.named B.method).1
  subst hsz
  have hD := hD0.self (sz := s.heap.size)
  generalize hAe : va_A [(h0, .inr (6, [.null, .null, .null, .int 0, .null, .null, .null, .int 0, .int 0, .int 0, .int 0, .int 0, .null, .int 0, .int 0, .null, .int 0, .int 0, .int 0, .int 0, .int 0, .int 0, .null, .null, .null]))] s.heap.size = A at hD ⊢
  have hA : ∀ q : Nat, s.heap.size ≤ q → A q := fun q h => by rw [← hAe]; exact Or.inr h
  have hS : va_S A s.heap s.heap [] := va_S.rf
  have hl := lv_entry ([.ref h0]) (n := 2) (Nat.le_of_ble_eq_true rfl)
  rw [lg_entry_eq]
  generalize (lg_sl ([.ref h0]) ++ List.replicate (2 - (lg_sl ([.ref h0])).length) Slot.unset).toArray = ls at hl ⊢
  have hl : lv_has ls 2 [(0, .ref h0)] := hl
  have Y : CY mX6_init p s m _ meth c D A [(cI, .int), (cS, .object "TitleMimes$Sheet")] := ⟨hx, hb, hown, hts, hK, hA, fun _ => hin, hNX⟩
  refine lv_aload_n hx hb dX6_init_0 rfl (lv_at hl 0 rfl) ?_
  refine W.objInit hx hb hown (hts (.methodLink RX6 3 objectInit) (by decide +kernel)) (hts (.instanceMethod objectInit) (by decide +kernel)) (hts (.code objectInit ⟨#[0xb1]⟩ 1 none) (by decide +kernel)) rfl (by rw [hml]; exact hl.1) rfl dX6_init_1 (Nat.le_of_ble_eq_true rfl) (Nat.le_of_ble_eq_true rfl) ?_
  refine W.eq (g2 := F0 m 4 ls []) rfl ?_
  refine lv_aload_n hx hb dX6_init_4 rfl (lv_at hl 0 rfl) ?_
  refine lv_sipush (v := (nI 212)) hx hb dX6_init_5 (by decide) ?_
  refine cw_newa Y (t0 := 0) (N := 212) rfl (by decide) dX6_init_8 (Nat.le_of_ble_eq_true rfl) (Nat.le_of_ble_eq_true rfl) (fun q0 H locs hP hD hS => ?_) _ _ hP hD hS
  have hP : va_P D vwCl [(h0, .inr (6, [.null, .null, .null, .int 0, .null, .null, .null, .int 0, .int 0, .int 0, .int 0, .int 0, .null, .int 0, .int 0, .null, .int 0, .int 0, .int 0, .int 0, .int 0, .int 0, .null, .null, .null])), (q0, .inl (cI, 212, .inl (fun _ => nI 0)))] H := hP
  have hD : va_D A [(h0, .inr (6, [.null, .null, .null, .int 0, .null, .null, .null, .int 0, .int 0, .int 0, .int 0, .int 0, .null, .int 0, .int 0, .null, .int 0, .int 0, .int 0, .int 0, .int 0, .int 0, .null, .null, .null])), (q0, .inl (cI, 212, .inl (fun _ => nI 0)))] := hD
  refine cw_putR rfl Y 6 0 0 (.array .int) dX6_init_10 fl_X6_9 rfl (fun r h => by cases h; exact ⟨rfl, by decide +kernel, rfl⟩) rfl rfl (Nat.le_of_ble_eq_true rfl) (fun H locs hP hD hS => ?_) _ _ hP hD hS
  have hP : va_P D vwCl [(h0, .inr (6, [.ref q0, .null, .null, .int 0, .null, .null, .null, .int 0, .int 0, .int 0, .int 0, .int 0, .null, .int 0, .int 0, .null, .int 0, .int 0, .int 0, .int 0, .int 0, .int 0, .null, .null, .null])), (q0, .inl (cI, 212, .inl (fun _ => nI 0)))] H := hP
  have hD : va_D A [(h0, .inr (6, [.ref q0, .null, .null, .int 0, .null, .null, .null, .int 0, .int 0, .int 0, .int 0, .int 0, .null, .int 0, .int 0, .null, .int 0, .int 0, .int 0, .int 0, .int 0, .int 0, .null, .null, .null])), (q0, .inl (cI, 212, .inl (fun _ => nI 0)))] := hD
  refine lv_aload_n hx hb dX6_init_13 rfl (lv_at hl 0 rfl) ?_
  refine lv_sipush (v := (nI 212)) hx hb dX6_init_14 (by decide) ?_
  refine cw_newa Y (t0 := 0) (N := 212) rfl (by decide) dX6_init_17 (Nat.le_of_ble_eq_true rfl) (Nat.le_of_ble_eq_true rfl) (fun q1 H locs hP hD hS => ?_) _ _ hP hD hS
  have hP : va_P D vwCl [(h0, .inr (6, [.ref q0, .null, .null, .int 0, .null, .null, .null, .int 0, .int 0, .int 0, .int 0, .int 0, .null, .int 0, .int 0, .null, .int 0, .int 0, .int 0, .int 0, .int 0, .int 0, .null, .null, .null])), (q0, .inl (cI, 212, .inl (fun _ => nI 0))), (q1, .inl (cI, 212, .inl (fun _ => nI 0)))] H := hP
  have hD : va_D A [(h0, .inr (6, [.ref q0, .null, .null, .int 0, .null, .null, .null, .int 0, .int 0, .int 0, .int 0, .int 0, .null, .int 0, .int 0, .null, .int 0, .int 0, .int 0, .int 0, .int 0, .int 0, .null, .null, .null])), (q0, .inl (cI, 212, .inl (fun _ => nI 0))), (q1, .inl (cI, 212, .inl (fun _ => nI 0)))] := hD
  refine cw_putR rfl Y 6 1 0 (.array .int) dX6_init_19 fl_X6_13 rfl (fun r h => by cases h; exact ⟨rfl, by decide +kernel, rfl⟩) rfl rfl (Nat.le_of_ble_eq_true rfl) (fun H locs hP hD hS => ?_) _ _ hP hD hS
  have hP : va_P D vwCl [(h0, .inr (6, [.ref q0, .ref q1, .null, .int 0, .null, .null, .null, .int 0, .int 0, .int 0, .int 0, .int 0, .null, .int 0, .int 0, .null, .int 0, .int 0, .int 0, .int 0, .int 0, .int 0, .null, .null, .null])), (q0, .inl (cI, 212, .inl (fun _ => nI 0))), (q1, .inl (cI, 212, .inl (fun _ => nI 0)))] H := hP
  have hD : va_D A [(h0, .inr (6, [.ref q0, .ref q1, .null, .int 0, .null, .null, .null, .int 0, .int 0, .int 0, .int 0, .int 0, .null, .int 0, .int 0, .null, .int 0, .int 0, .int 0, .int 0, .int 0, .int 0, .null, .null, .null])), (q0, .inl (cI, 212, .inl (fun _ => nI 0))), (q1, .inl (cI, 212, .inl (fun _ => nI 0)))] := hD
  refine lv_aload_n hx hb dX6_init_22 rfl (lv_at hl 0 rfl) ?_
  refine lv_sipush (v := (nI 212)) hx hb dX6_init_23 (by decide) ?_
  refine cw_newa Y (t0 := 0) (N := 212) rfl (by decide) dX6_init_26 (Nat.le_of_ble_eq_true rfl) (Nat.le_of_ble_eq_true rfl) (fun q2 H locs hP hD hS => ?_) _ _ hP hD hS
  have hP : va_P D vwCl [(h0, .inr (6, [.ref q0, .ref q1, .null, .int 0, .null, .null, .null, .int 0, .int 0, .int 0, .int 0, .int 0, .null, .int 0, .int 0, .null, .int 0, .int 0, .int 0, .int 0, .int 0, .int 0, .null, .null, .null])), (q0, .inl (cI, 212, .inl (fun _ => nI 0))), (q1, .inl (cI, 212, .inl (fun _ => nI 0))), (q2, .inl (cI, 212, .inl (fun _ => nI 0)))] H := hP
  have hD : va_D A [(h0, .inr (6, [.ref q0, .ref q1, .null, .int 0, .null, .null, .null, .int 0, .int 0, .int 0, .int 0, .int 0, .null, .int 0, .int 0, .null, .int 0, .int 0, .int 0, .int 0, .int 0, .int 0, .null, .null, .null])), (q0, .inl (cI, 212, .inl (fun _ => nI 0))), (q1, .inl (cI, 212, .inl (fun _ => nI 0))), (q2, .inl (cI, 212, .inl (fun _ => nI 0)))] := hD
  refine cw_putR rfl Y 6 2 0 (.array .int) dX6_init_28 fl_X6_16 rfl (fun r h => by cases h; exact ⟨rfl, by decide +kernel, rfl⟩) rfl rfl (Nat.le_of_ble_eq_true rfl) (fun H locs hP hD hS => ?_) _ _ hP hD hS
  have hP : va_P D vwCl [(h0, .inr (6, [.ref q0, .ref q1, .ref q2, .int 0, .null, .null, .null, .int 0, .int 0, .int 0, .int 0, .int 0, .null, .int 0, .int 0, .null, .int 0, .int 0, .int 0, .int 0, .int 0, .int 0, .null, .null, .null])), (q0, .inl (cI, 212, .inl (fun _ => nI 0))), (q1, .inl (cI, 212, .inl (fun _ => nI 0))), (q2, .inl (cI, 212, .inl (fun _ => nI 0)))] H := hP
  have hD : va_D A [(h0, .inr (6, [.ref q0, .ref q1, .ref q2, .int 0, .null, .null, .null, .int 0, .int 0, .int 0, .int 0, .int 0, .null, .int 0, .int 0, .null, .int 0, .int 0, .int 0, .int 0, .int 0, .int 0, .null, .null, .null])), (q0, .inl (cI, 212, .inl (fun _ => nI 0))), (q1, .inl (cI, 212, .inl (fun _ => nI 0))), (q2, .inl (cI, 212, .inl (fun _ => nI 0)))] := hD
  refine lv_aload_n hx hb dX6_init_31 rfl (lv_at hl 0 rfl) ?_
  refine lv_bipush (v := (nI 7)) hx hb dX6_init_32 (by decide) ?_
  refine cw_newa Y (t0 := 0) (N := 7) rfl (by decide) dX6_init_34 (Nat.le_of_ble_eq_true rfl) (Nat.le_of_ble_eq_true rfl) (fun q3 H locs hP hD hS => ?_) _ _ hP hD hS
  have hP : va_P D vwCl [(h0, .inr (6, [.ref q0, .ref q1, .ref q2, .int 0, .null, .null, .null, .int 0, .int 0, .int 0, .int 0, .int 0, .null, .int 0, .int 0, .null, .int 0, .int 0, .int 0, .int 0, .int 0, .int 0, .null, .null, .null])), (q0, .inl (cI, 212, .inl (fun _ => nI 0))), (q1, .inl (cI, 212, .inl (fun _ => nI 0))), (q2, .inl (cI, 212, .inl (fun _ => nI 0))), (q3, .inl (cI, 7, .inl (fun _ => nI 0)))] H := hP
  have hD : va_D A [(h0, .inr (6, [.ref q0, .ref q1, .ref q2, .int 0, .null, .null, .null, .int 0, .int 0, .int 0, .int 0, .int 0, .null, .int 0, .int 0, .null, .int 0, .int 0, .int 0, .int 0, .int 0, .int 0, .null, .null, .null])), (q0, .inl (cI, 212, .inl (fun _ => nI 0))), (q1, .inl (cI, 212, .inl (fun _ => nI 0))), (q2, .inl (cI, 212, .inl (fun _ => nI 0))), (q3, .inl (cI, 7, .inl (fun _ => nI 0)))] := hD
  refine cw_putR rfl Y 6 4 0 (.array .int) dX6_init_36 fl_X6_19 rfl (fun r h => by cases h; exact ⟨rfl, by decide +kernel, rfl⟩) rfl rfl (Nat.le_of_ble_eq_true rfl) (fun H locs hP hD hS => ?_) _ _ hP hD hS
  have hP : va_P D vwCl [(h0, .inr (6, [.ref q0, .ref q1, .ref q2, .int 0, .ref q3, .null, .null, .int 0, .int 0, .int 0, .int 0, .int 0, .null, .int 0, .int 0, .null, .int 0, .int 0, .int 0, .int 0, .int 0, .int 0, .null, .null, .null])), (q0, .inl (cI, 212, .inl (fun _ => nI 0))), (q1, .inl (cI, 212, .inl (fun _ => nI 0))), (q2, .inl (cI, 212, .inl (fun _ => nI 0))), (q3, .inl (cI, 7, .inl (fun _ => nI 0)))] H := hP
  have hD : va_D A [(h0, .inr (6, [.ref q0, .ref q1, .ref q2, .int 0, .ref q3, .null, .null, .int 0, .int 0, .int 0, .int 0, .int 0, .null, .int 0, .int 0, .null, .int 0, .int 0, .int 0, .int 0, .int 0, .int 0, .null, .null, .null])), (q0, .inl (cI, 212, .inl (fun _ => nI 0))), (q1, .inl (cI, 212, .inl (fun _ => nI 0))), (q2, .inl (cI, 212, .inl (fun _ => nI 0))), (q3, .inl (cI, 7, .inl (fun _ => nI 0)))] := hD
  refine lv_aload_n hx hb dX6_init_39 rfl (lv_at hl 0 rfl) ?_
  refine lv_sipush (v := (nI 672)) hx hb dX6_init_40 (by decide) ?_
  refine cw_newa Y (t0 := 0) (N := 672) rfl (by decide) dX6_init_43 (Nat.le_of_ble_eq_true rfl) (Nat.le_of_ble_eq_true rfl) (fun q4 H locs hP hD hS => ?_) _ _ hP hD hS
  have hP : va_P D vwCl [(h0, .inr (6, [.ref q0, .ref q1, .ref q2, .int 0, .ref q3, .null, .null, .int 0, .int 0, .int 0, .int 0, .int 0, .null, .int 0, .int 0, .null, .int 0, .int 0, .int 0, .int 0, .int 0, .int 0, .null, .null, .null])), (q0, .inl (cI, 212, .inl (fun _ => nI 0))), (q1, .inl (cI, 212, .inl (fun _ => nI 0))), (q2, .inl (cI, 212, .inl (fun _ => nI 0))), (q3, .inl (cI, 7, .inl (fun _ => nI 0))), (q4, .inl (cI, 672, .inl (fun _ => nI 0)))] H := hP
  have hD : va_D A [(h0, .inr (6, [.ref q0, .ref q1, .ref q2, .int 0, .ref q3, .null, .null, .int 0, .int 0, .int 0, .int 0, .int 0, .null, .int 0, .int 0, .null, .int 0, .int 0, .int 0, .int 0, .int 0, .int 0, .null, .null, .null])), (q0, .inl (cI, 212, .inl (fun _ => nI 0))), (q1, .inl (cI, 212, .inl (fun _ => nI 0))), (q2, .inl (cI, 212, .inl (fun _ => nI 0))), (q3, .inl (cI, 7, .inl (fun _ => nI 0))), (q4, .inl (cI, 672, .inl (fun _ => nI 0)))] := hD
  refine cw_putR rfl Y 6 5 0 (.array .int) dX6_init_45 fl_X6_22 rfl (fun r h => by cases h; exact ⟨rfl, by decide +kernel, rfl⟩) rfl rfl (Nat.le_of_ble_eq_true rfl) (fun H locs hP hD hS => ?_) _ _ hP hD hS
  have hP : va_P D vwCl [(h0, .inr (6, [.ref q0, .ref q1, .ref q2, .int 0, .ref q3, .ref q4, .null, .int 0, .int 0, .int 0, .int 0, .int 0, .null, .int 0, .int 0, .null, .int 0, .int 0, .int 0, .int 0, .int 0, .int 0, .null, .null, .null])), (q0, .inl (cI, 212, .inl (fun _ => nI 0))), (q1, .inl (cI, 212, .inl (fun _ => nI 0))), (q2, .inl (cI, 212, .inl (fun _ => nI 0))), (q3, .inl (cI, 7, .inl (fun _ => nI 0))), (q4, .inl (cI, 672, .inl (fun _ => nI 0)))] H := hP
  have hD : va_D A [(h0, .inr (6, [.ref q0, .ref q1, .ref q2, .int 0, .ref q3, .ref q4, .null, .int 0, .int 0, .int 0, .int 0, .int 0, .null, .int 0, .int 0, .null, .int 0, .int 0, .int 0, .int 0, .int 0, .int 0, .null, .null, .null])), (q0, .inl (cI, 212, .inl (fun _ => nI 0))), (q1, .inl (cI, 212, .inl (fun _ => nI 0))), (q2, .inl (cI, 212, .inl (fun _ => nI 0))), (q3, .inl (cI, 7, .inl (fun _ => nI 0))), (q4, .inl (cI, 672, .inl (fun _ => nI 0)))] := hD
  refine lv_aload_n hx hb dX6_init_48 rfl (lv_at hl 0 rfl) ?_
  refine lv_bipush (v := (nI 24)) hx hb dX6_init_49 (by decide) ?_
  refine cw_newa Y (t0 := 0) (N := 24) rfl (by decide) dX6_init_51 (Nat.le_of_ble_eq_true rfl) (Nat.le_of_ble_eq_true rfl) (fun q5 H locs hP hD hS => ?_) _ _ hP hD hS
  have hP : va_P D vwCl [(h0, .inr (6, [.ref q0, .ref q1, .ref q2, .int 0, .ref q3, .ref q4, .null, .int 0, .int 0, .int 0, .int 0, .int 0, .null, .int 0, .int 0, .null, .int 0, .int 0, .int 0, .int 0, .int 0, .int 0, .null, .null, .null])), (q0, .inl (cI, 212, .inl (fun _ => nI 0))), (q1, .inl (cI, 212, .inl (fun _ => nI 0))), (q2, .inl (cI, 212, .inl (fun _ => nI 0))), (q3, .inl (cI, 7, .inl (fun _ => nI 0))), (q4, .inl (cI, 672, .inl (fun _ => nI 0))), (q5, .inl (cI, 24, .inl (fun _ => nI 0)))] H := hP
  have hD : va_D A [(h0, .inr (6, [.ref q0, .ref q1, .ref q2, .int 0, .ref q3, .ref q4, .null, .int 0, .int 0, .int 0, .int 0, .int 0, .null, .int 0, .int 0, .null, .int 0, .int 0, .int 0, .int 0, .int 0, .int 0, .null, .null, .null])), (q0, .inl (cI, 212, .inl (fun _ => nI 0))), (q1, .inl (cI, 212, .inl (fun _ => nI 0))), (q2, .inl (cI, 212, .inl (fun _ => nI 0))), (q3, .inl (cI, 7, .inl (fun _ => nI 0))), (q4, .inl (cI, 672, .inl (fun _ => nI 0))), (q5, .inl (cI, 24, .inl (fun _ => nI 0)))] := hD
  refine cw_putR rfl Y 6 6 0 (.array .int) dX6_init_53 fl_X6_25 rfl (fun r h => by cases h; exact ⟨rfl, by decide +kernel, rfl⟩) rfl rfl (Nat.le_of_ble_eq_true rfl) (fun H locs hP hD hS => ?_) _ _ hP hD hS
  have hP : va_P D vwCl [(h0, .inr (6, [.ref q0, .ref q1, .ref q2, .int 0, .ref q3, .ref q4, .ref q5, .int 0, .int 0, .int 0, .int 0, .int 0, .null, .int 0, .int 0, .null, .int 0, .int 0, .int 0, .int 0, .int 0, .int 0, .null, .null, .null])), (q0, .inl (cI, 212, .inl (fun _ => nI 0))), (q1, .inl (cI, 212, .inl (fun _ => nI 0))), (q2, .inl (cI, 212, .inl (fun _ => nI 0))), (q3, .inl (cI, 7, .inl (fun _ => nI 0))), (q4, .inl (cI, 672, .inl (fun _ => nI 0))), (q5, .inl (cI, 24, .inl (fun _ => nI 0)))] H := hP
  have hD : va_D A [(h0, .inr (6, [.ref q0, .ref q1, .ref q2, .int 0, .ref q3, .ref q4, .ref q5, .int 0, .int 0, .int 0, .int 0, .int 0, .null, .int 0, .int 0, .null, .int 0, .int 0, .int 0, .int 0, .int 0, .int 0, .null, .null, .null])), (q0, .inl (cI, 212, .inl (fun _ => nI 0))), (q1, .inl (cI, 212, .inl (fun _ => nI 0))), (q2, .inl (cI, 212, .inl (fun _ => nI 0))), (q3, .inl (cI, 7, .inl (fun _ => nI 0))), (q4, .inl (cI, 672, .inl (fun _ => nI 0))), (q5, .inl (cI, 24, .inl (fun _ => nI 0)))] := hD
  refine lv_aload_n hx hb dX6_init_56 rfl (lv_at hl 0 rfl) ?_
  refine lv_bipush (v := (nI 24)) hx hb dX6_init_57 (by decide) ?_
  refine cw_newa Y (t0 := 0) (N := 24) rfl (by decide) dX6_init_59 (Nat.le_of_ble_eq_true rfl) (Nat.le_of_ble_eq_true rfl) (fun q6 H locs hP hD hS => ?_) _ _ hP hD hS
  have hP : va_P D vwCl [(h0, .inr (6, [.ref q0, .ref q1, .ref q2, .int 0, .ref q3, .ref q4, .ref q5, .int 0, .int 0, .int 0, .int 0, .int 0, .null, .int 0, .int 0, .null, .int 0, .int 0, .int 0, .int 0, .int 0, .int 0, .null, .null, .null])), (q0, .inl (cI, 212, .inl (fun _ => nI 0))), (q1, .inl (cI, 212, .inl (fun _ => nI 0))), (q2, .inl (cI, 212, .inl (fun _ => nI 0))), (q3, .inl (cI, 7, .inl (fun _ => nI 0))), (q4, .inl (cI, 672, .inl (fun _ => nI 0))), (q5, .inl (cI, 24, .inl (fun _ => nI 0))), (q6, .inl (cI, 24, .inl (fun _ => nI 0)))] H := hP
  have hD : va_D A [(h0, .inr (6, [.ref q0, .ref q1, .ref q2, .int 0, .ref q3, .ref q4, .ref q5, .int 0, .int 0, .int 0, .int 0, .int 0, .null, .int 0, .int 0, .null, .int 0, .int 0, .int 0, .int 0, .int 0, .int 0, .null, .null, .null])), (q0, .inl (cI, 212, .inl (fun _ => nI 0))), (q1, .inl (cI, 212, .inl (fun _ => nI 0))), (q2, .inl (cI, 212, .inl (fun _ => nI 0))), (q3, .inl (cI, 7, .inl (fun _ => nI 0))), (q4, .inl (cI, 672, .inl (fun _ => nI 0))), (q5, .inl (cI, 24, .inl (fun _ => nI 0))), (q6, .inl (cI, 24, .inl (fun _ => nI 0)))] := hD
  refine cw_putR rfl Y 6 12 0 (.array .int) dX6_init_61 fl_X6_28 rfl (fun r h => by cases h; exact ⟨rfl, by decide +kernel, rfl⟩) rfl rfl (Nat.le_of_ble_eq_true rfl) (fun H locs hP hD hS => ?_) _ _ hP hD hS
  have hP : va_P D vwCl [(h0, .inr (6, [.ref q0, .ref q1, .ref q2, .int 0, .ref q3, .ref q4, .ref q5, .int 0, .int 0, .int 0, .int 0, .int 0, .ref q6, .int 0, .int 0, .null, .int 0, .int 0, .int 0, .int 0, .int 0, .int 0, .null, .null, .null])), (q0, .inl (cI, 212, .inl (fun _ => nI 0))), (q1, .inl (cI, 212, .inl (fun _ => nI 0))), (q2, .inl (cI, 212, .inl (fun _ => nI 0))), (q3, .inl (cI, 7, .inl (fun _ => nI 0))), (q4, .inl (cI, 672, .inl (fun _ => nI 0))), (q5, .inl (cI, 24, .inl (fun _ => nI 0))), (q6, .inl (cI, 24, .inl (fun _ => nI 0)))] H := hP
  have hD : va_D A [(h0, .inr (6, [.ref q0, .ref q1, .ref q2, .int 0, .ref q3, .ref q4, .ref q5, .int 0, .int 0, .int 0, .int 0, .int 0, .ref q6, .int 0, .int 0, .null, .int 0, .int 0, .int 0, .int 0, .int 0, .int 0, .null, .null, .null])), (q0, .inl (cI, 212, .inl (fun _ => nI 0))), (q1, .inl (cI, 212, .inl (fun _ => nI 0))), (q2, .inl (cI, 212, .inl (fun _ => nI 0))), (q3, .inl (cI, 7, .inl (fun _ => nI 0))), (q4, .inl (cI, 672, .inl (fun _ => nI 0))), (q5, .inl (cI, 24, .inl (fun _ => nI 0))), (q6, .inl (cI, 24, .inl (fun _ => nI 0)))] := hD
  refine lv_aload_n hx hb dX6_init_64 rfl (lv_at hl 0 rfl) ?_
  refine lv_bipush (v := (nI 120)) hx hb dX6_init_65 (by decide) ?_
  refine cw_newa Y (t0 := 0) (N := 120) rfl (by decide) dX6_init_67 (Nat.le_of_ble_eq_true rfl) (Nat.le_of_ble_eq_true rfl) (fun q7 H locs hP hD hS => ?_) _ _ hP hD hS
  have hP : va_P D vwCl [(h0, .inr (6, [.ref q0, .ref q1, .ref q2, .int 0, .ref q3, .ref q4, .ref q5, .int 0, .int 0, .int 0, .int 0, .int 0, .ref q6, .int 0, .int 0, .null, .int 0, .int 0, .int 0, .int 0, .int 0, .int 0, .null, .null, .null])), (q0, .inl (cI, 212, .inl (fun _ => nI 0))), (q1, .inl (cI, 212, .inl (fun _ => nI 0))), (q2, .inl (cI, 212, .inl (fun _ => nI 0))), (q3, .inl (cI, 7, .inl (fun _ => nI 0))), (q4, .inl (cI, 672, .inl (fun _ => nI 0))), (q5, .inl (cI, 24, .inl (fun _ => nI 0))), (q6, .inl (cI, 24, .inl (fun _ => nI 0))), (q7, .inl (cI, 120, .inl (fun _ => nI 0)))] H := hP
  have hD : va_D A [(h0, .inr (6, [.ref q0, .ref q1, .ref q2, .int 0, .ref q3, .ref q4, .ref q5, .int 0, .int 0, .int 0, .int 0, .int 0, .ref q6, .int 0, .int 0, .null, .int 0, .int 0, .int 0, .int 0, .int 0, .int 0, .null, .null, .null])), (q0, .inl (cI, 212, .inl (fun _ => nI 0))), (q1, .inl (cI, 212, .inl (fun _ => nI 0))), (q2, .inl (cI, 212, .inl (fun _ => nI 0))), (q3, .inl (cI, 7, .inl (fun _ => nI 0))), (q4, .inl (cI, 672, .inl (fun _ => nI 0))), (q5, .inl (cI, 24, .inl (fun _ => nI 0))), (q6, .inl (cI, 24, .inl (fun _ => nI 0))), (q7, .inl (cI, 120, .inl (fun _ => nI 0)))] := hD
  refine cw_putR rfl Y 6 15 0 (.array .int) dX6_init_69 fl_X6_31 rfl (fun r h => by cases h; exact ⟨rfl, by decide +kernel, rfl⟩) rfl rfl (Nat.le_of_ble_eq_true rfl) (fun H locs hP hD hS => ?_) _ _ hP hD hS
  have hP : va_P D vwCl [(h0, .inr (6, [.ref q0, .ref q1, .ref q2, .int 0, .ref q3, .ref q4, .ref q5, .int 0, .int 0, .int 0, .int 0, .int 0, .ref q6, .int 0, .int 0, .ref q7, .int 0, .int 0, .int 0, .int 0, .int 0, .int 0, .null, .null, .null])), (q0, .inl (cI, 212, .inl (fun _ => nI 0))), (q1, .inl (cI, 212, .inl (fun _ => nI 0))), (q2, .inl (cI, 212, .inl (fun _ => nI 0))), (q3, .inl (cI, 7, .inl (fun _ => nI 0))), (q4, .inl (cI, 672, .inl (fun _ => nI 0))), (q5, .inl (cI, 24, .inl (fun _ => nI 0))), (q6, .inl (cI, 24, .inl (fun _ => nI 0))), (q7, .inl (cI, 120, .inl (fun _ => nI 0)))] H := hP
  have hD : va_D A [(h0, .inr (6, [.ref q0, .ref q1, .ref q2, .int 0, .ref q3, .ref q4, .ref q5, .int 0, .int 0, .int 0, .int 0, .int 0, .ref q6, .int 0, .int 0, .ref q7, .int 0, .int 0, .int 0, .int 0, .int 0, .int 0, .null, .null, .null])), (q0, .inl (cI, 212, .inl (fun _ => nI 0))), (q1, .inl (cI, 212, .inl (fun _ => nI 0))), (q2, .inl (cI, 212, .inl (fun _ => nI 0))), (q3, .inl (cI, 7, .inl (fun _ => nI 0))), (q4, .inl (cI, 672, .inl (fun _ => nI 0))), (q5, .inl (cI, 24, .inl (fun _ => nI 0))), (q6, .inl (cI, 24, .inl (fun _ => nI 0))), (q7, .inl (cI, 120, .inl (fun _ => nI 0)))] := hD
  refine lv_aload_n hx hb dX6_init_72 rfl (lv_at hl 0 rfl) ?_
  refine lv_iconst (v := (nI 4)) hx hb dX6_init_73 (by decide) ?_
  refine cw_newa Y (t0 := 0) (N := 4) rfl (by decide) dX6_init_74 (Nat.le_of_ble_eq_true rfl) (Nat.le_of_ble_eq_true rfl) (fun q8 H locs hP hD hS => ?_) _ _ hP hD hS
  have hP : va_P D vwCl [(h0, .inr (6, [.ref q0, .ref q1, .ref q2, .int 0, .ref q3, .ref q4, .ref q5, .int 0, .int 0, .int 0, .int 0, .int 0, .ref q6, .int 0, .int 0, .ref q7, .int 0, .int 0, .int 0, .int 0, .int 0, .int 0, .null, .null, .null])), (q0, .inl (cI, 212, .inl (fun _ => nI 0))), (q1, .inl (cI, 212, .inl (fun _ => nI 0))), (q2, .inl (cI, 212, .inl (fun _ => nI 0))), (q3, .inl (cI, 7, .inl (fun _ => nI 0))), (q4, .inl (cI, 672, .inl (fun _ => nI 0))), (q5, .inl (cI, 24, .inl (fun _ => nI 0))), (q6, .inl (cI, 24, .inl (fun _ => nI 0))), (q7, .inl (cI, 120, .inl (fun _ => nI 0))), (q8, .inl (cI, 4, .inl (fun _ => nI 0)))] H := hP
  have hD : va_D A [(h0, .inr (6, [.ref q0, .ref q1, .ref q2, .int 0, .ref q3, .ref q4, .ref q5, .int 0, .int 0, .int 0, .int 0, .int 0, .ref q6, .int 0, .int 0, .ref q7, .int 0, .int 0, .int 0, .int 0, .int 0, .int 0, .null, .null, .null])), (q0, .inl (cI, 212, .inl (fun _ => nI 0))), (q1, .inl (cI, 212, .inl (fun _ => nI 0))), (q2, .inl (cI, 212, .inl (fun _ => nI 0))), (q3, .inl (cI, 7, .inl (fun _ => nI 0))), (q4, .inl (cI, 672, .inl (fun _ => nI 0))), (q5, .inl (cI, 24, .inl (fun _ => nI 0))), (q6, .inl (cI, 24, .inl (fun _ => nI 0))), (q7, .inl (cI, 120, .inl (fun _ => nI 0))), (q8, .inl (cI, 4, .inl (fun _ => nI 0)))] := hD
  refine cw_putR rfl Y 6 22 0 (.array .int) dX6_init_76 fl_X6_34 rfl (fun r h => by cases h; exact ⟨rfl, by decide +kernel, rfl⟩) rfl rfl (Nat.le_of_ble_eq_true rfl) (fun H locs hP hD hS => ?_) _ _ hP hD hS
  have hP : va_P D vwCl [(h0, .inr (6, [.ref q0, .ref q1, .ref q2, .int 0, .ref q3, .ref q4, .ref q5, .int 0, .int 0, .int 0, .int 0, .int 0, .ref q6, .int 0, .int 0, .ref q7, .int 0, .int 0, .int 0, .int 0, .int 0, .int 0, .ref q8, .null, .null])), (q0, .inl (cI, 212, .inl (fun _ => nI 0))), (q1, .inl (cI, 212, .inl (fun _ => nI 0))), (q2, .inl (cI, 212, .inl (fun _ => nI 0))), (q3, .inl (cI, 7, .inl (fun _ => nI 0))), (q4, .inl (cI, 672, .inl (fun _ => nI 0))), (q5, .inl (cI, 24, .inl (fun _ => nI 0))), (q6, .inl (cI, 24, .inl (fun _ => nI 0))), (q7, .inl (cI, 120, .inl (fun _ => nI 0))), (q8, .inl (cI, 4, .inl (fun _ => nI 0)))] H := hP
  have hD : va_D A [(h0, .inr (6, [.ref q0, .ref q1, .ref q2, .int 0, .ref q3, .ref q4, .ref q5, .int 0, .int 0, .int 0, .int 0, .int 0, .ref q6, .int 0, .int 0, .ref q7, .int 0, .int 0, .int 0, .int 0, .int 0, .int 0, .ref q8, .null, .null])), (q0, .inl (cI, 212, .inl (fun _ => nI 0))), (q1, .inl (cI, 212, .inl (fun _ => nI 0))), (q2, .inl (cI, 212, .inl (fun _ => nI 0))), (q3, .inl (cI, 7, .inl (fun _ => nI 0))), (q4, .inl (cI, 672, .inl (fun _ => nI 0))), (q5, .inl (cI, 24, .inl (fun _ => nI 0))), (q6, .inl (cI, 24, .inl (fun _ => nI 0))), (q7, .inl (cI, 120, .inl (fun _ => nI 0))), (q8, .inl (cI, 4, .inl (fun _ => nI 0)))] := hD
  refine lv_aload_n hx hb dX6_init_79 rfl (lv_at hl 0 rfl) ?_
  refine lv_iconst (v := (nI 4)) hx hb dX6_init_80 (by decide) ?_
  refine cw_newa Y (t0 := 0) (N := 4) rfl (by decide) dX6_init_81 (Nat.le_of_ble_eq_true rfl) (Nat.le_of_ble_eq_true rfl) (fun q9 H locs hP hD hS => ?_) _ _ hP hD hS
  have hP : va_P D vwCl [(h0, .inr (6, [.ref q0, .ref q1, .ref q2, .int 0, .ref q3, .ref q4, .ref q5, .int 0, .int 0, .int 0, .int 0, .int 0, .ref q6, .int 0, .int 0, .ref q7, .int 0, .int 0, .int 0, .int 0, .int 0, .int 0, .ref q8, .null, .null])), (q0, .inl (cI, 212, .inl (fun _ => nI 0))), (q1, .inl (cI, 212, .inl (fun _ => nI 0))), (q2, .inl (cI, 212, .inl (fun _ => nI 0))), (q3, .inl (cI, 7, .inl (fun _ => nI 0))), (q4, .inl (cI, 672, .inl (fun _ => nI 0))), (q5, .inl (cI, 24, .inl (fun _ => nI 0))), (q6, .inl (cI, 24, .inl (fun _ => nI 0))), (q7, .inl (cI, 120, .inl (fun _ => nI 0))), (q8, .inl (cI, 4, .inl (fun _ => nI 0))), (q9, .inl (cI, 4, .inl (fun _ => nI 0)))] H := hP
  have hD : va_D A [(h0, .inr (6, [.ref q0, .ref q1, .ref q2, .int 0, .ref q3, .ref q4, .ref q5, .int 0, .int 0, .int 0, .int 0, .int 0, .ref q6, .int 0, .int 0, .ref q7, .int 0, .int 0, .int 0, .int 0, .int 0, .int 0, .ref q8, .null, .null])), (q0, .inl (cI, 212, .inl (fun _ => nI 0))), (q1, .inl (cI, 212, .inl (fun _ => nI 0))), (q2, .inl (cI, 212, .inl (fun _ => nI 0))), (q3, .inl (cI, 7, .inl (fun _ => nI 0))), (q4, .inl (cI, 672, .inl (fun _ => nI 0))), (q5, .inl (cI, 24, .inl (fun _ => nI 0))), (q6, .inl (cI, 24, .inl (fun _ => nI 0))), (q7, .inl (cI, 120, .inl (fun _ => nI 0))), (q8, .inl (cI, 4, .inl (fun _ => nI 0))), (q9, .inl (cI, 4, .inl (fun _ => nI 0)))] := hD
  refine cw_putR rfl Y 6 23 0 (.array .int) dX6_init_83 fl_X6_37 rfl (fun r h => by cases h; exact ⟨rfl, by decide +kernel, rfl⟩) rfl rfl (Nat.le_of_ble_eq_true rfl) (fun H locs hP hD hS => ?_) _ _ hP hD hS
  have hP : va_P D vwCl [(h0, .inr (6, [.ref q0, .ref q1, .ref q2, .int 0, .ref q3, .ref q4, .ref q5, .int 0, .int 0, .int 0, .int 0, .int 0, .ref q6, .int 0, .int 0, .ref q7, .int 0, .int 0, .int 0, .int 0, .int 0, .int 0, .ref q8, .ref q9, .null])), (q0, .inl (cI, 212, .inl (fun _ => nI 0))), (q1, .inl (cI, 212, .inl (fun _ => nI 0))), (q2, .inl (cI, 212, .inl (fun _ => nI 0))), (q3, .inl (cI, 7, .inl (fun _ => nI 0))), (q4, .inl (cI, 672, .inl (fun _ => nI 0))), (q5, .inl (cI, 24, .inl (fun _ => nI 0))), (q6, .inl (cI, 24, .inl (fun _ => nI 0))), (q7, .inl (cI, 120, .inl (fun _ => nI 0))), (q8, .inl (cI, 4, .inl (fun _ => nI 0))), (q9, .inl (cI, 4, .inl (fun _ => nI 0)))] H := hP
  have hD : va_D A [(h0, .inr (6, [.ref q0, .ref q1, .ref q2, .int 0, .ref q3, .ref q4, .ref q5, .int 0, .int 0, .int 0, .int 0, .int 0, .ref q6, .int 0, .int 0, .ref q7, .int 0, .int 0, .int 0, .int 0, .int 0, .int 0, .ref q8, .ref q9, .null])), (q0, .inl (cI, 212, .inl (fun _ => nI 0))), (q1, .inl (cI, 212, .inl (fun _ => nI 0))), (q2, .inl (cI, 212, .inl (fun _ => nI 0))), (q3, .inl (cI, 7, .inl (fun _ => nI 0))), (q4, .inl (cI, 672, .inl (fun _ => nI 0))), (q5, .inl (cI, 24, .inl (fun _ => nI 0))), (q6, .inl (cI, 24, .inl (fun _ => nI 0))), (q7, .inl (cI, 120, .inl (fun _ => nI 0))), (q8, .inl (cI, 4, .inl (fun _ => nI 0))), (q9, .inl (cI, 4, .inl (fun _ => nI 0)))] := hD
  refine lv_aload_n hx hb dX6_init_86 rfl (lv_at hl 0 rfl) ?_
  refine lv_sipush (v := (nI 160)) hx hb dX6_init_87 (by decide) ?_
  refine cw_newa Y (t0 := 0) (N := 160) rfl (by decide) dX6_init_90 (Nat.le_of_ble_eq_true rfl) (Nat.le_of_ble_eq_true rfl) (fun q10 H locs hP hD hS => ?_) _ _ hP hD hS
  have hP : va_P D vwCl [(h0, .inr (6, [.ref q0, .ref q1, .ref q2, .int 0, .ref q3, .ref q4, .ref q5, .int 0, .int 0, .int 0, .int 0, .int 0, .ref q6, .int 0, .int 0, .ref q7, .int 0, .int 0, .int 0, .int 0, .int 0, .int 0, .ref q8, .ref q9, .null])), (q0, .inl (cI, 212, .inl (fun _ => nI 0))), (q1, .inl (cI, 212, .inl (fun _ => nI 0))), (q2, .inl (cI, 212, .inl (fun _ => nI 0))), (q3, .inl (cI, 7, .inl (fun _ => nI 0))), (q4, .inl (cI, 672, .inl (fun _ => nI 0))), (q5, .inl (cI, 24, .inl (fun _ => nI 0))), (q6, .inl (cI, 24, .inl (fun _ => nI 0))), (q7, .inl (cI, 120, .inl (fun _ => nI 0))), (q8, .inl (cI, 4, .inl (fun _ => nI 0))), (q9, .inl (cI, 4, .inl (fun _ => nI 0))), (q10, .inl (cI, 160, .inl (fun _ => nI 0)))] H := hP
  have hD : va_D A [(h0, .inr (6, [.ref q0, .ref q1, .ref q2, .int 0, .ref q3, .ref q4, .ref q5, .int 0, .int 0, .int 0, .int 0, .int 0, .ref q6, .int 0, .int 0, .ref q7, .int 0, .int 0, .int 0, .int 0, .int 0, .int 0, .ref q8, .ref q9, .null])), (q0, .inl (cI, 212, .inl (fun _ => nI 0))), (q1, .inl (cI, 212, .inl (fun _ => nI 0))), (q2, .inl (cI, 212, .inl (fun _ => nI 0))), (q3, .inl (cI, 7, .inl (fun _ => nI 0))), (q4, .inl (cI, 672, .inl (fun _ => nI 0))), (q5, .inl (cI, 24, .inl (fun _ => nI 0))), (q6, .inl (cI, 24, .inl (fun _ => nI 0))), (q7, .inl (cI, 120, .inl (fun _ => nI 0))), (q8, .inl (cI, 4, .inl (fun _ => nI 0))), (q9, .inl (cI, 4, .inl (fun _ => nI 0))), (q10, .inl (cI, 160, .inl (fun _ => nI 0)))] := hD
  refine cw_putR rfl Y 6 24 0 (.array .int) dX6_init_92 fl_X6_40 rfl (fun r h => by cases h; exact ⟨rfl, by decide +kernel, rfl⟩) rfl rfl (Nat.le_of_ble_eq_true rfl) (fun H locs hP hD hS => ?_) _ _ hP hD hS
  have hP : va_P D vwCl [(h0, .inr (6, [.ref q0, .ref q1, .ref q2, .int 0, .ref q3, .ref q4, .ref q5, .int 0, .int 0, .int 0, .int 0, .int 0, .ref q6, .int 0, .int 0, .ref q7, .int 0, .int 0, .int 0, .int 0, .int 0, .int 0, .ref q8, .ref q9, .ref q10])), (q0, .inl (cI, 212, .inl (fun _ => nI 0))), (q1, .inl (cI, 212, .inl (fun _ => nI 0))), (q2, .inl (cI, 212, .inl (fun _ => nI 0))), (q3, .inl (cI, 7, .inl (fun _ => nI 0))), (q4, .inl (cI, 672, .inl (fun _ => nI 0))), (q5, .inl (cI, 24, .inl (fun _ => nI 0))), (q6, .inl (cI, 24, .inl (fun _ => nI 0))), (q7, .inl (cI, 120, .inl (fun _ => nI 0))), (q8, .inl (cI, 4, .inl (fun _ => nI 0))), (q9, .inl (cI, 4, .inl (fun _ => nI 0))), (q10, .inl (cI, 160, .inl (fun _ => nI 0)))] H := hP
  have hD : va_D A [(h0, .inr (6, [.ref q0, .ref q1, .ref q2, .int 0, .ref q3, .ref q4, .ref q5, .int 0, .int 0, .int 0, .int 0, .int 0, .ref q6, .int 0, .int 0, .ref q7, .int 0, .int 0, .int 0, .int 0, .int 0, .int 0, .ref q8, .ref q9, .ref q10])), (q0, .inl (cI, 212, .inl (fun _ => nI 0))), (q1, .inl (cI, 212, .inl (fun _ => nI 0))), (q2, .inl (cI, 212, .inl (fun _ => nI 0))), (q3, .inl (cI, 7, .inl (fun _ => nI 0))), (q4, .inl (cI, 672, .inl (fun _ => nI 0))), (q5, .inl (cI, 24, .inl (fun _ => nI 0))), (q6, .inl (cI, 24, .inl (fun _ => nI 0))), (q7, .inl (cI, 120, .inl (fun _ => nI 0))), (q8, .inl (cI, 4, .inl (fun _ => nI 0))), (q9, .inl (cI, 4, .inl (fun _ => nI 0))), (q10, .inl (cI, 160, .inl (fun _ => nI 0)))] := hD
  refine lv_aload_n hx hb dX6_init_95 rfl (lv_at hl 0 rfl) ?_
  refine cw_get Y 6 0 0 dX6_init_96 fl_X6_9 rfl rfl (fun H locs hP hD hS => ?_) _ _ hP hD hS
  refine lv_iconst (v := nI 4) hx hb dX6_init_99 (by decide) ?_
  refine lv_iconst (v := (nI 1)) hx hb dX6_init_100 (by decide) ?_
  refine cw_iast Y 1 0 rfl rfl (vp_in_nI (by decide) (by decide)) dX6_init_101 (fun H locs hP hD hS => ?_) _ _ hP hD hS
  have hP : va_P D vwCl [(h0, .inr (6, [.ref q0, .ref q1, .ref q2, .int 0, .ref q3, .ref q4, .ref q5, .int 0, .int 0, .int 0, .int 0, .int 0, .ref q6, .int 0, .int 0, .ref q7, .int 0, .int 0, .int 0, .int 0, .int 0, .int 0, .ref q8, .ref q9, .ref q10])), (q0, .inl (cI, 212, .inl (upd ((fun _ => nI 0)) (nI 4).toNatClampNeg (nI 1)))), (q1, .inl (cI, 212, .inl (fun _ => nI 0))), (q2, .inl (cI, 212, .inl (fun _ => nI 0))), (q3, .inl (cI, 7, .inl (fun _ => nI 0))), (q4, .inl (cI, 672, .inl (fun _ => nI 0))), (q5, .inl (cI, 24, .inl (fun _ => nI 0))), (q6, .inl (cI, 24, .inl (fun _ => nI 0))), (q7, .inl (cI, 120, .inl (fun _ => nI 0))), (q8, .inl (cI, 4, .inl (fun _ => nI 0))), (q9, .inl (cI, 4, .inl (fun _ => nI 0))), (q10, .inl (cI, 160, .inl (fun _ => nI 0)))] H := hP
  have hD : va_D A [(h0, .inr (6, [.ref q0, .ref q1, .ref q2, .int 0, .ref q3, .ref q4, .ref q5, .int 0, .int 0, .int 0, .int 0, .int 0, .ref q6, .int 0, .int 0, .ref q7, .int 0, .int 0, .int 0, .int 0, .int 0, .int 0, .ref q8, .ref q9, .ref q10])), (q0, .inl (cI, 212, .inl (upd ((fun _ => nI 0)) (nI 4).toNatClampNeg (nI 1)))), (q1, .inl (cI, 212, .inl (fun _ => nI 0))), (q2, .inl (cI, 212, .inl (fun _ => nI 0))), (q3, .inl (cI, 7, .inl (fun _ => nI 0))), (q4, .inl (cI, 672, .inl (fun _ => nI 0))), (q5, .inl (cI, 24, .inl (fun _ => nI 0))), (q6, .inl (cI, 24, .inl (fun _ => nI 0))), (q7, .inl (cI, 120, .inl (fun _ => nI 0))), (q8, .inl (cI, 4, .inl (fun _ => nI 0))), (q9, .inl (cI, 4, .inl (fun _ => nI 0))), (q10, .inl (cI, 160, .inl (fun _ => nI 0)))] := hD
  refine lv_aload_n hx hb dX6_init_102 rfl (lv_at hl 0 rfl) ?_
  refine cw_get Y 6 0 0 dX6_init_103 fl_X6_9 rfl rfl (fun H locs hP hD hS => ?_) _ _ hP hD hS
  refine lv_iconst (v := nI 5) hx hb dX6_init_106 (by decide) ?_
  refine lv_iconst (v := (-1)) hx hb dX6_init_107 (by decide) ?_
  refine cw_iast Y 1 0 rfl rfl (vp_in_nI (by decide) (by decide)) dX6_init_108 (fun H locs hP hD hS => ?_) _ _ hP hD hS
  have hP : va_P D vwCl [(h0, .inr (6, [.ref q0, .ref q1, .ref q2, .int 0, .ref q3, .ref q4, .ref q5, .int 0, .int 0, .int 0, .int 0, .int 0, .ref q6, .int 0, .int 0, .ref q7, .int 0, .int 0, .int 0, .int 0, .int 0, .int 0, .ref q8, .ref q9, .ref q10])), (q0, .inl (cI, 212, .inl (upd (upd ((fun _ => nI 0)) (nI 4).toNatClampNeg (nI 1)) (nI 5).toNatClampNeg (-1)))), (q1, .inl (cI, 212, .inl (fun _ => nI 0))), (q2, .inl (cI, 212, .inl (fun _ => nI 0))), (q3, .inl (cI, 7, .inl (fun _ => nI 0))), (q4, .inl (cI, 672, .inl (fun _ => nI 0))), (q5, .inl (cI, 24, .inl (fun _ => nI 0))), (q6, .inl (cI, 24, .inl (fun _ => nI 0))), (q7, .inl (cI, 120, .inl (fun _ => nI 0))), (q8, .inl (cI, 4, .inl (fun _ => nI 0))), (q9, .inl (cI, 4, .inl (fun _ => nI 0))), (q10, .inl (cI, 160, .inl (fun _ => nI 0)))] H := hP
  have hD : va_D A [(h0, .inr (6, [.ref q0, .ref q1, .ref q2, .int 0, .ref q3, .ref q4, .ref q5, .int 0, .int 0, .int 0, .int 0, .int 0, .ref q6, .int 0, .int 0, .ref q7, .int 0, .int 0, .int 0, .int 0, .int 0, .int 0, .ref q8, .ref q9, .ref q10])), (q0, .inl (cI, 212, .inl (upd (upd ((fun _ => nI 0)) (nI 4).toNatClampNeg (nI 1)) (nI 5).toNatClampNeg (-1)))), (q1, .inl (cI, 212, .inl (fun _ => nI 0))), (q2, .inl (cI, 212, .inl (fun _ => nI 0))), (q3, .inl (cI, 7, .inl (fun _ => nI 0))), (q4, .inl (cI, 672, .inl (fun _ => nI 0))), (q5, .inl (cI, 24, .inl (fun _ => nI 0))), (q6, .inl (cI, 24, .inl (fun _ => nI 0))), (q7, .inl (cI, 120, .inl (fun _ => nI 0))), (q8, .inl (cI, 4, .inl (fun _ => nI 0))), (q9, .inl (cI, 4, .inl (fun _ => nI 0))), (q10, .inl (cI, 160, .inl (fun _ => nI 0)))] := hD
  rw [f6_0] at hP hD
  refine lv_iconst (v := (nI 0)) hx hb dX6_init_109 (by decide) ?_
  refine lv_istore_n hx hb dX6_init_110 rfl hl (by decide) rfl (fun ls hl => ?_)
  have hl : lv_has ls 2 [(1, .int (nI 0)), (0, .ref h0)] := hl
  refine m_loop Y (h0 := h0) (q := q0) (rest := [(q1, .inl (cI, 212, .inl (fun _ => nI 0))), (q2, .inl (cI, 212, .inl (fun _ => nI 0))), (q3, .inl (cI, 7, .inl (fun _ => nI 0))), (q4, .inl (cI, 672, .inl (fun _ => nI 0))), (q5, .inl (cI, 24, .inl (fun _ => nI 0))), (q6, .inl (cI, 24, .inl (fun _ => nI 0))), (q7, .inl (cI, 120, .inl (fun _ => nI 0))), (q8, .inl (cI, 4, .inl (fun _ => nI 0))), (q9, .inl (cI, 4, .inl (fun _ => nI 0))), (q10, .inl (cI, 160, .inl (fun _ => nI 0)))]) rfl (fun ls H locs hP hD hS => ?_) 10 0 ls rfl hl _ _ hP hD hS
  exact W.vret hx hb hr (fun t ht hW => ⟨⟨fun k => ([q0, q1, q2, q3, q4, q5, q6, q7, q8, q9, q10] : List Nat).getD k 0, rfl, trivial, by rw [ht]; exact hP, hD⟩, hS.F ht⟩) hS.2.2 dX6_init_134
