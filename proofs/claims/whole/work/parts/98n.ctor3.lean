/-! constructors: new and the call of a constructor, over a list of cells -/
theorem D_join {wr w1 : va_W} {A0 A1 : Nat → Prop} (h1 : va_D A0 wr) (hx : ∀ (k : Nat) (x : Nat × va_E), wr[k]? = some x → ¬ A1 x.1) (h2 : va_D A1 w1) (hF : ∀ q, A1 q → A0 q) : va_D A0 (wr ++ w1) := by
  refine ⟨fun i j a b hi hj e => ?_, fun k b hk => ?_⟩
  · rw [List.getElem?_append] at hi hj
    by_cases li : i < wr.length
    · rw [if_pos li] at hi
      by_cases lj : j < wr.length
      · rw [if_pos lj] at hj
        exact h1.1 i j a b hi hj e
      · rw [if_neg lj] at hj
        have h3 := h2.2 _ _ hj
        rw [← e] at h3
        exact absurd h3 (hx _ _ hi)
    · rw [if_neg li] at hi
      by_cases lj : j < wr.length
      · rw [if_pos lj] at hj
        have h3 := h2.2 _ _ hi
        rw [e] at h3
        exact absurd h3 (hx _ _ hj)
      · rw [if_neg lj] at hj
        have h3 := h2.1 _ _ a b hi hj e
        omega
  · rw [List.getElem?_append] at hk
    by_cases lk : k < wr.length
    · rw [if_pos lk] at hk; exact h1.2 _ _ hk
    · rw [if_neg lk] at hk; exact hF _ (h2.2 _ _ hk)
section Ctor2
variable {p : Program} {l : Launch} {e : Env} {R : Room} {s : State} {m : MethodId} {args : Array Value} {below : List Frame} {meth : Method} {c : Code} {Q : State → Prop} {D : va_G} {A : Nat → Prop} {tys : List (ClassId × FieldType)} {M : MT} {pc cells slots : Nat} {ls : Array Slot} {st : List Value} {ws : va_W}
theorem cw_new (Y : CY M p s m args meth c D A tys) {idx ci N : Nat} {C : String} {T : u_T} {fs : List Value} (hd : decode M.2.1 pc = .ok (.new idx, 3)) (hcl : Cond.classLink M.1.cls idx C ∈ tblG) (hinst : Cond.instantiable C N ∈ tblG) (hini : Cond.initialized C ∈ tblG) (hin : ∀ w ∈ u_ws C T N, w ∈ tblG) (ty : Nat → FieldType) (hty : ∀ k, k < N → parseFieldDescriptor (T k).2.2.1 = some (ty k)) (hc : vwCl[ci]? = some (C, T, N)) (hfs : ∀ j, j < N → defaultValue (ty j) = vp_V fs j) (hcells : cells + 1 ≤ R.cells) (hslots : slots + N ≤ R.slots) (k : ∀ q, CW p l e R s m args below meth c Q D A (pc + 3) ls (.ref q :: st) (cells + 1) (slots + N) (ws ++ [(q, .inr (ci, fs))])) : CW p l e R s m args below meth c Q D A pc ls st cells slots ws := by
  intro H locs hP hD hS
  obtain ⟨hx, hcb, hown, hts, hK, hA, hin2, hNX⟩ := Y
  exact va_new (T := T) (N := N) hx hcb hts hin ty hty hown (hts _ hcl) (hts _ hinst) (hts _ hini) hK hP hD hS hA hc hfs hcells hslots hd (fun q H1 hP1 hD1 hS1 => k q H1 locs hP1 hD1 hS1)
set_option maxHeartbeats 4000000 in
theorem cw_call {cI cS : ClassId} {nL : Nat} (Y : CY M p s m args meth c D A [(cI, .int), (cS, .object "TitleMimes$Sheet")]) (hml : c.maxLocals = nL) (hls : ls.size = nL) {d' mc ms idx ci' q : Nat} {M' : MT} {fs0 : List Value} {out : ClassId → ClassId → Nat → (Nat → Nat) → va_W} {wr : va_W} (hG : KG d' mc ms M' ci' fs0 out) (hd : decode M.2.1 pc = .ok (.invokespecial idx, 3)) (hB : CB M.1.cls idx M') (hnp : (parseMethodDescriptor M'.1.desc).map (fun d => d.parameters.length) = some 0) (hl : Cond.methodLink M.1.cls idx M'.1 ∈ tblG) (hi : Cond.instanceMethod M'.1 ∈ tblG) (hn : M'.1.name = "<init>") (hret : M'.2.2.2 = none) (hfr : d' + 1 ≤ R.frames) (hlo : 64 * (d' + 1) ≤ R.locals) (hst : (st.map fun v => v.category).sum ≤ 8) (hc : cells + mc ≤ R.cells) (hs : slots + ms ≤ R.slots) (k : ∀ ad, CW p l e R s m args below meth c Q D A (pc + 3) ls st (cells + mc) (slots + ms) (wr ++ out cI cS q ad)) : CW p l e R s m args below meth c Q D A pc ls (.ref q :: st) cells slots (wr ++ [(q, .inr (ci', fs0))]) := by
  intro H locs hP hD hS
  obtain ⟨hx, hcb, hown, hts, hK, hA, hin2, hNX⟩ := Y
  obtain ⟨b1, b2, b3, b4, b5⟩ := hB
  have hat : (wr ++ [(q, .inr (ci', fs0))] : va_W)[wr.length]? = some (q, .inr (ci', fs0)) := by simp
  have hPc : va_P D vwCl [(q, .inr (ci', fs0))] H := fun k x hx => by
    cases k with
    | zero => cases hx; exact hP _ _ hat
    | succ k => simp at hx
  have hDc : va_D (fun _ => True) [((q, .inr (ci', fs0)) : Nat × va_E)] := ⟨fun i j a b hi hj _ => by
    cases i with
    | zero => cases j with
      | zero => rfl
      | succ j => simp at hj
    | succ i => simp at hi, fun _ _ _ => trivial⟩
  have hFc : ∀ r, va_A [(q, .inr (ci', fs0))] H.size r → A r := va_free hD hS hA [wr.length] (by simp)
  have hCB : CallB R s args M.1.cls idx M'.1 M'.2.1 M'.2.2.1 none (wsM M') (rmc d' mc ms) mc ms 0 := by
    rw [← hret]
    refine ⟨rfl, rfl, by show d' + 1 ≤ R.frames; omega, by show 8 + (_ + 11) + 64 * d' ≤ _; omega, wsM_pay b2 hts, List.mem_cons_self, hts _ b2, hts _ b1, ⟨b3, b4⟩, fun sig h => ?_, hts _ hl⟩
    rw [h] at hnp
    exact (Option.some.inj hnp).symm
  refine va_callv (va_runI (As := []) (rest := st) ⟨hx, hcb, hml, hown, hts⟩ (hG l D cI cS q H.size) ⟨hCB, hn, hts _ hi⟩ ⟨fun a U g mk q => by obtain ⟨q0, q1, qP, qK, qD, qN⟩ := q; exact ⟨q0, q1, qP, va_K.moved (u := U) (U := U.calling g mk a) (Vm.Alike.refl U.vm) qK, qD, NX.same (u := U) (U := U.calling g mk a) rfl qN⟩, fun U hU hW => ⟨rfl, by rw [hU], by rw [hU]; exact hPc, va_K.moved hW.alike hK, hDc, NX.warm hW hNX⟩⟩ rfl rfl hls rfl (lv_room hst) hd ⟨hc, hs⟩) hS (fun q _ h => hFc q h) hFc (fun ad t H1 locs1 ht hvm hw hB2 hz1 hk1 hS1 => ?_)
  obtain ⟨hP1, hD1⟩ := hB2
  rw [ht] at hP1
  have hwr : ∀ (k : Nat) (x : Nat × va_E), wr[k]? = some x → (wr ++ [(q, .inr (ci', fs0))] : va_W)[k]? = some x := fun k x hx => by
    rw [List.getElem?_append_left (List.getElem?_eq_some_iff.mp hx).1]; exact hx
  have hno : ∀ (k : Nat) (x : Nat × va_E), wr[k]? = some x → ¬ va_A [(q, .inr (ci', fs0))] H.size x.1 := fun i0 x hx ha => by
    rcases ha with ⟨j, e1, hj⟩ | ha
    · cases j with
      | zero =>
        cases hj
        have h3 := hD.1 i0 wr.length x _ (hwr i0 x hx) hat rfl
        have h4 := (List.getElem?_eq_some_iff.mp hx).1
        omega
      | succ j => simp at hj
    · have h3 := (hP i0 x (hwr i0 x hx)).lt
      omega
  have hPr : va_P D vwCl wr H := fun k x hx => hP k x (hwr k x hx)
  have hDr : va_D A wr := ⟨fun i j a b hi hj e1 => hD.1 i j a b (hwr i a hi) (hwr j b hj) e1, fun k x hx => hD.2 k x (hwr k x hx)⟩
  exact k ad H1 locs1 ((hPr.kept (fun k x hx => hk1 x.1 (hPr k x hx).lt (hno k x hx))).app hP1) (D_join hDr hno hD1 hFc) hS1
set_option maxHeartbeats 4000000 in
theorem cw_callN {cI cS : ClassId} {nL : Nat} (Y : CY M p s m args meth c D A [(cI, .int), (cS, .object "TitleMimes$Sheet")]) (hml : c.maxLocals = nL) (hls : ls.size = nL) {d' mc ms idx ci' q : Nat} {M' : MT} {fs0 : List Value} {out : ClassId → ClassId → Nat → (Nat → Nat) → va_W} {wr : va_W} (hG : KG d' mc ms M' ci' fs0 out) (hd : decode M.2.1 pc = .ok (.invokespecial idx, 3)) (hB : CB M.1.cls idx M') (hnp : (parseMethodDescriptor M'.1.desc).map (fun d => d.parameters.length) = some 0) (hl : Cond.methodLinkNest M.1.cls idx M'.1 "TitleMimes" ∈ nestL) (hi : Cond.instanceMethod M'.1 ∈ tblG) (hn : M'.1.name = "<init>") (hret : M'.2.2.2 = none) (hfr : d' + 1 ≤ R.frames) (hlo : 64 * (d' + 1) ≤ R.locals) (hst : (st.map fun v => v.category).sum ≤ 8) (hc : cells + mc ≤ R.cells) (hs : slots + ms ≤ R.slots) (k : ∀ ad, CW p l e R s m args below meth c Q D A (pc + 3) ls st (cells + mc) (slots + ms) (wr ++ out cI cS q ad)) : CW p l e R s m args below meth c Q D A pc ls (.ref q :: st) cells slots (wr ++ [(q, .inr (ci', fs0))]) := by
  intro H locs hP hD hS
  obtain ⟨hx, hcb, hown, hts, hK, hA, hin2, hNX⟩ := Y
  obtain ⟨b1, b2, b3, b4, b5⟩ := hB
  have hat : (wr ++ [(q, .inr (ci', fs0))] : va_W)[wr.length]? = some (q, .inr (ci', fs0)) := by simp
  have hPc : va_P D vwCl [(q, .inr (ci', fs0))] H := fun k x hx => by
    cases k with
    | zero => cases hx; exact hP _ _ hat
    | succ k => simp at hx
  have hDc : va_D (fun _ => True) [((q, .inr (ci', fs0)) : Nat × va_E)] := ⟨fun i j a b hi hj _ => by
    cases i with
    | zero => cases j with
      | zero => rfl
      | succ j => simp at hj
    | succ i => simp at hi, fun _ _ _ => trivial⟩
  have hFc : ∀ r, va_A [(q, .inr (ci', fs0))] H.size r → A r := va_free hD hS hA [wr.length] (by simp)
  have hCB : va_CN R s args M.1.cls idx M'.1 "TitleMimes" M'.2.1 M'.2.2.1 none (wsM M') (rmc d' mc ms) mc ms 0 := by
    rw [← hret]
    refine ⟨⟨rfl, rfl, by show d' + 1 ≤ R.frames; omega, by show 8 + (_ + 11) + 64 * d' ≤ _; omega, wsM_pay b2 hts, List.mem_cons_self⟩, hts _ b2, hts _ b1, ⟨b3, b4⟩, fun sig h => ?_, va_Nw.use rfl (hNX.1 _ hl)⟩
    rw [h] at hnp
    exact (Option.some.inj hnp).symm
  refine va_callv (va_runIN (host := "TitleMimes") (bytes := M'.2.1) (maxL := M'.2.2.1) (n := 0) (As := []) (rest := st) ⟨hx, hcb, hml, hown, hts⟩ (hG l D cI cS q H.size) ⟨hCB, hn, hts _ hi⟩ ⟨fun a U g mk q => by obtain ⟨q0, q1, qP, qK, qD, qN⟩ := q; exact ⟨q0, q1, qP, va_K.moved (u := U) (U := U.calling g mk a) (Vm.Alike.refl U.vm) qK, qD, NX.same (u := U) (U := U.calling g mk a) rfl qN⟩, fun U hU hW => ⟨rfl, by rw [hU], by rw [hU]; exact hPc, va_K.moved hW.alike hK, hDc, NX.warm hW hNX⟩⟩ rfl rfl hls rfl (lv_room hst) hd ⟨hc, hs⟩) hS (fun q _ h => hFc q h) hFc (fun ad t H1 locs1 ht hvm hw hB2 hz1 hk1 hS1 => ?_)
  obtain ⟨hP1, hD1⟩ := hB2
  rw [ht] at hP1
  have hwr : ∀ (k : Nat) (x : Nat × va_E), wr[k]? = some x → (wr ++ [(q, .inr (ci', fs0))] : va_W)[k]? = some x := fun k x hx => by
    rw [List.getElem?_append_left (List.getElem?_eq_some_iff.mp hx).1]; exact hx
  have hno : ∀ (k : Nat) (x : Nat × va_E), wr[k]? = some x → ¬ va_A [(q, .inr (ci', fs0))] H.size x.1 := fun i0 x hx ha => by
    rcases ha with ⟨j, e1, hj⟩ | ha
    · cases j with
      | zero =>
        cases hj
        have h3 := hD.1 i0 wr.length x _ (hwr i0 x hx) hat rfl
        have h4 := (List.getElem?_eq_some_iff.mp hx).1
        omega
      | succ j => simp at hj
    · have h3 := (hP i0 x (hwr i0 x hx)).lt
      omega
  have hPr : va_P D vwCl wr H := fun k x hx => hP k x (hwr k x hx)
  have hDr : va_D A wr := ⟨fun i j a b hi hj e1 => hD.1 i j a b (hwr i a hi) (hwr j b hj) e1, fun k x hx => hD.2 k x (hwr k x hx)⟩
  exact k ad H1 locs1 ((hPr.kept (fun k x hx => hk1 x.1 (hPr k x hx).lt (hno k x hx))).app hP1) (D_join hDr hno hD1 hFc) hS1
theorem cw_get (Y : CY M p s m args meth c D A tys) {idx : Nat} (ci j q0 : Nat) {a : Nat} {fs : List Value} {v : Value} (hd : decode M.2.1 pc = .ok (.getfield idx, 3)) (hF : FL M.1.cls idx ci j) (he : ws[q0]? = some (a, .inr (ci, fs))) (hv : fs[j]? = some v) (k : CW p l e R s m args below meth c Q D A (pc + 3) ls (v :: st) cells slots ws) : CW p l e R s m args below meth c Q D A pc ls (.ref a :: st) cells slots ws := by
  intro H locs hP hD hS
  obtain ⟨hx, hcb, hown, hts, hK, hA, hin2, hNX⟩ := Y
  obtain ⟨C, T, N, hc, hjN, hin, hlink, hty, hnm, -⟩ := hF
  exact va_get (D := D) (ci := ci) hx hcb hts hin hown hK hP q0 he hc j hjN (hts _ hlink) (fun _ h => h) hv hd (k H locs hP hD hS)
theorem cw_iast (Y : CY M p s m args meth c D A tys) (q0 t0 : Nat) {cA : ClassId} {n a : Nat} {f : Nat → Int32} {i x : Int32} (ha : ws[q0]? = some (a, .inl (cA, n, .inl f))) (ht : tys[t0]? = some (cA, .int)) (hin : vp_in i n) (hd : decode M.2.1 pc = .ok (.iastore, 1)) (k : CW p l e R s m args below meth c Q D A (pc + 1) ls st cells slots (ws.set q0 (a, .inl (cA, n, .inl (upd f i.toNatClampNeg x))))) : CW p l e R s m args below meth c Q D A pc ls (.int x :: .int i :: .ref a :: st) cells slots ws := by
  intro H locs hP hD hS
  obtain ⟨hx, hcb, hown, hts, hK, hA, hin2, hNX⟩ := Y
  exact va_iast hx hcb hK hP hD hS q0 t0 ha ht hin hd (fun H1 locs1 hP1 hD1 hS1 => k H1 locs1 hP1 hD1 hS1)
theorem cw_astq (Y : CY M p s m args meth c D A tys) (q0 t0 qk ci : Nat) {cA : ClassId} {r : vw_C} {n v a : Nat} {vs : List Value} {f : Nat → Option Nat} {i : Int32} (ha : ws[q0]? = some (a, .inl (cA, n, .inr (.inr (.inr (.inr f)))))) (ht : tys[t0]? = some (cA, .object r.1)) (hv : ws[qk]? = some (v, .inr (ci, vs))) (hc : vwCl[ci]? = some r) (hin : vp_in i n) (hd : decode M.2.1 pc = .ok (.aastore, 1)) (k : CW p l e R s m args below meth c Q D A (pc + 1) ls st cells slots (ws.set q0 (a, .inl (cA, n, .inr (.inr (.inr (.inr (va_up f i.toNatClampNeg (some v))))))))) : CW p l e R s m args below meth c Q D A pc ls (.ref v :: .int i :: .ref a :: st) cells slots ws := by
  intro H locs hP hD hS
  obtain ⟨hx, hcb, hown, hts, hK, hA, hin2, hNX⟩ := Y
  exact va_astq hx hcb hK hP hD hS q0 t0 qk ci ha ht hv hc hin hd (fun H1 locs1 hP1 hD1 hS1 => k H1 locs1 hP1 hD1 hS1)
set_option maxHeartbeats 4000000 in
theorem cw_newq (Y : CY M p s m args meth c D A tys) {idx t0 N : Nat} {cS : ClassId} (ht : tys[t0]? = some (cS, .object "TitleMimes$Sheet")) (hcl : Cond.classLink M.1.cls idx "TitleMimes$Sheet" ∈ tblG) (hN : N < 1000) (hd : decode M.2.1 pc = .ok (.anewarray idx, 3)) (hcells : cells + 1 ≤ R.cells) (hslots : slots + N ≤ R.slots) (k : ∀ q, CW p l e R s m args below meth c Q D A (pc + 3) ls (.ref q :: st) (cells + 1) (slots + N) (ws ++ [(q, .inl (cS, N, .inr (.inr (.inr (.inr (fun _ => none))))))])) : CW p l e R s m args below meth c Q D A pc ls (.int (nI N) :: st) cells slots ws := by
  intro H locs hP hD hS
  obtain ⟨hx, hcb, hown, hts, hK, hA, hin2, hNX⟩ := Y
  have h0 : ¬ nI N < 0 := Int32.not_lt.mpr (nI_pos' (by omega))
  have hc0 : (nI N).toNatClampNeg = N := nI_clamp (by omega)
  refine va_newq (C := "TitleMimes$Sheet") hx hcb hown (hts _ hcl) hNX.2 hK hP hD hS hA h0 hc0 (by omega) hcells hslots hd (fun q cA H1 hK1 hP1 hD1 hS1 => ?_)
  obtain ⟨kA1, comp1, -, -, -, h1⟩ := (hK.2 t0 _ ht).2
  obtain ⟨kA2, comp2, -, -, -, h2⟩ := (hK1.2 tys.length (cA, .object "TitleMimes$Sheet") (by rw [List.getElem?_append_right (Nat.le_refl _), Nat.sub_self]; rfl)).2
  have e1 : cA = cS := Option.some.inj (h2.symm.trans h1)
  rw [e1] at hP1 hD1
  exact k q H1 locs hP1 hD1 hS1
end Ctor2
