/-! steps: calls, ends, a method's contract out of its walk -/
section Steps3
variable {d : Nat} {M : MT} {X : CX} {pc : Nat} {ls : List (Option Value)} {st : List Value} {σ : Hp}
theorem Inv.of {E : Ev} {s U : State} {H : Heap} {locs : List Loc} (hP : va_P (DE E) vwCl (wsO E σ) H) (hD : va_D (AE E) (wsO E σ)) (hS : va_S (AE E) s.heap H locs) (hK : va_K (DE E) vwCl (tyE E) s) (hR : RO E s s.heap) (hU : U.heap = H) (hW : s.WarmedH U.vm) : Inv E σ U :=
  ⟨by rw [hU]; exact hP, va_K.moved hW.alike hK, hD, by rw [hU]; exact (hR.kept hS.2.1).warm hW⟩
theorem Inv.blind {E : Ev} {as : List Value} : FrameBlind (va_Pc as (Inv E σ)) := by
  intro a U g mk q
  obtain ⟨q0, qP, qK, qD, qR⟩ := q
  exact ⟨q0, qP, va_K.moved (u := U) (U := U.calling g mk a) (Vm.Alike.refl U.vm) qK, qD, RO.same (u := U) (U := U.calling g mk a) rfl qR⟩
/-- the words of a call -/
def CB (own : String) (idx : Nat) (M' : MT) : Prop := Cond.initialized M'.1.cls ∈ tblG ∧ Cond.code M'.1 M'.2.1 M'.2.2.1 M'.2.2.2 ∈ tblG ∧ M'.1.cls ≠ "java/lang/invoke/MethodHandle" ∧ M'.1.cls ≠ "java/lang/invoke/VarHandle" ∧ M'.2.2.1 ≤ 45
def CV (own : String) (idx n : Nat) (M' : MT) : Prop := CB own idx M' ∧ (parseMethodDescriptor M'.1.desc).map (fun d => d.parameters.length) = some n ∧ Cond.methodLink own idx M'.1 ∈ tblG ∧ Cond.instanceMethod M'.1 ∈ tblG ∧ Cond.selects M'.1.cls M'.1 M'.1 ∈ tblG
def CS (own : String) (idx n : Nat) (M' : MT) : Prop := CB own idx M' ∧ (parseMethodDescriptor M'.1.desc).map (fun d => d.parameters.length) = some n ∧ Cond.methodLink own idx M'.1 ∈ tblG ∧ Cond.static M'.1 ∈ tblG
def CSN (own : String) (idx n : Nat) (M' : MT) : Prop := CB own idx M' ∧ (parseMethodDescriptor M'.1.desc).map (fun d => d.parameters.length) = some n ∧ Cond.methodLinkNest own idx M'.1 "TitleMimes" ∈ nestL ∧ Cond.static M'.1 ∈ tblG
/-- the class of an object's place -/
def clAt (b : Nat) (C : String) : Prop := ∃ ci r, oC b = some ci ∧ vwCl[ci]? = some r ∧ r.1 = C
theorem tblG_good {w : Cond} (h : w ∈ tblG) : (w.onTables && w.keeps) = true ∨ ∃ ty, w = .arrayClass ty := good_of_word (List.mem_filter.mp h).2
theorem wsM_pay {M' : MT} (hc : Cond.code M'.1 M'.2.1 M'.2.2.1 M'.2.2.2 ∈ tblG) {s : State} {args : Array Value} (hts : ∀ w ∈ tblG, w.before args s = true) : ∀ w ∈ wsM M', ∀ (a' : Array Value) (U : State), s.WarmedH U.vm → w.before a' U = true := by
  intro w hw a' U hW
  have hm : w ∈ tblG := by
    rcases List.mem_cons.mp hw with rfl | h
    · exact hc
    · exact h
  exact word_at hW (tblG_good hm) (hts w hm)
theorem callB {d' : Nat} {M' : MT} {own : String} {idx n : Nat} {R : Room} {s : State} {args : Array Value} (hB : CB own idx M') (hn : (parseMethodDescriptor M'.1.desc).map (fun d => d.parameters.length) = some n) (hl : Cond.methodLink own idx M'.1 ∈ tblG) (hts : ∀ w ∈ tblG, w.before args s = true) (hdd : d' < d) (h1 : d ≤ R.frames) (h2 : 64 * d ≤ R.locals) : CallB R s args own idx M'.1 M'.2.1 M'.2.2.1 M'.2.2.2 (wsM M') (rmd d') 0 0 n := by
  obtain ⟨b1, b2, b3, b4, b5⟩ := hB
  refine ⟨rfl, rfl, by show d' + 1 ≤ R.frames; omega, by show 8 + (_ + 11) + 64 * d' ≤ _; omega, wsM_pay b2 hts, List.mem_cons_self, hts _ b2, hts _ b1, ⟨b3, b4⟩, fun sig h => ?_, hts _ hl⟩
  rw [h] at hn
  exact (Option.some.inj hn).symm
/-- behind a call -/
theorem SW.after {p : Program} {l : Launch} {e : Env} {R : Room} {s : State} {m : MethodId} {args : Array Value} {below : List Frame} {meth : Method} {c : Code} {cells slots : Nat} {Q : State → Prop} {E : Ev} {Qx : Option Value → Hp → Prop} {H : Heap} {locs : List Loc} {L : Array Slot} {stk : List Value}
    (hr : va_Run p l e R s m args below meth c H locs cells slots 0 0 (F0 m pc L stk) (st.map (rv E.1)) (fun st o t => (∃ (v : Option Value) (σ' : Hp), o = .returned (v.map (rv E.1)) ∧ Qx v σ' ∧ Inv E σ' t) ∧ va_F (AE E) st t) (AE E)) (ok : OK d M (p, l, e, R, s, m, args, below, meth, c, cells, slots, Q, E)) (hc0 : c1 ls) (hS : va_S (AE E) s.heap H locs) (hL : lv_has L M.2.2.1 (kn E.1 0 ls))
    (k : ∀ v σ', Qx v σ' → SW d M (p, l, e, R, s, m, args, below, meth, c, cells, slots, Q, E) (pc + 3) ls (v.toList ++ st) σ') : W p l e R s m args below meth c H locs cells slots Q (F0 m pc L stk) := by
  intro T hT Y
  obtain ⟨v, st₀, t, T', L2, h0, Y', hL2, e1, e2, ⟨⟨w, σ', hv, hq, hI⟩, hz, hk⟩, go⟩ := hr T hT Y
  cases hv
  rw [h0] at hz hk
  have hS1 : va_S (AE E) s.heap T'.heap (locs ++ L2) := ⟨Nat.le_trans hS.1 (by rw [e1]; exact hz), fun q h1 h2 => by rw [e1, hk q (Nat.lt_of_lt_of_le h1 hS.1) h2]; exact hS.2.1 q h1 h2, fun q hq => by
      rcases List.mem_append.mp hq with h | h
      · exact hS.2.2 q h
      · exact hL2 q h⟩
  have hst : (Option.map (rv E.1) w).toList ++ st.map (rv E.1) = (w.toList ++ st).map (rv E.1) := by cases w <;> simp
  obtain ⟨t2, a1, b1⟩ := k w σ' hq ok hc0 T'.heap (locs ++ L2) L (by rw [e1]; exact hI.1) hI.2.2.1 hS1 hL T' rfl Y'
  refine ⟨t2, go t2 ?_, b1⟩
  show Steps p.tables e below (T'.setTop { F0 m pc L stk with pc := pc + 3, stack := (Option.map (rv E.1) w).toList ++ st.map (rv E.1) }) t2
  rw [hst]
  exact a1
theorem cat_map (ad : Nat → Nat) (st : List Value) : ((st.map (rv ad)).map fun v => v.category) = st.map fun v => v.category := by
  rw [List.map_map]
  exact List.map_congr_left (fun v _ => rv_cat ad v)
theorem w_callV {d' idx n b : Nat} {M' : MT} {as : List Value} {Qx : Option Value → Hp → Prop} (hd : decode M.2.1 pc = .ok (.invokevirtual idx, 3)) (hC : CV M.1.cls idx n M') (hn : as.length = n) (hb : clAt b M'.1.cls) (hdd : d' < d) (hst : (st.map fun v => v.category).sum ≤ 8) (hG : Good d' M' (.ref b :: as) σ Qx) (k : ∀ v σ', Qx v σ' → SW d M X (pc + 3) ls (v.toList ++ st) σ') : SW d M X pc ls (as.reverse ++ .ref b :: st) σ := by
  obtain ⟨p, l, e, R, s, m, args, below, meth, c, cells, slots, Q, E⟩ := X
  intro ok hc0 H locs L hP hD hS hL
  have ok0 := ok
  obtain ⟨hx, hcb, hr, hml, hown, hts, hlk, hK, hRO, hd1, hd2, hc1, hc2⟩ := ok
  obtain ⟨hB, hpn, hl, hin, hse⟩ := hC
  obtain ⟨ci, r, ho, hcl, hrC⟩ := hb
  obtain ⟨hb61, fs, hlay⟩ := oC_spec ho
  have hcell : ∃ cellB : Cell, H[E.1 b]? = some cellB ∧ cellB.vm.isStatics = false ∧ s.vm.findClass M'.1.cls = some cellB.cls := by
    have hw : (wsO E σ)[b]? = some (E.1 b, .inr (ci, fsO E.1 σ b fs)) := by rw [wsO_at hb61]; simp only [cellO, hlay]
    obtain ⟨r', h1, cell, q1, q2, q3, q4⟩ := hP b _ hw
    have hrr : r' = r := Option.some.inj (h1.symm.trans hcl)
    subst hrr
    obtain ⟨-, hfc, -⟩ := hK.1 ci _ hcl
    exact ⟨cell, q1, by rw [q3]; rfl, by rw [← hrC, q2]; exact hfc⟩
  have hrun := va_runV (l := l) (R := R) (below := below) (meth := meth) (locs := locs) (cells := cells) (slots := slots) (g := F0 m pc L ((as.reverse ++ .ref b :: st).map (rv E.1))) (As := as.map (rv E.1)) (b := E.1 b) (rest := st.map (rv E.1)) (e := e) (C := M'.1.cls) (H := H) (Ts := tblG) ⟨hx, hcb, hml, hown, hts⟩ (hG l E) ⟨callB hB hpn hl hts hdd hd1 hd2, hts _ hin, hts _ hse⟩ ⟨Inv.blind, hcell, fun U hU hW => ⟨by simp [rv], Inv.of hP hD hS hK hRO hU hW⟩⟩ rfl (by simp [hn]) hL.1 (by simp [rv]) (lv_room (by rw [cat_map]; exact hst)) hd ⟨hc1, hc2⟩
  exact SW.after hrun ok0 hc0 hS hL k
theorem w_callS {d' idx n : Nat} {M' : MT} {as : List Value} {Qx : Option Value → Hp → Prop} (hd : decode M.2.1 pc = .ok (.invokestatic idx, 3)) (hC : CS M.1.cls idx n M') (hn : as.length = n) (hdd : d' < d) (hst : (st.map fun v => v.category).sum ≤ 8) (hG : Good d' M' as σ Qx) (k : ∀ v σ', Qx v σ' → SW d M X (pc + 3) ls (v.toList ++ st) σ') : SW d M X pc ls (as.reverse ++ st) σ := by
  obtain ⟨p, l, e, R, s, m, args, below, meth, c, cells, slots, Q, E⟩ := X
  intro ok hc0 H locs L hP hD hS hL
  have ok0 := ok
  obtain ⟨hx, hcb, hr, hml, hown, hts, hlk, hK, hRO, hd1, hd2, hc1, hc2⟩ := ok
  obtain ⟨hB, hpn, hl, hstt⟩ := hC
  have hrun := va_runS (l := l) (R := R) (below := below) (meth := meth) (locs := locs) (cells := cells) (slots := slots) (g := F0 m pc L ((as.reverse ++ st).map (rv E.1))) (As := as.map (rv E.1)) (rest := st.map (rv E.1)) (e := e) (H := H) (Ts := tblG) ⟨hx, hcb, hml, hown, hts⟩ (hG l E) ⟨callB hB hpn hl hts hdd hd1 hd2, hts _ hstt⟩ ⟨Inv.blind, fun U hU hW => ⟨rfl, Inv.of hP hD hS hK hRO hU hW⟩⟩ rfl (by simp [hn]) hL.1 (by simp) (lv_room (by rw [cat_map]; exact hst)) hd ⟨hc1, hc2⟩
  exact SW.after hrun ok0 hc0 hS hL k
theorem w_callSN {d' idx n : Nat} {M' : MT} {as : List Value} {Qx : Option Value → Hp → Prop} (hd : decode M.2.1 pc = .ok (.invokestatic idx, 3)) (hC : CSN M.1.cls idx n M') (hn : as.length = n) (hdd : d' < d) (hst : (st.map fun v => v.category).sum ≤ 8) (hG : Good d' M' as σ Qx) (k : ∀ v σ', Qx v σ' → SW d M X (pc + 3) ls (v.toList ++ st) σ') : SW d M X pc ls (as.reverse ++ st) σ := by
  obtain ⟨p, l, e, R, s, m, args, below, meth, c, cells, slots, Q, E⟩ := X
  intro ok hc0 H locs L hP hD hS hL
  have ok0 := ok
  obtain ⟨hx, hcb, hr, hml, hown, hts, hlk, hK, hRO, hd1, hd2, hc1, hc2⟩ := ok
  obtain ⟨⟨b1, b2, b3, b4, b5⟩, hpn, hl, hstt⟩ := hC
  have hrun := va_runSN (l := l) (R := R) (below := below) (meth := meth) (locs := locs) (cells := cells) (slots := slots) (g := F0 m pc L ((as.reverse ++ st).map (rv E.1))) (As := as.map (rv E.1)) (rest := st.map (rv E.1)) (e := e) (H := H) (Ts := tblG) (host := "TitleMimes") (n := n) ⟨hx, hcb, hml, hown, hts⟩ (hG l E) ⟨⟨⟨rfl, rfl, by show d' + 1 ≤ R.frames; omega, by show 8 + (_ + 11) + 64 * d' ≤ _; omega, wsM_pay b2 hts, List.mem_cons_self⟩, hts _ b2, hts _ b1, ⟨b3, b4⟩, fun sig h => by rw [h] at hpn; exact (Option.some.inj hpn).symm, va_Nw.use rfl (hRO.1 _ hl)⟩, hts _ hstt, trivial⟩ ⟨Inv.blind, fun U hU hW => ⟨rfl, Inv.of hP hD hS hK hRO hU hW⟩⟩ rfl (by simp [hn]) hL.1 (by simp) (lv_room (by rw [cat_map]; exact hst)) hd ⟨hc1, hc2⟩
  exact SW.after hrun ok0 hc0 hS hL k
theorem w_iret {x : Int32} (hd : decode M.2.1 pc = .ok (.ireturn, 1)) (ty : FieldType) (hr : M.2.2.2 = some ty) (hn : narrow ty (.int x) = .int x) (hR : RetOK X (some (.int x)) σ) : SW d M X pc ls [.int x] σ := by
  obtain ⟨p, l, e, R, s, m, args, below, meth, c, cells, slots, Q, E⟩ := X
  intro ok hc0 H locs L hP hD hS hL
  obtain ⟨hx, hcb, hr', hml, hown, hts, hlk, hK, hRO, hd1, hd2, hc1, hc2⟩ := ok
  obtain ⟨Qc, rfl, hq⟩ := hR
  exact W.zret (v := x) (ty := ty) hx hcb (hr'.trans hr) hn (fun t ht hW => hq t hW (Inv.of hP hD hS hK hRO ht hW) (hS.F ht)) hS.2.2 hd hlk
theorem w_vret (hd : decode M.2.1 pc = .ok (.return_, 1)) (hr : M.2.2.2 = none) (hR : RetOK X none σ) : SW d M X pc ls [] σ := by
  obtain ⟨p, l, e, R, s, m, args, below, meth, c, cells, slots, Q, E⟩ := X
  intro ok hc0 H locs L hP hD hS hL
  obtain ⟨hx, hcb, hr', hml, hown, hts, hlk, hK, hRO, hd1, hd2, hc1, hc2⟩ := ok
  obtain ⟨Qc, rfl, hq⟩ := hR
  exact W.vret hx hcb (hr'.trans hr) (fun t ht hW => hq t hW (Inv.of hP hD hS hK hRO ht hW) (hS.F ht)) hS.2.2 hd hlk
theorem w_aret {b : Nat} (hd : decode M.2.1 pc = .ok (.areturn, 1)) (hr : M.2.2.2 = some (.array .int)) (hR : RetOK X (some (.ref b)) σ) : SW d M X pc ls [.ref b] σ := by
  obtain ⟨p, l, e, R, s, m, args, below, meth, c, cells, slots, Q, E⟩ := X
  intro ok hc0 H locs L hP hD hS hL
  obtain ⟨hx, hcb, hr', hml, hown, hts, hlk, hK, hRO, hd1, hd2, hc1, hc2⟩ := ok
  obtain ⟨Qc, rfl, hq⟩ := hR
  exact W.aret (v := .ref (E.1 b)) hx hcb (hr'.trans hr) (Or.inr ⟨_, rfl⟩) (Or.inr ⟨_, rfl⟩) (fun t ht hW => hq t hW (Inv.of hP hD hS hK hRO ht hW) (hS.F ht)) hS.2.2 hd hlk
theorem lg_sl_cat (vs : List Value) (h : ∀ v ∈ vs, v.category = 1) : (lg_sl vs).length = vs.length ∧ ∀ i, lv_args i vs = (vs.zipIdx i).map (fun q => (q.2, q.1)) := by
  induction vs with
  | nil => exact ⟨rfl, fun _ => rfl⟩
  | cons v t ih =>
    have h1 : v.category = 1 := h v List.mem_cons_self
    obtain ⟨a, b⟩ := ih (fun w hw => h w (List.mem_cons_of_mem _ hw))
    refine ⟨?_, fun i => ?_⟩
    · show ((if v.category = 2 then [Slot.val v, .second] else [.val v]) ++ lg_sl t).length = _
      rw [if_neg (by omega)]
      simp [a]
    · simp [lv_args, h1, b]
theorem c1_ent {args : List Value} {n : Nat} (h : ∀ v ∈ args, v.category = 1) : c1 (entL args n) := by
  intro w hw
  unfold entL at hw
  rcases List.mem_append.mp hw with h1 | h1
  · obtain ⟨z, hz, e⟩ := List.mem_map.mp h1
    cases e; exact h w hz
  · simp at h1
/-- a method's contract out of the walk of its body -/
theorem Good.intro {args : List Value} {Qx : Option Value → Hp → Prop} (hy : plainName M.1.cls = true) (hc : ∀ v ∈ args, v.category = 1) (hn : args.length ≤ M.2.2.1) (h : ∀ X, (∀ v σ', Qx v σ' → RetOK X v σ') → SW d M X 0 (entL args M.2.2.1) [] σ) : Good d M args σ Qx := by
  intro l E
  refine Met.ofW (cc := M.2.1) (maxL := M.2.2.1) (ret := M.2.2.2) hy rfl ?_
  intro p e s m args' below meth c s₁ B hml hv
  obtain ⟨rfl, hI⟩ := hv
  obtain ⟨hP, hK, hD, hR⟩ := hI
  have hcr : ∀ v ∈ args.map (rv E.1), v.category = 1 := fun v hv => by
    obtain ⟨w, hw, rfl⟩ := List.mem_map.mp hv
    rw [rv_cat]; exact hc w hw
  obtain ⟨e1, e2⟩ := lg_sl_cat _ hcr
  have hl := lv_entry (args.map (rv E.1)) (n := M.2.2.1) (by rw [e1]; simpa using hn)
  rw [lg_entry_eq]
  have hts := atoms_spec (ws := wsM M) B.pre
  refine h (p, l, e, rmd d, s, m, (args.map (rv E.1)).toArray, below, meth, c, 0, 0, MQ below _ _ s 0 0 (AE E), E) (fun v σ' hq => ⟨_, rfl, fun t hW hI hF => ⟨⟨v, σ', rfl, hq, hI⟩, hF⟩⟩) ⟨B.exec, B.bytes, B.returns, hml, findClass_of_methodNamed B.named, fun w hw => hts w (List.mem_cons_of_mem _ hw), B.notSynchronized, hK, hR, Nat.le_refl _, Nat.le_refl _, Nat.le_refl _, Nat.le_refl _⟩ (c1_ent hc) s.heap [] _ hP hD va_S.rf (hl.mono fun q hq => ?_)
  obtain ⟨j, w, h1, rfl⟩ := (kn_mem _ _ _).mp hq
  rw [e2]
  unfold entL at h1
  have hj : args[j]? = some w := by
    by_cases hjl : j < args.length
    · rw [List.getElem?_append_left (by simpa using hjl)] at h1
      rw [List.getElem?_map] at h1
      cases ha : args[j]? with
      | none => rw [ha] at h1; simp at h1
      | some z => rw [ha] at h1; simp at h1; rw [h1]
    · rw [List.getElem?_append_right (by simpa using hjl)] at h1
      have := List.mem_of_getElem? h1
      simp at this
  refine List.mem_map.mpr ⟨(rv E.1 w, j), ?_, by simp⟩
  rw [List.mem_zipIdx_iff_getElem?]
  simp [hj]
theorem Good.mono {args : List Value} {Q1 Q2 : Option Value → Hp → Prop} (h : Good d M args σ Q1) (hq : ∀ v σ', Q1 v σ' → Q2 v σ') : Good d M args σ Q2 := by
  intro l E
  refine MetFree.mono (h l E) (fun _ _ h => h) (fun _ _ _ _ _ h => h) (fun a s o t _ h => ?_)
  obtain ⟨⟨⟨v, σ', h1, h2, h3⟩, h4⟩, h5⟩ := h
  exact ⟨⟨⟨v, σ', h1, hq _ _ h2, h3⟩, h4⟩, h5⟩
end Steps3
