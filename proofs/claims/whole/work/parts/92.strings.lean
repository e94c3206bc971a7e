/-! constants that are strings: length, charAt -/
section StrSteps
variable {d : Nat} {M : MT} {X : CX} {pc : Nat} {ls : List (Option Value)} {st : List Value} {σ : Hp}
theorem w_callVS {d' idx n i : Nat} {M' : MT} {as : List Value} {Qx : Option Value → Hp → Prop} (hd : decode M.2.1 pc = .ok (.invokevirtual idx, 3)) (hC : CV M.1.cls idx n M') (hn : as.length = n) (hi : i < 10) (hcl : M'.1.cls = "java/lang/String") (hdd : d' < d) (hst : (st.map fun v => v.category).sum ≤ 8) (hG : Good d' M' (.ref (110 + i) :: as) σ Qx) (k : ∀ v σ', Qx v σ' → SW d M X (pc + 3) ls (v.toList ++ st) σ') : SW d M X pc ls (as.reverse ++ .ref (110 + i) :: st) σ := by
  obtain ⟨p, l, e, R, s, m, args, below, meth, c, cells, slots, Q, E⟩ := X
  intro ok hc0 H locs L hP hD hS hL
  have ok0 := ok
  obtain ⟨hx, hcb, hr, hml, hown, hts, hlk, hK, hRO, hd1, hd2, hc1, hc2⟩ := ok
  obtain ⟨hB, hpn, hl, hin, hse⟩ := hC
  have hcell : ∃ cellB : Cell, H[E.1 (110 + i)]? = some cellB ∧ cellB.vm.isStatics = false ∧ s.vm.findClass M'.1.cls = some cellB.cls := by
    obtain ⟨cell, h1, h2, h3, -⟩ := (hRO.2.2.2.2.1 i hi).1.kept hS.2.1
    exact ⟨cell, h1, h2, by rw [hcl]; exact h3⟩
  have hrun := va_runV (l := l) (R := R) (below := below) (meth := meth) (locs := locs) (cells := cells) (slots := slots) (g := F0 m pc L ((as.reverse ++ .ref (110 + i) :: st).map (rv E.1))) (As := as.map (rv E.1)) (b := E.1 (110 + i)) (rest := st.map (rv E.1)) (e := e) (C := M'.1.cls) (H := H) (Ts := tblG) ⟨hx, hcb, hml, hown, hts⟩ (hG l E) ⟨callB hB hpn hl hts hdd hd1 hd2, hts _ hin, hts _ hse⟩ ⟨Inv.blind, hcell, fun U hU hW => ⟨by simp [rv], Inv.of hP hD hS hK hRO hU hW⟩⟩ rfl (by simp [hn]) hL.1 (by simp [rv]) (lv_room (by rw [cat_map]; exact hst)) hd ⟨hc1, hc2⟩
  exact SW.after hrun ok0 hc0 hS hL k
theorem w_getV {idx i : Nat} (hd : decode M.2.1 pc = .ok (.getfield idx, 3)) (hlink : Cond.fieldLink M.1.cls idx "java/lang/String" "value" "[B" ∈ tblG) (hi : i < 10) (k : SW d M X (pc + 3) ls (.ref (130 + i) :: st) σ) : SW d M X pc ls (.ref (110 + i) :: st) σ := by
  obtain ⟨p, l, e, R, s, m, args, below, meth, c, cells, slots, Q, E⟩ := X
  intro ok hc0 H locs L hP hD hS hL
  obtain ⟨cf, kf, fi, f, cell, h1, h2, h3, h4, h5, h6⟩ := (ok.2.2.2.2.2.2.2.2.1.2.2.2.2.1 i hi).2.2.1.kept hS.2.1
  exact W.getf ok.1 ok.2.1 ok.2.2.2.2.1 (ok.2.2.2.2.2.1 _ hlink) h1 h2 h3 h4 h5 rfl rfl hd (k ok hc0 H locs L hP hD hS hL)
theorem w_getC {idx i : Nat} (hd : decode M.2.1 pc = .ok (.getfield idx, 3)) (hlink : Cond.fieldLink M.1.cls idx "java/lang/String" "coder" "B" ∈ tblG) (hi : i < 10) (k : SW d M X (pc + 3) ls (.int (nI 0) :: st) σ) : SW d M X pc ls (.ref (110 + i) :: st) σ := by
  obtain ⟨p, l, e, R, s, m, args, below, meth, c, cells, slots, Q, E⟩ := X
  intro ok hc0 H locs L hP hD hS hL
  obtain ⟨cf, kf, fi, f, cell, h1, h2, h3, h4, h5, h6⟩ := (ok.2.2.2.2.2.2.2.2.1.2.2.2.2.1 i hi).2.1.kept hS.2.1
  exact W.getf ok.1 ok.2.1 ok.2.2.2.2.1 (ok.2.2.2.2.2.1 _ hlink) h1 h2 h3 h4 h5 rfl rfl hd (k ok hc0 H locs L hP hD hS hL)
theorem w_alenS {i : Nat} (hd : decode M.2.1 pc = .ok (.arraylength, 1)) (hi : i < 10) (k : SW d M X (pc + 1) ls (.int (nI (strLen.getD (i % 5) 0)) :: st) σ) : SW d M X pc ls (.ref (130 + i) :: st) σ := by
  obtain ⟨p, l, e, R, s, m, args, below, meth, c, cells, slots, Q, E⟩ := X
  intro ok hc0 H locs L hP hD hS hL
  obtain ⟨cell, h1, h2, h3, h4, h5, h6, h7⟩ := (ok.2.2.2.2.2.2.2.2.1.2.2.2.2.1 i hi).2.2.2.kept hS.2.1
  exact W.alen ok.1 ok.2.1 h1 h2 h5 rfl rfl hd (k ok hc0 H locs L hP hD hS hL)
theorem w_baldS {i j : Nat} (hd : decode M.2.1 pc = .ok (.baload, 1)) (hi : i < 10) (hj : j < strLen.getD (i % 5) 0) (k : SW d M X (pc + 1) ls (.int ((strByt.getD (i % 5) []).getD j 0) :: st) σ) : SW d M X pc ls (.int (nI j) :: .ref (130 + i) :: st) σ := by
  have hl : strLen.getD (i % 5) 0 ≤ 5 := by
    have h1 : ∀ m : Fin 5, strLen.getD m.val 0 ≤ 5 := by decide
    exact h1 ⟨i % 5, Nat.mod_lt _ (by decide)⟩
  obtain ⟨p, l, e, R, s, m, args, below, meth, c, cells, slots, Q, E⟩ := X
  intro ok hc0 H locs L hP hD hS hL
  obtain ⟨cell, h1, h2, h3, h4, h5, h6, h7⟩ := (ok.2.2.2.2.2.2.2.2.1.2.2.2.2.1 i hi).2.2.2.kept hS.2.1
  have hcl : (nI j).toNatClampNeg = j := nI_clamp (by omega)
  refine W.bald (v := .int ((strByt.getD (i % 5) []).getD j 0)) (j := nI j) ok.1 ok.2.1 h1 h2 h3 (fun q => q.elim (fun z => nI_pos (by omega) z) (fun z => ?_)) ?_ rfl rfl hd (k ok hc0 H locs L hP hD hS hL)
  · rw [hcl] at z; omega
  · rw [hcl]; exact h6 j hj
theorem w_compact {idx : Nat} (hd : decode M.2.1 pc = .ok (.getstatic idx, 3)) (hlink : Cond.fieldLink M.1.cls idx "java/lang/String" "COMPACT_STRINGS" "Z" ∈ tblG) (k : SW d M X (pc + 3) ls (.int (nI 1) :: st) σ) : SW d M X pc ls st σ := by
  obtain ⟨p, l, e, R, s, m, args, below, meth, c, cells, slots, Q, E⟩ := X
  intro ok hc0 H locs L hP hD hS hL
  exact va_gets ok.1 ok.2.1 ok.2.2.2.2.2.2.2.2.1.2.2.2.2.2.1 hS ok.2.2.2.2.1 (ok.2.2.2.2.2.1 _ hlink) (fun _ h => h) hd (k ok hc0 H locs L hP hD hS hL)
theorem w_i2c {x : Int32} (hd : decode M.2.1 pc = .ok (.i2c, 1)) (k : SW d M X (pc + 1) ls (.int (x.toUInt32 % 65536).toInt32 :: st) σ) : SW d M X pc ls (.int x :: st) σ := SW.lift (fun _ _ _ _ _ _ _ _ _ _ _ _ _ _ _ _ _ hx hb _ k => lv_i2c hx hb hd rfl k) k
end StrSteps
theorem G_J0_coder {σ : Hp} {i : Nat} (hi : i < 10) : GoodF 1 mJ0_coder_7d493 [.ref (110 + i)] σ (some (.int (nI 0))) σ := by
  refine GoodF.intro (by decide) (cat_ref cat_nil) (Nat.le_of_ble_eq_true rfl) (fun X hR => ?_)
  show SW 1 mJ0_coder_7d493 X 0 [some (.ref (110 + i))] [] σ
  refine w_compact dJ0_coder_7d493_0 (tg 724 (by decide +kernel) rfl) ?_
  refine w_if_eqN 13 dJ0_coder_7d493_3 (by decide) (by decide) (fun h => absurd h (by decide)) (fun _ => ?_)
  refine w_aload_n dJ0_coder_7d493_6 rfl ?_
  refine w_getC dJ0_coder_7d493_7 (tg 1418 (by decide +kernel) rfl) hi ?_
  refine w_goto 14 dJ0_coder_7d493_10 (by decide) ?_
  exact w_iret dJ0_coder_7d493_14 .byte rfl rfl hR
theorem G_J0_isLatin1 {σ : Hp} {i : Nat} (hi : i < 10) : GoodF 1 mJ0_isLatin1_aae02 [.ref (110 + i)] σ (some (.int (nI 1))) σ := by
  refine GoodF.intro (by decide) (cat_ref cat_nil) (Nat.le_of_ble_eq_true rfl) (fun X hR => ?_)
  show SW 1 mJ0_isLatin1_aae02 X 0 [some (.ref (110 + i))] [] σ
  refine w_compact dJ0_isLatin1_aae02_0 (tg 724 (by decide +kernel) rfl) ?_
  refine w_if_eqN 17 dJ0_isLatin1_aae02_3 (by decide) (by decide) (fun h => absurd h (by decide)) (fun _ => ?_)
  refine w_aload_n dJ0_isLatin1_aae02_6 rfl ?_
  refine w_getC dJ0_isLatin1_aae02_7 (tg 1418 (by decide +kernel) rfl) hi ?_
  refine w_if_neN 17 dJ0_isLatin1_aae02_10 (by decide) (by decide) (fun h => absurd rfl h) (fun _ => ?_)
  refine w_iconst (nI 1) dJ0_isLatin1_aae02_13 (by decide) ?_
  refine w_goto 18 dJ0_isLatin1_aae02_14 (by decide) ?_
  exact w_iret dJ0_isLatin1_aae02_18 .boolean rfl rfl hR
theorem G_J0_length {σ : Hp} {i : Nat} (hi : i < 10) : GoodF 2 mJ0_length_8abf5 [.ref (110 + i)] σ (some (.int (nI (strLen.getD (i % 5) 0)))) σ := by
  have hl : strLen.getD (i % 5) 0 ≤ 5 := by
    have h1 : ∀ m : Fin 5, strLen.getD m.val 0 ≤ 5 := by decide
    exact h1 ⟨i % 5, Nat.mod_lt _ (by decide)⟩
  refine GoodF.intro (by decide) (cat_ref cat_nil) (Nat.le_of_ble_eq_true rfl) (fun X hR => ?_)
  show SW 2 mJ0_length_8abf5 X 0 [some (.ref (110 + i))] [] σ
  refine w_aload_n dJ0_length_8abf5_0 rfl ?_
  refine w_getV dJ0_length_8abf5_1 (tg 1417 (by decide +kernel) rfl) hi ?_
  refine w_alenS dJ0_length_8abf5_4 hi ?_
  refine w_aload_n dJ0_length_8abf5_5 rfl ?_
  refine w_callVS (as := []) dJ0_length_8abf5_6 lk_J0_335 rfl hi rfl (by decide) (Nat.le_of_ble_eq_true rfl) (G_J0_coder hi) (fun w s h => ?_)
  obtain ⟨rfl, rfl⟩ := h
  refine w_ishrN dJ0_length_8abf5_9 (by decide) (by omega) ?_
  rw [Nat.pow_zero, Nat.div_one]
  exact w_iret dJ0_length_8abf5_10 .int rfl rfl hR
/-- the machine's own test of an index, whatever stands third -/
theorem met_ck {σ : Hp} {k n : Nat} {v : Value} (hv : v.category = 1) (hkn : k < n) (hn : n < 2147483648) (l : Launch) (E : Ev) : Met l mJ3_checkIndex_8e157.1 (wsM mJ3_checkIndex_8e157) (rmd 1) (va_Pc [.int (nI k), .int (nI n), v] (Inv E σ)) (fun _ st o t => (∃ (w : Option Value) (σ' : Hp), o = .returned (w.map (rv E.1)) ∧ (w = some (.int (nI k)) ∧ σ' = σ) ∧ Inv E σ' t) ∧ va_F (AE E) st t) 0 0 (AE E) := by
  refine Met.ofW (cc := mJ3_checkIndex_8e157.2.1) (maxL := 3) (ret := some .int) (by decide) rfl ?_
  intro p e s m args' below meth c s₁ B hml hv2
  obtain ⟨rfl, hI⟩ := hv2
  obtain ⟨hP, hK, hD, hR⟩ := hI
  have hcr : ∀ w ∈ ([.int (nI k), .int (nI n), v] : List Value), w.category = 1 := fun w hw => by
    rcases List.mem_cons.mp hw with rfl | hw
    · rfl
    · rcases List.mem_cons.mp hw with rfl | hw
      · rfl
      · rcases List.mem_cons.mp hw with rfl | hw
        · exact hv
        · cases hw
  obtain ⟨e1, e2⟩ := lg_sl_cat _ hcr
  have hl := lv_entry ([.int (nI k), .int (nI n), v]) (n := 3) (by rw [e1]; exact Nat.le_refl _)
  rw [lg_entry_eq]
  have hts := atoms_spec (ws := wsM mJ3_checkIndex_8e157) B.pre
  have hSW : SW 1 mJ3_checkIndex_8e157 (p, l, e, rmd 1, s, m, ([.int (nI k), .int (nI n), v] : List Value).toArray, below, meth, c, 0, 0, MQ below (fun _ st o t => (∃ (w : Option Value) (σ' : Hp), o = .returned (w.map (rv E.1)) ∧ (w = some (.int (nI k)) ∧ σ' = σ) ∧ Inv E σ' t) ∧ va_F (AE E) st t) ([.int (nI k), .int (nI n), v] : List Value).toArray s 0 0 (AE E), E) 0 [some (.int (nI k)), some (.int (nI n)), none] [] σ := by
    refine w_iload_n dJ3_checkIndex_8e157_0 rfl ?_
    refine w_if_ltN 9 dJ3_checkIndex_8e157_1 (by decide) (by omega) ?_
    refine w_iload_n dJ3_checkIndex_8e157_4 rfl ?_
    refine w_iload_n dJ3_checkIndex_8e157_5 rfl ?_
    refine w_icmp_ltN 16 dJ3_checkIndex_8e157_6 (by decide) (by omega) hn (fun _ => ?_) (fun h => by omega)
    refine w_iload_n dJ3_checkIndex_8e157_16 rfl ?_
    exact w_iret dJ3_checkIndex_8e157_17 .int rfl rfl ⟨_, rfl, fun t hW hI hF => ⟨⟨some (.int (nI k)), σ, rfl, ⟨rfl, rfl⟩, hI⟩, hF⟩⟩
  refine hSW ⟨B.exec, B.bytes, B.returns, hml, findClass_of_methodNamed B.named, fun w hw => hts w (List.mem_cons_of_mem _ hw), B.notSynchronized, hK, hR, Nat.le_refl _, Nat.le_refl _, Nat.le_refl _, Nat.le_refl _⟩ ?_ s.heap [] _ hP hD va_S.rf (hl.mono fun q hq => ?_)
  · intro w hw
    rcases List.mem_cons.mp hw with h | hw
    · cases h; rfl
    · rcases List.mem_cons.mp hw with h | hw
      · cases h; rfl
      · rcases List.mem_cons.mp hw with h | hw
        · cases h
        · cases hw
  · rw [e2]
    have hq2 : q ∈ ([(0, .int (nI k)), (1, .int (nI n))] : List (Nat × Value)) := hq
    rcases List.mem_cons.mp hq2 with rfl | hq3
    · simp
    · rcases List.mem_cons.mp hq3 with rfl | hq4
      · simp
      · cases hq4
theorem ck_step {d : Nat} {X : CX} {ls : List (Option Value)} {σ : Hp} {k n : Nat} (hd0 : 1 < d) (hkn : k < n) (hn : n < 2147483648) (kk : SW d mJ0_checkIndex_df160 X 8 ls [.int (nI k)] σ) : SW d mJ0_checkIndex_df160 X 2 ls [.int (nI n), .int (nI k)] σ := by
  obtain ⟨p, l, e, R, s, m, args, below, meth, c, cells, slots, Q, E⟩ := X
  intro ok hc0 H locs L hP hD hS hL
  have ok0 := ok
  obtain ⟨hx, hcb, hr, hml, hown, hts, hlk, hK, hRO, hd1, hd2, hc1, hc2⟩ := ok
  obtain ⟨hB, hpn, hl, hstt⟩ := lk_J0_1059
  have go : ∀ v : Value, v.category = 1 → W p l e R s m args below meth c H locs cells slots Q (F0 m 5 L [v, .int (nI n), .int (nI k)]) := fun v hv => by
    have hrun := va_runS (l := l) (R := R) (below := below) (meth := meth) (locs := locs) (cells := cells) (slots := slots) (g := F0 m 5 L [v, .int (nI n), .int (nI k)]) (As := [.int (nI k), .int (nI n), v]) (rest := []) (e := e) (H := H) (Ts := tblG) ⟨hx, hcb, hml, hown, hts⟩ (met_ck (σ := σ) hv hkn hn l E) ⟨callB (d' := 1) hB hpn hl hts hd0 hd1 hd2, hts _ hstt⟩ ⟨Inv.blind, fun U hU hW => ⟨rfl, Inv.of hP hD hS hK hRO hU hW⟩⟩ rfl rfl hL.1 rfl (lv_room (Nat.le_of_ble_eq_true rfl)) dJ0_checkIndex_df160_5 ⟨hc1, hc2⟩
    exact SW.after (st := []) hrun ok0 hc0 hS hL (fun w σ' hq => by obtain ⟨rfl, rfl⟩ := hq; exact kk)
  have hlink := hts _ (tg 740 (by decide +kernel) rfl : Cond.fieldLink "java/lang/String" 1053 "jdk/internal/util/Preconditions" "SIOOBE_FORMATTER" "Ljava/util/function/BiFunction;" ∈ tblG)
  rcases hRO.2.2.2.2.2.2 with hz | ⟨t, hz⟩
  · exact va_gets hx hcb hz hS hown hlink (fun _ h => h) dJ0_checkIndex_df160_2 (go _ rfl)
  · exact va_gets hx hcb hz hS hown hlink (fun _ h => h) dJ0_checkIndex_df160_2 (go _ rfl)
theorem G_J0_checkIndex {σ : Hp} {k n : Nat} (hkn : k < n) (hn : n < 2147483648) : GoodF 2 mJ0_checkIndex_df160 [.int (nI k), .int (nI n)] σ none σ := by
  refine GoodF.intro (by decide) (cat_int (cat_int cat_nil)) (Nat.le_of_ble_eq_true rfl) (fun X hR => ?_)
  show SW 2 mJ0_checkIndex_df160 X 0 [some (.int (nI k)), some (.int (nI n))] [] σ
  refine w_iload_n dJ0_checkIndex_df160_0 rfl ?_
  refine w_iload_n dJ0_checkIndex_df160_1 rfl ?_
  refine ck_step (by decide) hkn hn ?_
  refine w_pop dJ0_checkIndex_df160_8 rfl ?_
  exact w_vret dJ0_checkIndex_df160_9 rfl hR
def strCh (i k : Nat) : Nat := ([[119, 111, 114, 100], [116, 105, 116, 108, 101], [111, 110, 108, 121], [115, 111, 117, 110, 100], [115, 101, 110, 115, 101]] : List (List Nat)).getD i [] |>.getD k 0
def strL (i : Nat) : Nat := strLen.getD i 0
theorem strCh_ok : ∀ (i : Fin 5) (k : Fin 5), k.val < strL i.val → ((((strByt.getD i.val []).getD k.val 0) &&& nI 255).toUInt32 % 65536).toInt32 = nI (strCh i.val k.val) ∧ strCh i.val k.val < 256 ∧ narrow .char (.int (nI (strCh i.val k.val))) = .int (nI (strCh i.val k.val)) := by decide +kernel
theorem strL_le (i : Nat) : strL (i % 5) ≤ 5 := by
  have h1 : ∀ m : Fin 5, strLen.getD m.val 0 ≤ 5 := by decide
  exact h1 ⟨i % 5, Nat.mod_lt _ (by decide)⟩
theorem G_J1_charAt {σ : Hp} {i k : Nat} (hi : i < 10) (hk : k < strL (i % 5)) : GoodF 3 mJ1_charAt_3b067 [.ref (130 + i), .int (nI k)] σ (some (.int (nI (strCh (i % 5) k)))) σ := by
  have hl := strL_le i
  obtain ⟨c1, c2, c3⟩ := strCh_ok ⟨i % 5, Nat.mod_lt _ (by decide)⟩ ⟨k, by omega⟩ hk
  simp only [] at c1 c2 c3
  refine GoodF.intro (by decide) (cat_ref (cat_int cat_nil)) (Nat.le_of_ble_eq_true rfl) (fun X hR => ?_)
  show SW 3 mJ1_charAt_3b067 X 0 [some (.ref (130 + i)), some (.int (nI k))] [] σ
  refine w_iload_n dJ1_charAt_3b067_0 rfl ?_
  refine w_aload_n dJ1_charAt_3b067_1 rfl ?_
  refine w_alenS dJ1_charAt_3b067_2 hi ?_
  refine w_callS (as := [.int (nI k), .int (nI (strLen.getD (i % 5) 0))]) dJ1_charAt_3b067_3 lk_J1_9 rfl (by decide) (Nat.le_of_ble_eq_true rfl) (G_J0_checkIndex hk (Nat.lt_of_le_of_lt hl (by decide))) (fun w s h => ?_)
  obtain ⟨rfl, rfl⟩ := h
  refine w_aload_n dJ1_charAt_3b067_6 rfl ?_
  refine w_iload_n dJ1_charAt_3b067_7 rfl ?_
  refine w_baldS dJ1_charAt_3b067_8 hi hk ?_
  refine w_sipush (nI 255) dJ1_charAt_3b067_9 (by decide) ?_
  refine w_iand dJ1_charAt_3b067_12 ?_
  refine w_i2c dJ1_charAt_3b067_13 ?_
  rw [c1]
  exact w_iret dJ1_charAt_3b067_14 .char rfl c3 hR
theorem G_J0_charAt {σ : Hp} {i k : Nat} (hi : i < 10) (hk : k < strL (i % 5)) : GoodF 4 mJ0_charAt_5068e [.ref (110 + i), .int (nI k)] σ (some (.int (nI (strCh (i % 5) k)))) σ := by
  have hl := strL_le i
  obtain ⟨c1, c2, c3⟩ := strCh_ok ⟨i % 5, Nat.mod_lt _ (by decide)⟩ ⟨k, by omega⟩ hk
  simp only [] at c1 c2 c3
  refine GoodF.intro (by decide) (cat_ref (cat_int cat_nil)) (Nat.le_of_ble_eq_true rfl) (fun X hR => ?_)
  show SW 4 mJ0_charAt_5068e X 0 [some (.ref (110 + i)), some (.int (nI k))] [] σ
  refine w_aload_n dJ0_charAt_5068e_0 rfl ?_
  refine w_callVS (as := []) dJ0_charAt_5068e_1 lk_J0_492 rfl hi rfl (by decide : 1 < 4) (Nat.le_of_ble_eq_true rfl) (G_J0_isLatin1 hi) (fun w s h => ?_)
  obtain ⟨rfl, rfl⟩ := h
  refine w_if_eqN 16 dJ0_charAt_5068e_4 (by decide) (by decide) (fun h => absurd h (by decide)) (fun _ => ?_)
  refine w_aload_n dJ0_charAt_5068e_7 rfl ?_
  refine w_getV dJ0_charAt_5068e_8 (tg 1417 (by decide +kernel) rfl) hi ?_
  refine w_iload_n dJ0_charAt_5068e_11 rfl ?_
  refine w_callS (as := [.ref (130 + i), .int (nI k)]) dJ0_charAt_5068e_12 lk_J0_495 rfl (by decide : 3 < 4) (Nat.le_of_ble_eq_true rfl) (G_J1_charAt hi hk) (fun w s h => ?_)
  obtain ⟨rfl, rfl⟩ := h
  exact w_iret dJ0_charAt_5068e_15 .char rfl c3 hR
section StrUse
variable {d : Nat} {X : CX} {st : List Value} {σ : Hp} {i k : Nat} {l0 l1 l2 l3 : Option Value}
theorem sX4_isName_18s (hi : i < 10) (hd : 2 < d) (hst : (st.map fun v => v.category).sum ≤ 8) (kk : SW d mX4_isName X 21 [l0, l1, l2] (.int (nI (strL (i % 5))) :: st) σ) : SW d mX4_isName X 18 [l0, l1, l2] (.ref (110 + i) :: st) σ := w_callVS (as := []) dX4_isName_18 lk_X4_51 rfl hi rfl hd hst (G_J0_length hi) (fun w s h => by obtain ⟨rfl, rfl⟩ := h; exact kk)
theorem sX4_isName_30s (hi : i < 10) (hd : 2 < d) (hst : (st.map fun v => v.category).sum ≤ 8) (kk : SW d mX4_isName X 33 [l0, l1, l2] (.int (nI (strL (i % 5))) :: st) σ) : SW d mX4_isName X 30 [l0, l1, l2] (.ref (110 + i) :: st) σ := w_callVS (as := []) dX4_isName_30 lk_X4_51 rfl hi rfl hd hst (G_J0_length hi) (fun w s h => by obtain ⟨rfl, rfl⟩ := h; exact kk)
theorem sX4_isName_49s (hi : i < 10) (hk : k < strL (i % 5)) (hd : 4 < d) (hst : (st.map fun v => v.category).sum ≤ 8) (kk : SW d mX4_isName X 52 [l0, l1, l2] (.int (nI (strCh (i % 5) k)) :: st) σ) : SW d mX4_isName X 49 [l0, l1, l2] (.int (nI k) :: .ref (110 + i) :: st) σ := w_callVS (as := [.int (nI k)]) dX4_isName_49 lk_X4_57 rfl hi rfl hd hst (G_J0_charAt hi hk) (fun w s h => by obtain ⟨rfl, rfl⟩ := h; exact kk)
theorem sX6_isHere_25s (hi : i < 10) (hd : 2 < d) (hst : (st.map fun v => v.category).sum ≤ 8) (kk : SW d mX6_isHere X 28 [l0, l1, l2, l3] (.int (nI (strL (i % 5))) :: st) σ) : SW d mX6_isHere X 25 [l0, l1, l2, l3] (.ref (110 + i) :: st) σ := w_callVS (as := []) dX6_isHere_25 lk_X6_236 rfl hi rfl hd hst (G_J0_length hi) (fun w s h => by obtain ⟨rfl, rfl⟩ := h; exact kk)
theorem sX6_isHere_45s (hi : i < 10) (hd : 2 < d) (hst : (st.map fun v => v.category).sum ≤ 8) (kk : SW d mX6_isHere X 48 [l0, l1, l2, l3] (.int (nI (strL (i % 5))) :: st) σ) : SW d mX6_isHere X 45 [l0, l1, l2, l3] (.ref (110 + i) :: st) σ := w_callVS (as := []) dX6_isHere_45 lk_X6_236 rfl hi rfl hd hst (G_J0_length hi) (fun w s h => by obtain ⟨rfl, rfl⟩ := h; exact kk)
theorem sX6_isHere_64s (hi : i < 10) (hk : k < strL (i % 5)) (hd : 4 < d) (hst : (st.map fun v => v.category).sum ≤ 8) (kk : SW d mX6_isHere X 67 [l0, l1, l2, l3] (.int (nI (strCh (i % 5) k)) :: st) σ) : SW d mX6_isHere X 64 [l0, l1, l2, l3] (.int (nI k) :: .ref (110 + i) :: st) σ := w_callVS (as := [.int (nI k)]) dX6_isHere_64 lk_X6_241 rfl hi rfl hd hst (G_J0_charAt hi hk) (fun w s h => by obtain ⟨rfl, rfl⟩ := h; exact kk)
end StrUse
