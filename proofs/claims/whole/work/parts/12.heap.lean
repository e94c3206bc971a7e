/-! steps: fields, rows, constants -/
section Steps2
variable {d : Nat} {M : MT} {X : CX} {pc : Nat} {ls : List (Option Value)} {st : List Value} {σ : Hp}
/-- the classes: name, fields, how many, types, by the number in vwCl -/
def inC (ci : Nat) : Prop := ∀ r, vwCl[ci]? = some r → ∀ w ∈ u_ws r.1 r.2.1 r.2.2, w ∈ tblG
def tyC (ci : Nat) : Nat → FieldType := ([tyX0, tyX1, tyX2, tyX3, tyX4, tyX5, tyX6] : List (Nat → FieldType)).getD ci tyX0
theorem inC_of (b : Bool) (r : vw_C) (h : (u_ws r.1 r.2.1 r.2.2).all (fun w => lw_tbl.contains w && goodWord w) = true) : ∀ w ∈ u_ws r.1 r.2.1 r.2.2, w ∈ tblG := by
  intro w hw
  have h1 := List.all_eq_true.mp h w hw
  rw [Bool.and_eq_true] at h1
  exact List.mem_filter.mpr ⟨by simpa using h1.1, h1.2⟩
theorem inC0 : ∀ w ∈ u_ws RX0 TX0 4, w ∈ tblG := inC_of true (RX0, TX0, 4) (by decide +kernel)
theorem inC1 : ∀ w ∈ u_ws RX1 TX1 3, w ∈ tblG := inC_of true (RX1, TX1, 3) (by decide +kernel)
theorem inC2 : ∀ w ∈ u_ws RX2 TX2 5, w ∈ tblG := inC_of true (RX2, TX2, 5) (by decide +kernel)
theorem inC3 : ∀ w ∈ u_ws RX3 TX3 12, w ∈ tblG := inC_of true (RX3, TX3, 12) (by decide +kernel)
theorem inC4 : ∀ w ∈ u_ws RX4 TX4 6, w ∈ tblG := inC_of true (RX4, TX4, 6) (by decide +kernel)
theorem inC5 : ∀ w ∈ u_ws RX5 TX5 10, w ∈ tblG := inC_of true (RX5, TX5, 10) (by decide +kernel)
theorem inC6 : ∀ w ∈ u_ws RX6 TX6 25, w ∈ tblG := inC_of true (RX6, TX6, 25) (by decide +kernel)
/-- a field link: entry idx of own's pool is field j of class ci -/
def FL (own : String) (idx ci j : Nat) : Prop := ∃ (C : String) (T : u_T) (N : Nat), vwCl[ci]? = some (C, T, N) ∧ j < N ∧ (∀ w ∈ u_ws C T N, w ∈ tblG) ∧ Cond.fieldLink own idx (T j).1 (T j).2.1 (T j).2.2.1 ∈ tblG ∧ (∀ k, k < N → parseFieldDescriptor (T k).2.2.1 = some (tyC ci k)) ∧ (∀ a, a < N → ∀ b, b < N → a ≠ b → (T a).2.1 ≠ (T b).2.1) ∧ ∀ fs k, k < 61 → lay k = .inr (.inl (ci, fs)) → fs.length = N
theorem w_getI {idx b : Nat} (ci j : Nat) (hd : decode M.2.1 pc = .ok (.getfield idx, 3)) (hF : FL M.1.cls idx ci j) (hb : fI ci b j = true) (k : SW d M X (pc + 3) ls (.int (σ b j) :: st) σ) : SW d M X pc ls (.ref b :: st) σ := by
  obtain ⟨hb61, fs, hl, hj⟩ := fI_spec hb
  obtain ⟨C, T, N, hc, hjN, hin, hlink, -, -, -⟩ := hF
  obtain ⟨p, l, e, R, s, m, args, below, meth, c, cells, slots, Q, E⟩ := X
  intro ok hc0 H locs L hP hD hS hL
  have ok0 := ok
  obtain ⟨hx, hcb, hr, hml, hown, hts, hlk, hK, hRO, -⟩ := ok
  have hw : (wsO E σ)[b]? = some (E.1 b, .inr (ci, fsO E.1 σ b fs)) := by rw [wsO_at hb61]; simp only [cellO, hl]
  exact va_get (D := DE E) (ci := ci) (v := .int (σ b j)) hx hcb hts hin hown hK hP b hw hc j hjN (hts _ hlink) (fun _ h => h) (fsO_at hj) hd (k ok0 hc0 H locs L hP hD hS hL)
theorem w_getR {idx b p : Nat} (ci j : Nat) (hd : decode M.2.1 pc = .ok (.getfield idx, 3)) (hF : FL M.1.cls idx ci j) (hb : fR ci b j = some p) (k : SW d M X (pc + 3) ls (.ref p :: st) σ) : SW d M X pc ls (.ref b :: st) σ := by
  obtain ⟨hb61, fs, hl, hj⟩ := fR_spec hb
  obtain ⟨C, T, N, hc, hjN, hin, hlink, -, -, -⟩ := hF
  obtain ⟨p, l, e, R, s, m, args, below, meth, c, cells, slots, Q, E⟩ := X
  intro ok hc0 H locs L hP hD hS hL
  have ok0 := ok
  obtain ⟨hx, hcb, hr, hml, hown, hts, hlk, hK, hRO, -⟩ := ok
  have hw : (wsO E σ)[b]? = some (E.1 b, .inr (ci, fsO E.1 σ b fs)) := by rw [wsO_at hb61]; simp only [cellO, hl]
  exact va_get (D := DE E) (ci := ci) hx hcb hts hin hown hK hP b hw hc j hjN (hts _ hlink) (fun _ h => h) (fsO_at hj) hd (k ok0 hc0 H locs L hP hD hS hL)
theorem wsO_putf {E : Ev} {b j ci : Nat} {fs : List (Option Nat)} (hb : b < 61) (hl : lay b = .inr (.inl (ci, fs))) (hj : fs[j]? = some none) (x : Int32) : (wsO E σ).set b (E.1 b, .inr (ci, (fsO E.1 σ b fs).set j (.int x))) = wsO E (up2 σ b j x) :=
  wsO_ext hb (by simp only [cellO, hl]; rw [fsO_set hj]) (fun q hq => cellO_other (up2_other hq))
theorem w_putI {idx b : Nat} {x : Int32} (ci j : Nat) (ty : FieldType) (hd : decode M.2.1 pc = .ok (.putfield idx, 3)) (hF : FL M.1.cls idx ci j) (hb : fI ci b j = true) (hfin : ∀ r, vwCl[ci]? = some r → (r.2.1 j).2.2.2 = false ∧ parseFieldDescriptor (r.2.1 j).2.2.1 = some ty) (hn : narrow ty (.int x) = .int x) (hfit : fits ty (.int x) = true) (k : SW d M X (pc + 3) ls st (up2 σ b j x)) : SW d M X pc ls (.int x :: .ref b :: st) σ := by
  obtain ⟨hb61, fs, hl, hj⟩ := fI_spec hb
  obtain ⟨C, T, N, hc, hjN, hin, hlink, hty, hnm, hlen⟩ := hF
  obtain ⟨p, l, e, R, s, m, args, below, meth, c, cells, slots, Q, E⟩ := X
  intro ok hc0 H locs L hP hD hS hL
  have ok0 := ok
  obtain ⟨hx, hcb, hr, hml, hown, hts, hlk, hK, hRO, -⟩ := ok
  have hw : (wsO E σ)[b]? = some (E.1 b, .inr (ci, fsO E.1 σ b fs)) := by rw [wsO_at hb61]; simp only [cellO, hl]
  have hjl : j < (fsO E.1 σ b fs).length := by simp [fsO]; exact (List.getElem?_eq_some_iff.mp hj).1
  refine va_put (D := DE E) (ci := ci) (v := .int x) hx hcb hts hin (tyC ci) hty hnm hown hK hP hD hS b hw hc j hjN (hts _ hlink) (fun _ h => h) (hfin _ hc).1 (hfin _ hc).2 hn hfit hjl hd (fun H1 locs1 hP1 hD1 hS1 => ?_)
  rw [wsO_putf hb61 hl hj] at hP1 hD1
  exact k ok0 hc0 H1 locs1 L hP1 hD1 hS1 hL
theorem w_iald {b n : Nat} {i : Int32} (hd : decode M.2.1 pc = .ok (.iaload, 1)) (hb : aN b = some n) (hi : vp_in i n) (k : SW d M X (pc + 1) ls (.int (σ b i.toNatClampNeg) :: st) σ) : SW d M X pc ls (.int i :: .ref b :: st) σ := by
  obtain ⟨hb61, hl⟩ := aN_spec hb
  obtain ⟨p, l, e, R, s, m, args, below, meth, c, cells, slots, Q, E⟩ := X
  intro ok hc0 H locs L hP hD hS hL
  have hw : (wsO E σ)[b]? = some (E.1 b, .inl (E.2.2.2.1, n, .inl (σ b))) := by rw [wsO_at hb61]; simp only [cellO, hl]
  exact va_iald (D := DE E) ok.1 ok.2.1 ok.2.2.2.2.2.2.2.1 hP b 0 hw rfl hi hd (k ok hc0 H locs L hP hD hS hL)
theorem w_iast {b n : Nat} {i x : Int32} (hd : decode M.2.1 pc = .ok (.iastore, 1)) (hb : aN b = some n) (hi : vp_in i n) (k : SW d M X (pc + 1) ls st (up2 σ b i.toNatClampNeg x)) : SW d M X pc ls (.int x :: .int i :: .ref b :: st) σ := by
  obtain ⟨hb61, hl⟩ := aN_spec hb
  obtain ⟨p, l, e, R, s, m, args, below, meth, c, cells, slots, Q, E⟩ := X
  intro ok hc0 H locs L hP hD hS hL
  have hw : (wsO E σ)[b]? = some (E.1 b, .inl (E.2.2.2.1, n, .inl (σ b))) := by rw [wsO_at hb61]; simp only [cellO, hl]
  refine va_iast (D := DE E) ok.1 ok.2.1 ok.2.2.2.2.2.2.2.1 hP hD hS b 0 hw rfl hi hd (fun H1 locs1 hP1 hD1 hS1 => ?_)
  have e1 : (wsO E σ).set b (E.1 b, .inl (E.2.2.2.1, n, .inl (upd (σ b) i.toNatClampNeg x))) = wsO E (up2 σ b i.toNatClampNeg x) := wsO_ext hb61 (by simp only [cellO, hl, up2_row]) (fun q hq => cellO_other (up2_other hq))
  rw [e1] at hP1 hD1
  exact k ok hc0 H1 locs1 L hP1 hD1 hS1 hL
theorem w_aald {b q : Nat} {i : Int32} (hd : decode M.2.1 pc = .ok (.aaload, 1)) (hi : vp_in i 4) (hb : rN b i.toNatClampNeg = some q) (h4 : ∀ rs, lay b = .inr (.inr rs) → rs.length = 4) (k : SW d M X (pc + 1) ls (.ref q :: st) σ) : SW d M X pc ls (.int i :: .ref b :: st) σ := by
  obtain ⟨hb61, rs, hl, hq⟩ := rN_spec hb
  obtain ⟨p, l, e, R, s, m, args, below, meth, c, cells, slots, Q, E⟩ := X
  intro ok hc0 H locs L hP hD hS hL
  have hw : (wsO E σ)[b]? = some (E.1 b, .inl (E.2.2.2.2.1, rs.length, .inr (.inr (.inr (.inr (fun j => (rs[j]?).map E.1)))))) := by rw [wsO_at hb61]; simp only [cellO, hl]
  have e1 : va_rf ((fun j => (rs[j]?).map E.1) i.toNatClampNeg) = rv E.1 (.ref q) := by simp [hq, va_rf, rv]
  refine va_aldq (D := DE E) ok.1 ok.2.1 ok.2.2.2.2.2.2.2.1 hP b 1 hw rfl (by rw [h4 rs hl]; exact hi) hd ?_
  rw [e1]
  exact k ok hc0 H locs L hP hD hS hL
theorem w_ldc {idx : Nat} {v : Int32} (hd : decode M.2.1 pc = .ok (.ldc idx, 2)) (hc : Cond.constant M.1.cls idx v ∈ tblG) (k : SW d M X (pc + 2) ls (.int v :: st) σ) : SW d M X pc ls st σ := by
  obtain ⟨p, l, e, R, s, m, args, below, meth, c, cells, slots, Q, E⟩ := X
  intro ok hc0 H locs L hP hD hS hL
  exact lv_ldc ok.1 ok.2.1 ok.2.2.2.2.1 (ok.2.2.2.2.2.1 _ hc) hd (k ok hc0 H locs L hP hD hS hL)
theorem w_ldcw {idx : Nat} {v : Int32} (hd : decode M.2.1 pc = .ok (.ldc_w idx, 3)) (hc : Cond.constant M.1.cls idx v ∈ tblG) (k : SW d M X (pc + 3) ls (.int v :: st) σ) : SW d M X pc ls st σ := by
  obtain ⟨p, l, e, R, s, m, args, below, meth, c, cells, slots, Q, E⟩ := X
  intro ok hc0 H locs L hP hD hS hL
  exact lv_ldcw ok.1 ok.2.1 ok.2.2.2.2.1 (ok.2.2.2.2.2.1 _ hc) hd (k ok hc0 H locs L hP hD hS hL)
theorem w_ldc2 {idx : Nat} {v : Int64} (hd : decode M.2.1 pc = .ok (.ldc2_w idx, 3)) (hc : Cond.constantLong M.1.cls idx v ∈ tblG) (k : SW d M X (pc + 3) ls (.long v :: st) σ) : SW d M X pc ls st σ := by
  obtain ⟨p, l, e, R, s, m, args, below, meth, c, cells, slots, Q, E⟩ := X
  intro ok hc0 H locs L hP hD hS hL
  exact lv_ldc2 ok.1 ok.2.1 ok.2.2.2.2.1 (ok.2.2.2.2.2.1 _ hc) hd (k ok hc0 H locs L hP hD hS hL)
theorem w_ldcS {idx : Nat} (i : Nat) (hd : decode M.2.1 pc = .ok (.ldc idx, 2)) (hi : i < 10) (hown : strOwn i = M.1.cls) (hidx : strIdx i = idx) (k : SW d M X (pc + 2) ls (.ref (110 + i) :: st) σ) : SW d M X pc ls st σ := by
  obtain ⟨p, l, e, R, s, m, args, below, meth, c, cells, slots, Q, E⟩ := X
  intro ok hc0 H locs L hP hD hS hL
  have h1 := ok.2.2.2.2.2.2.2.2.1.2.2.2.1 i hi
  rw [hown, hidx] at h1
  exact va_ldcS ok.1 ok.2.1 ok.2.2.2.2.1 h1 hd (k ok hc0 H locs L hP hD hS hL)
theorem w_ldcwS {idx : Nat} (i : Nat) (hd : decode M.2.1 pc = .ok (.ldc_w idx, 3)) (hi : i < 10) (hown : strOwn i = M.1.cls) (hidx : strIdx i = idx) (k : SW d M X (pc + 3) ls (.ref (110 + i) :: st) σ) : SW d M X pc ls st σ := by
  obtain ⟨p, l, e, R, s, m, args, below, meth, c, cells, slots, Q, E⟩ := X
  intro ok hc0 H locs L hP hD hS hL
  have h1 := ok.2.2.2.2.2.2.2.2.1.2.2.2.1 i hi
  rw [hown, hidx] at h1
  intro T hT Y
  obtain ⟨t, a1, b1⟩ := k ok hc0 H locs L hP hD hS hL T hT Y
  exact ⟨t, Y.ldcStringW ok.1 ok.2.2.2.2.1 (text := strX i) (a := E.1 (110 + i)) h1.1 h1.2 (g := F0 m pc L (st.map (rv E.1))) rfl (by rw [ok.2.1]; exact hd) t a1, b1⟩
theorem w_under {idx : Nat} (hd : decode M.2.1 pc = .ok (.getstatic idx, 3)) (hlink : Cond.fieldLink M.1.cls idx "TitleMimes" "UNDER" "[I" ∈ tblG) (k : SW d M X (pc + 3) ls (.ref 100 :: st) σ) : SW d M X pc ls st σ := by
  obtain ⟨p, l, e, R, s, m, args, below, meth, c, cells, slots, Q, E⟩ := X
  intro ok hc0 H locs L hP hD hS hL
  exact va_gets ok.1 ok.2.1 ok.2.2.2.2.2.2.2.2.1.2.1 hS ok.2.2.2.2.1 (ok.2.2.2.2.2.1 _ hlink) (fun _ h => h) hd (k ok hc0 H locs L hP hD hS hL)
theorem w_ualdU {i : Int32} (hd : decode M.2.1 pc = .ok (.iaload, 1)) (hi : vp_in i 7) (k : SW d M X (pc + 1) ls (.int (under i.toNatClampNeg) :: st) σ) : SW d M X pc ls (.int i :: .ref 100 :: st) σ := by
  obtain ⟨p, l, e, R, s, m, args, below, meth, c, cells, slots, Q, E⟩ := X
  intro ok hc0 H locs L hP hD hS hL
  obtain ⟨cell, h1, h2, h3, h4, h5, h6, h7⟩ := (ok.2.2.2.2.2.2.2.2.1.2.2.1).kept hS.2.1
  have hlt : i.toNatClampNeg < 7 := Nat.not_le.mp fun q => hi (Or.inr q)
  exact W.iald (v := .int (under i.toNatClampNeg)) ok.1 ok.2.1 h1 h2 h3 (fun q => q.elim (fun z => hi (Or.inl z)) (fun z => absurd (Nat.le_trans h4 z) (by omega))) (h6 _ hlt) rfl rfl hd (k ok hc0 H locs L hP hD hS hL)
end Steps2
