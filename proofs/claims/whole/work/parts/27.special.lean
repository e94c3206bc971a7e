/-! Math.max, min, abs, System.arraycopy as steps -/
section Special
variable {d : Nat} {M : MT} {X : CX} {pc : Nat} {ls : List (Option Value)} {st : List Value} {σ : Hp} {a b : Nat}
theorem mx_st : Cond.static Lib.Math.max.name ∈ tblG := (tg 440 (by decide +kernel) rfl)
theorem mx_co : Cond.code Lib.Math.max.name Lib.Math.max.code 2 (some .int) ∈ tblG := (tg 441 (by decide +kernel) rfl)
theorem mn_st : Cond.static Lib.Math.min.name ∈ tblG := (tg 705 (by decide +kernel) rfl)
theorem mn_co : Cond.code Lib.Math.min.name Lib.Math.min.code 2 (some .int) ∈ tblG := (tg 706 (by decide +kernel) rfl)
theorem ab_st : Cond.static Lib.Math.abs.name ∈ tblG := (tg 588 (by decide +kernel) rfl)
theorem ab_co : Cond.code Lib.Math.abs.name Lib.Math.abs.code 1 (some .int) ∈ tblG := (tg 589 (by decide +kernel) rfl)
theorem ma_in : Cond.initialized "java/lang/Math" ∈ tblG := (tg 73 (by decide +kernel) rfl)
theorem w_mmax {idx : Nat} (hd : decode M.2.1 pc = .ok (.invokestatic idx, 3)) (hl : Cond.methodLink M.1.cls idx Lib.Math.max.name ∈ tblG) (hd0 : 0 < d) (hst : (st.map fun v => v.category).sum ≤ 8) (ha : a < 2147483648) (hb : b < 2147483648) (k : SW d M X (pc + 3) ls (.int (nI (max a b)) :: st) σ) : SW d M X pc ls (.int (nI b) :: .int (nI a) :: st) σ := by
  obtain ⟨p, l, e, R, s, m, args, below, meth, c, cells, slots, Q, E⟩ := X
  intro ok hc0 H locs L hP hD hS hL
  obtain ⟨hx, hcb, hr, hml, hown, hts, hlk, hK, hRO, hd1, hd2, hc1, hc2⟩ := id ok
  have e1 : (if nI a < nI b then nI b else nI a) = nI (max a b) := by
    by_cases h : a < b
    · rw [if_pos (nI_lt h hb), Nat.max_eq_right (by omega)]
    · rw [if_neg (fun z => h ((nI_ltI ha hb).mp z)), Nat.max_eq_left (by omega)]
  refine va_mmax (rest := st.map (rv E.1)) hx hcb (hml.trans hL.1.symm) hown (hts _ hl) (hts _ mx_st) (hts _ ma_in) (hts _ mx_co) (by omega) (by rw [cat_map]; omega) hc1 hc2 hd ?_
  rw [e1]
  exact k ok hc0 H locs L hP hD hS hL
theorem w_mmin {idx : Nat} (hd : decode M.2.1 pc = .ok (.invokestatic idx, 3)) (hl : Cond.methodLink M.1.cls idx Lib.Math.min.name ∈ tblG) (hd0 : 0 < d) (hst : (st.map fun v => v.category).sum ≤ 8) (ha : a < 2147483648) (hb : b < 2147483648) (k : SW d M X (pc + 3) ls (.int (nI (min a b)) :: st) σ) : SW d M X pc ls (.int (nI b) :: .int (nI a) :: st) σ := by
  obtain ⟨p, l, e, R, s, m, args, below, meth, c, cells, slots, Q, E⟩ := X
  intro ok hc0 H locs L hP hD hS hL
  obtain ⟨hx, hcb, hr, hml, hown, hts, hlk, hK, hRO, hd1, hd2, hc1, hc2⟩ := id ok
  have e1 : (if nI b < nI a then nI b else nI a) = nI (min a b) := by
    by_cases h : b < a
    · rw [if_pos (nI_lt h ha), Nat.min_eq_right (by omega)]
    · rw [if_neg (fun z => h ((nI_ltI hb ha).mp z)), Nat.min_eq_left (by omega)]
  refine va_mmin (rest := st.map (rv E.1)) hx hcb (hml.trans hL.1.symm) hown (hts _ hl) (hts _ mn_st) (hts _ ma_in) (hts _ mn_co) (by omega) (by rw [cat_map]; omega) hc1 hc2 hd ?_
  rw [e1]
  exact k ok hc0 H locs L hP hD hS hL
theorem w_mabs {idx : Nat} {x : Int32} (hd : decode M.2.1 pc = .ok (.invokestatic idx, 3)) (hl : Cond.methodLink M.1.cls idx Lib.Math.abs.name ∈ tblG) (hd0 : 0 < d) (hst : (st.map fun v => v.category).sum ≤ 8) (k : SW d M X (pc + 3) ls (.int (if 0 ≤ x then x else 0 - x) :: st) σ) : SW d M X pc ls (.int x :: st) σ := by
  obtain ⟨p, l, e, R, s, m, args, below, meth, c, cells, slots, Q, E⟩ := X
  intro ok hc0 H locs L hP hD hS hL
  obtain ⟨hx, hcb, hr, hml, hown, hts, hlk, hK, hRO, hd1, hd2, hc1, hc2⟩ := id ok
  exact va_mabs (rest := st.map (rv E.1)) hx hcb (hml.trans hL.1.symm) hown (hts _ hl) (hts _ ab_st) (hts _ ma_in) (hts _ ab_co) (by omega) (by rw [cat_map]; omega) hc1 hc2 hd (k ok hc0 H locs L hP hD hS hL)
/-- the absolute difference of two numbers -/
def adf (a b : Nat) : Nat := (a - b) + (b - a)
theorem adf_abs {a b : Nat} (ha : a < 1073741824) (hb : b < 1073741824) : (if 0 ≤ nI a - nI b then nI a - nI b else 0 - (nI a - nI b)) = nI (adf a b) := by
  by_cases h : b ≤ a
  · rw [pk_sub h, if_pos (nI_pos' (by omega))]
    unfold adf
    congr 1
    omega
  · have h1 : nI a - nI b < 0 := pk_sneg hb (by omega)
    rw [if_neg (Int32.not_le.mpr h1)]
    have h2 : (0 : Int32) - (nI a - nI b) = nI b - nI a := by
      apply Int32.toBitVec_inj.mp
      simp only [Int32.toBitVec_sub]
      have : (0 : Int32).toBitVec = 0#32 := rfl
      rw [this]
      simp only [BitVec.zero_sub, BitVec.neg_sub]
      rw [BitVec.add_comm, ← BitVec.sub_eq_add_neg]
    rw [h2, pk_sub (by omega)]
    unfold adf
    congr 1
    omega
theorem w_mabsN {idx : Nat} (hd : decode M.2.1 pc = .ok (.invokestatic idx, 3)) (hl : Cond.methodLink M.1.cls idx Lib.Math.abs.name ∈ tblG) (hd0 : 0 < d) (hst : (st.map fun v => v.category).sum ≤ 8) (ha : a < 1073741824) (hb : b < 1073741824) (k : SW d M X (pc + 3) ls (.int (nI (adf a b)) :: st) σ) : SW d M X pc ls (.int (nI a - nI b) :: st) σ := w_mabs hd hl hd0 hst (by rw [adf_abs ha hb]; exact k)
theorem w_mabsP {idx : Nat} (hd : decode M.2.1 pc = .ok (.invokestatic idx, 3)) (hl : Cond.methodLink M.1.cls idx Lib.Math.abs.name ∈ tblG) (hd0 : 0 < d) (hst : (st.map fun v => v.category).sum ≤ 8) (ha : a < 2147483648) (k : SW d M X (pc + 3) ls (.int (nI a) :: st) σ) : SW d M X pc ls (.int (nI a) :: st) σ := w_mabs hd hl hd0 hst (by rw [if_pos (nI_pos' ha)]; exact k)
/-- n numbers of row q from i on come to row p from j on -/
def cpy2 (σ : Hp) (q i p j n : Nat) : Hp := fun r k => if r = p ∧ j ≤ k ∧ k < j + n then σ q (i + (k - j)) else σ r k
theorem cpy2_row {σ : Hp} {q i p j n : Nat} : cpy2 σ q i p j n p = va_cpy (σ q) (σ p) i j n := by
  funext k
  simp [cpy2, va_cpy]
theorem cpy2_other {σ : Hp} {q i p j n r : Nat} (h : r ≠ p) : cpy2 σ q i p j n r = σ r := by
  funext k
  simp [cpy2, h]
theorem w_copy {idx q p nq np i j n : Nat} (hd : decode M.2.1 pc = .ok (.invokestatic idx, 3)) (hl : Cond.methodLink M.1.cls idx arraycopyName ∈ tblG) (hn1 : Cond.native arraycopyName ∈ tblG) (hs1 : Cond.static arraycopyName ∈ tblG) (hi1 : Cond.initialized "java/lang/System" ∈ tblG) (hd0 : 1 < d) (hst : (st.map fun v => v.category).sum ≤ 8) (hq : aN q = some nq) (hp : aN p = some np) (h1 : i + n ≤ nq) (h2 : j + n ≤ np) (k : SW d M X (pc + 3) ls st (cpy2 σ q i p j n)) : SW d M X pc ls (.int (nI n) :: .int (nI j) :: .ref p :: .int (nI i) :: .ref q :: st) σ := by
  have hq672 := aN_le hq
  have hp672 := aN_le hp
  obtain ⟨hq61, hlq⟩ := aN_spec hq
  obtain ⟨hp61, hlp⟩ := aN_spec hp
  obtain ⟨pr, l, e, R, s, m, args, below, meth, c, cells, slots, Q, E⟩ := X
  intro ok hc0 H locs L hP hD hS hL
  obtain ⟨hx, hcb, hr, hml, hown, hts, hlk, hK, hRO, hd1, hd2, hc1, hc2⟩ := id ok
  have hwq : (wsO E σ)[q]? = some (E.1 q, .inl (E.2.2.2.1, nq, .inl (σ q))) := by rw [wsO_at hq61]; simp only [cellO, hlq]
  have hwp : (wsO E σ)[p]? = some (E.1 p, .inl (E.2.2.2.1, np, .inl (σ p))) := by rw [wsO_at hp61]; simp only [cellO, hlp]
  have ci : (nI i).toNatClampNeg = i := nI_clamp (by omega)
  have cj : (nI j).toNatClampNeg = j := nI_clamp (by omega)
  have cn : (nI n).toNatClampNeg = n := nI_clamp (by omega)
  have hnat : (st.map fun v => v.category).sum + (nativeFrameWords "java/lang/System" "arraycopy" 5 + 11) ≤ R.locals := by
    have h3 : nativeFrameWords "java/lang/System" "arraycopy" 5 + 11 ≤ 20 := by decide +kernel
    omega
  refine va_copyi (rest := st.map (rv E.1)) (D := DE E) (sp := nI i) (dp := nI j) (n := nI n) hx hcb (hml.trans hL.1.symm) hown (hts _ hl) (hts _ hn1) (hts _ hs1) (hts _ hi1) hK hP hD hS q p 0 0 hwq hwp rfl rfl rfl (nI_pos (by omega)) (nI_pos (by omega)) (nI_pos (by omega)) (by rw [ci, cn]; exact h1) (by rw [cj, cn]; exact h2) (fun _ _ => rfl) (Nat.le_trans (Nat.le_of_lt hd0) hd1) (by rw [cat_map]; exact hnat) hd (fun H1 locs1 hP1 hD1 hS1 => ?_)
  rw [ci, cj, cn] at hP1 hD1
  have e1 : (wsO E σ).set p (E.1 p, .inl (E.2.2.2.1, np, .inl (va_cpy (σ q) (σ p) i j n))) = wsO E (cpy2 σ q i p j n) := wsO_ext hp61 (by simp only [cellO, hlp, cpy2_row]) (fun r hr => cellO_other (cpy2_other hr))
  rw [e1] at hP1 hD1
  exact k ok hc0 H1 locs1 L hP1 hD1 hS1 hL
theorem ac_na : Cond.native arraycopyName ∈ tblG := (tg 685 (by decide +kernel) rfl)
theorem ac_st : Cond.static arraycopyName ∈ tblG := (tg 684 (by decide +kernel) rfl)
theorem ac_in : Cond.initialized "java/lang/System" ∈ tblG := (tg 74 (by decide +kernel) rfl)
theorem ac_l3 : Cond.methodLink "TitleMimes$Stock" 53 arraycopyName ∈ tblG := (tg 683 (by decide +kernel) rfl)
theorem ac_l5 : Cond.methodLink "TitleMimes" 305 arraycopyName ∈ tblG := (tg 843 (by decide +kernel) rfl)
theorem mx_l0 : Cond.methodLink "TitleMimes$Chart" 52 Lib.Math.max.name ∈ tblG := (tg 439 (by decide +kernel) rfl)
theorem ab_l5 : Cond.methodLink "TitleMimes" 222 Lib.Math.abs.name ∈ tblG := (tg 587 (by decide +kernel) rfl)
theorem mn_l4 : Cond.methodLink "TitleMimes$Tape" 45 Lib.Math.min.name ∈ tblG := (tg 704 (by decide +kernel) rfl)
end Special
