/-! steps over small numbers: nI n is the int of n -/
noncomputable def bI (p : Prop) : Int32 := @ite _ p (Classical.propDecidable p) 1 0
theorem bI_t {p : Prop} (h : p) : bI p = 1 := if_pos h
theorem bI_f {p : Prop} (h : ¬ p) : bI p = 0 := if_neg h
theorem bI_1 {p : Prop} : bI p = nI 1 ↔ p := by
  by_cases h : p
  · rw [bI_t h]; exact ⟨fun _ => h, fun _ => rfl⟩
  · rw [bI_f h]; exact ⟨fun e => absurd e (by decide), fun q => absurd q h⟩
theorem bI_0 {p : Prop} : bI p = nI 0 ↔ ¬ p := by
  by_cases h : p
  · rw [bI_t h]; exact ⟨fun e => absurd e (by decide), fun q => absurd h q⟩
  · rw [bI_f h]; exact ⟨fun _ => h, fun _ => rfl⟩
theorem bI_cg {p q : Prop} (h : p ↔ q) : bI p = bI q := by rw [propext h]
def sd (a b : Nat) : Nat := a ^^^ (a &&& b)
theorem sd_bit (a b i : Nat) : (sd a b).testBit i = (a.testBit i && !b.testBit i) := by
  unfold sd
  rw [Nat.testBit_xor, Nat.testBit_and]
  cases a.testBit i <;> cases b.testBit i <;> rfl
theorem nI_bv (n : Nat) : (nI n).toBitVec = BitVec.ofNat 32 n := rfl
theorem i_ext {x y : Int32} (h : ∀ i, i < 32 → x.toBitVec.getLsbD i = y.toBitVec.getLsbD i) : x = y := by
  have : x.toBitVec = y.toBitVec := BitVec.eq_of_getLsbD_eq h
  exact Int32.toBitVec_inj.mp this
theorem nI_and (a b : Nat) : nI a &&& nI b = nI (a &&& b) := i_ext fun i hi => by
  rw [Int32.toBitVec_and, BitVec.getLsbD_and]
  simp [nI_bv, BitVec.getLsbD_ofNat, hi]
theorem nI_or (a b : Nat) : nI a ||| nI b = nI (a ||| b) := i_ext fun i hi => by
  rw [Int32.toBitVec_or, BitVec.getLsbD_or]
  simp [nI_bv, BitVec.getLsbD_ofNat, hi]
theorem nI_andC (a b : Nat) : nI a &&& (nI b ^^^ (-1)) = nI (sd a b) := i_ext fun i hi => by
  rw [Int32.toBitVec_and, BitVec.getLsbD_and, Int32.toBitVec_xor, BitVec.getLsbD_xor]
  have h1 : (-1 : Int32).toBitVec = BitVec.allOnes 32 := by decide
  rw [h1]
  simp only [nI_bv, BitVec.getLsbD_ofNat, BitVec.getLsbD_allOnes, sd_bit, hi, decide_true, Bool.true_and]
  cases a.testBit i <;> cases b.testBit i <;> rfl
theorem nI_shl1 {n : Nat} (h : n < 32) : nI 1 <<< (nI n &&& 31) = nI (2 ^ n) := by
  have : ∀ m : Fin 32, nI 1 <<< (nI m.val &&& 31) = nI (2 ^ m.val) := by decide
  exact this ⟨n, h⟩
theorem nI_shr {a n : Nat} (ha : a < 2147483648) (h : n < 32) : nI a >>> (nI n &&& 31) = nI (a / 2 ^ n) := by
  have h1 : ∀ m : Fin 32, ((nI m.val &&& 31).toBitVec.smod 32).toNat = m.val := by decide
  exact pk_shrN ha _ n (h1 ⟨n, h⟩)
theorem nI_ushr {a n : Nat} (ha : a < 4294967296) (h : n < 32) : ((nI a).toUInt32 >>> ((nI n).toUInt32 &&& Int32.toUInt32 31)).toInt32 = nI (a / 2 ^ n) := by
  have h1 : ∀ m : Fin 32, (((nI m.val).toUInt32 &&& Int32.toUInt32 31).toBitVec % 32).toNat = m.val := by decide
  exact pk_ushrN ha _ n (h1 ⟨n, h⟩)
theorem nI_and1 (a : Nat) : nI a &&& nI 1 = nI (a % 2) := by rw [nI_and, Nat.and_one_is_mod]
theorem aN_le {k n : Nat} (h : aN k = some n) : n ≤ 672 := by
  have h1 : ∀ m : Fin 61, (aN m.val).getD 0 ≤ 672 := by decide
  have h2 := h1 ⟨k, (aN_spec h).1⟩
  simp only [h, Option.getD_some] at h2
  exact h2
def GoodF (d : Nat) (M : MT) (args : List Value) (σ : Hp) (v : Option Value) (σ1 : Hp) : Prop := Good d M args σ (fun w σ' => w = v ∧ σ' = σ1)
section Nat1
variable {d : Nat} {M : MT} {X : CX} {pc : Nat} {ls : List (Option Value)} {st : List Value} {σ : Hp} {a b : Nat}
theorem w_iaddN (hd : decode M.2.1 pc = .ok (.iadd, 1)) (k : SW d M X (pc + 1) ls (.int (nI (a + b)) :: st) σ) : SW d M X pc ls (.int (nI b) :: .int (nI a) :: st) σ := w_iadd hd (by rw [nI_add]; exact k)
theorem w_imulN (hd : decode M.2.1 pc = .ok (.imul, 1)) (k : SW d M X (pc + 1) ls (.int (nI (a * b)) :: st) σ) : SW d M X pc ls (.int (nI b) :: .int (nI a) :: st) σ := w_imul hd (by rw [pk_mul]; exact k)
theorem w_isubN (hd : decode M.2.1 pc = .ok (.isub, 1)) (h : b ≤ a) (k : SW d M X (pc + 1) ls (.int (nI (a - b)) :: st) σ) : SW d M X pc ls (.int (nI b) :: .int (nI a) :: st) σ := w_isub hd (by rw [pk_sub h]; exact k)
theorem w_iandN (hd : decode M.2.1 pc = .ok (.iand, 1)) (k : SW d M X (pc + 1) ls (.int (nI (a &&& b)) :: st) σ) : SW d M X pc ls (.int (nI b) :: .int (nI a) :: st) σ := w_iand hd (by rw [nI_and]; exact k)
theorem w_iand1 (hd : decode M.2.1 pc = .ok (.iand, 1)) (k : SW d M X (pc + 1) ls (.int (nI (a % 2)) :: st) σ) : SW d M X pc ls (.int (nI 1) :: .int (nI a) :: st) σ := w_iand hd (by rw [nI_and1]; exact k)
theorem w_iandC (hd : decode M.2.1 pc = .ok (.iand, 1)) (k : SW d M X (pc + 1) ls (.int (nI (sd a b)) :: st) σ) : SW d M X pc ls (.int (nI b ^^^ (-1)) :: .int (nI a) :: st) σ := w_iand hd (by rw [nI_andC]; exact k)
theorem w_iorN (hd : decode M.2.1 pc = .ok (.ior, 1)) (k : SW d M X (pc + 1) ls (.int (nI (a ||| b)) :: st) σ) : SW d M X pc ls (.int (nI b) :: .int (nI a) :: st) σ := w_ior hd (by rw [nI_or]; exact k)
theorem w_ishl1 (hd : decode M.2.1 pc = .ok (.ishl, 1)) (h : b < 32) (k : SW d M X (pc + 1) ls (.int (nI (2 ^ b)) :: st) σ) : SW d M X pc ls (.int (nI b) :: .int (nI 1) :: st) σ := w_ishl hd (by rw [nI_shl1 h]; exact k)
theorem w_ishrN (hd : decode M.2.1 pc = .ok (.ishr, 1)) (h : b < 32) (ha : a < 2147483648) (k : SW d M X (pc + 1) ls (.int (nI (a / 2 ^ b)) :: st) σ) : SW d M X pc ls (.int (nI b) :: .int (nI a) :: st) σ := w_ishr hd (by rw [nI_shr ha h]; exact k)
theorem w_iushrN (hd : decode M.2.1 pc = .ok (.iushr, 1)) (h : b < 32) (ha : a < 4294967296) (k : SW d M X (pc + 1) ls (.int (nI (a / 2 ^ b)) :: st) σ) : SW d M X pc ls (.int (nI b) :: .int (nI a) :: st) σ := w_iushr hd (by rw [nI_ushr ha h]; exact k)
theorem w_idivN (hd : decode M.2.1 pc = .ok (.idiv, 1)) (ha : a < 2147483648) (hb : b < 2147483648) (h0 : 0 < b) (k : SW d M X (pc + 1) ls (.int (nI (a / b)) :: st) σ) : SW d M X pc ls (.int (nI b) :: .int (nI a) :: st) σ := w_idiv hd (nI_ne0 h0 hb) (by rw [pk_div ha h0 hb]; exact k)
theorem w_iremN (hd : decode M.2.1 pc = .ok (.irem, 1)) (ha : a < 2147483648) (hb : b < 2147483648) (h0 : 0 < b) (k : SW d M X (pc + 1) ls (.int (nI (a % b)) :: st) σ) : SW d M X pc ls (.int (nI b) :: .int (nI a) :: st) σ := w_irem hd (nI_ne0 h0 hb) (by rw [pk_rem ha h0 hb]; exact k)
theorem w_icmp_ltN {off : Int} (tgt : Nat) (hd : decode M.2.1 pc = .ok (.if_icmp .lt off, 3)) (ht : (pc : Int) + off = (tgt : Int)) (ha : a < 2147483648) (hb : b < 2147483648) (k1 : a < b → SW d M X tgt ls st σ) (k2 : b ≤ a → SW d M X (pc + 3) ls st σ) : SW d M X pc ls (.int (nI b) :: .int (nI a) :: st) σ := w_icmp_lt tgt hd ht (fun h => k1 ((nI_ltI ha hb).mp h)) (fun h => k2 (Nat.not_lt.mp (fun z => h ((nI_ltI ha hb).mpr z))))
theorem w_icmp_geN {off : Int} (tgt : Nat) (hd : decode M.2.1 pc = .ok (.if_icmp .ge off, 3)) (ht : (pc : Int) + off = (tgt : Int)) (ha : a < 2147483648) (hb : b < 2147483648) (k1 : b ≤ a → SW d M X tgt ls st σ) (k2 : a < b → SW d M X (pc + 3) ls st σ) : SW d M X pc ls (.int (nI b) :: .int (nI a) :: st) σ := w_icmp_ge tgt hd ht (fun h => k1 ((nI_leI hb ha).mp h)) (fun h => k2 (Nat.not_le.mp (fun z => h ((nI_leI hb ha).mpr z))))
theorem w_icmp_gtN {off : Int} (tgt : Nat) (hd : decode M.2.1 pc = .ok (.if_icmp .gt off, 3)) (ht : (pc : Int) + off = (tgt : Int)) (ha : a < 2147483648) (hb : b < 2147483648) (k1 : b < a → SW d M X tgt ls st σ) (k2 : a ≤ b → SW d M X (pc + 3) ls st σ) : SW d M X pc ls (.int (nI b) :: .int (nI a) :: st) σ := w_icmp_gt tgt hd ht (fun h => k1 ((nI_ltI hb ha).mp h)) (fun h => k2 (Nat.not_lt.mp (fun z => h ((nI_ltI hb ha).mpr z))))
theorem w_icmp_leN {off : Int} (tgt : Nat) (hd : decode M.2.1 pc = .ok (.if_icmp .le off, 3)) (ht : (pc : Int) + off = (tgt : Int)) (ha : a < 2147483648) (hb : b < 2147483648) (k1 : a ≤ b → SW d M X tgt ls st σ) (k2 : b < a → SW d M X (pc + 3) ls st σ) : SW d M X pc ls (.int (nI b) :: .int (nI a) :: st) σ := w_icmp_le tgt hd ht (fun h => k1 ((nI_leI ha hb).mp h)) (fun h => k2 (Nat.not_le.mp (fun z => h ((nI_leI ha hb).mpr z))))
theorem w_icmp_eqN {off : Int} (tgt : Nat) (hd : decode M.2.1 pc = .ok (.if_icmp .eq off, 3)) (ht : (pc : Int) + off = (tgt : Int)) (ha : a < 2147483648) (hb : b < 2147483648) (k1 : a = b → SW d M X tgt ls st σ) (k2 : a ≠ b → SW d M X (pc + 3) ls st σ) : SW d M X pc ls (.int (nI b) :: .int (nI a) :: st) σ := w_icmp_eq tgt hd ht (fun h => k1 ((nI_eq ha hb).mp h)) (fun h => k2 (fun z => h ((nI_eq ha hb).mpr z)))
theorem w_icmp_neN {off : Int} (tgt : Nat) (hd : decode M.2.1 pc = .ok (.if_icmp .ne off, 3)) (ht : (pc : Int) + off = (tgt : Int)) (ha : a < 2147483648) (hb : b < 2147483648) (k1 : a ≠ b → SW d M X tgt ls st σ) (k2 : a = b → SW d M X (pc + 3) ls st σ) : SW d M X pc ls (.int (nI b) :: .int (nI a) :: st) σ := w_icmp_ne tgt hd ht (fun h => k1 (fun z => h ((nI_eq ha hb).mpr z))) (fun h => k2 ((nI_eq ha hb).mp h))
theorem nI_z {n : Nat} (h : n < 2147483648) : nI n = 0 ↔ n = 0 := by rw [show (0 : Int32) = nI 0 from rfl, nI_eq h (by decide)]
theorem w_if_eqN {off : Int} (tgt : Nat) (hd : decode M.2.1 pc = .ok (.ifCond .eq off, 3)) (ht : (pc : Int) + off = (tgt : Int)) (ha : a < 2147483648) (k1 : a = 0 → SW d M X tgt ls st σ) (k2 : a ≠ 0 → SW d M X (pc + 3) ls st σ) : SW d M X pc ls (.int (nI a) :: st) σ := w_if_eq tgt hd ht (fun h => k1 ((nI_z ha).mp h)) (fun h => k2 (fun z => h ((nI_z ha).mpr z)))
theorem w_if_neN {off : Int} (tgt : Nat) (hd : decode M.2.1 pc = .ok (.ifCond .ne off, 3)) (ht : (pc : Int) + off = (tgt : Int)) (ha : a < 2147483648) (k1 : a ≠ 0 → SW d M X tgt ls st σ) (k2 : a = 0 → SW d M X (pc + 3) ls st σ) : SW d M X pc ls (.int (nI a) :: st) σ := w_if_ne tgt hd ht (fun h => k1 (fun z => h ((nI_z ha).mpr z))) (fun h => k2 ((nI_z ha).mp h))
theorem w_if_ltN {off : Int} (tgt : Nat) (hd : decode M.2.1 pc = .ok (.ifCond .lt off, 3)) (ht : (pc : Int) + off = (tgt : Int)) (ha : a < 2147483648) (k2 : SW d M X (pc + 3) ls st σ) : SW d M X pc ls (.int (nI a) :: st) σ := w_if_lt tgt hd ht (fun h => absurd h (nI_pos ha)) (fun _ => k2)
theorem w_if_ltM {off : Int} (tgt : Nat) (hd : decode M.2.1 pc = .ok (.ifCond .lt off, 3)) (ht : (pc : Int) + off = (tgt : Int)) (k1 : SW d M X tgt ls st σ) : SW d M X pc ls (.int (-1) :: st) σ := w_if_lt tgt hd ht (fun _ => k1) (fun h => absurd (by decide) h)
theorem w_if_geN {off : Int} (tgt : Nat) (hd : decode M.2.1 pc = .ok (.ifCond .ge off, 3)) (ht : (pc : Int) + off = (tgt : Int)) (ha : a < 2147483648) (k1 : SW d M X tgt ls st σ) : SW d M X pc ls (.int (nI a) :: st) σ := w_if_ge tgt hd ht (fun _ => k1) (fun h => absurd (nI_pos' ha) h)
theorem w_if_geM {off : Int} (tgt : Nat) (hd : decode M.2.1 pc = .ok (.ifCond .ge off, 3)) (ht : (pc : Int) + off = (tgt : Int)) (k2 : SW d M X (pc + 3) ls st σ) : SW d M X pc ls (.int (-1) :: st) σ := w_if_ge tgt hd ht (fun h => absurd h (by decide)) (fun _ => k2)
theorem w_if_gtN {off : Int} (tgt : Nat) (hd : decode M.2.1 pc = .ok (.ifCond .gt off, 3)) (ht : (pc : Int) + off = (tgt : Int)) (ha : a < 2147483648) (k1 : 0 < a → SW d M X tgt ls st σ) (k2 : a = 0 → SW d M X (pc + 3) ls st σ) : SW d M X pc ls (.int (nI a) :: st) σ := w_if_gt tgt hd ht (fun h => k1 (by have := (nI_ltI (a := 0) (by decide) ha).mp h; exact this)) (fun h => k2 (by rcases Nat.eq_zero_or_pos a with z | z; exact z; exact absurd (nI_lt z ha) h))
theorem w_if_leN {off : Int} (tgt : Nat) (hd : decode M.2.1 pc = .ok (.ifCond .le off, 3)) (ht : (pc : Int) + off = (tgt : Int)) (ha : a < 2147483648) (k1 : a = 0 → SW d M X tgt ls st σ) (k2 : 0 < a → SW d M X (pc + 3) ls st σ) : SW d M X pc ls (.int (nI a) :: st) σ := w_if_le tgt hd ht (fun h => k1 (by have := (nI_leI (b := 0) ha (by decide)).mp h; omega)) (fun h => k2 (by rcases Nat.eq_zero_or_pos a with z | z; exact absurd (by subst z; exact (nI_leI (by decide) (by decide)).mpr (Nat.le_refl 0)) h; exact z))
theorem w_if_eqB {p : Prop} {off : Int} (tgt : Nat) (hd : decode M.2.1 pc = .ok (.ifCond .eq off, 3)) (ht : (pc : Int) + off = (tgt : Int)) (k1 : ¬ p → SW d M X tgt ls st σ) (k2 : p → SW d M X (pc + 3) ls st σ) : SW d M X pc ls (.int (bI p) :: st) σ := w_if_eq tgt hd ht (fun h => k1 (bI_0.mp h)) (fun h => k2 (Classical.byContradiction fun z => h (bI_f z)))
theorem w_if_neB {p : Prop} {off : Int} (tgt : Nat) (hd : decode M.2.1 pc = .ok (.ifCond .ne off, 3)) (ht : (pc : Int) + off = (tgt : Int)) (k1 : p → SW d M X tgt ls st σ) (k2 : ¬ p → SW d M X (pc + 3) ls st σ) : SW d M X pc ls (.int (bI p) :: st) σ := w_if_ne tgt hd ht (fun h => k1 (Classical.byContradiction fun z => h (bI_f z))) (fun h => k2 (bI_0.mp h))
theorem w_getI' {idx q : Nat} {v : Int32} (ci j : Nat) (hd : decode M.2.1 pc = .ok (.getfield idx, 3)) (hF : FL M.1.cls idx ci j) (hb : fI ci q j = true) (hv : σ q j = v) (k : SW d M X (pc + 3) ls (.int v :: st) σ) : SW d M X pc ls (.ref q :: st) σ := w_getI ci j hd hF hb (by rw [hv]; exact k)
theorem w_iald' {q n i : Nat} {v : Int32} (hd : decode M.2.1 pc = .ok (.iaload, 1)) (hb : aN q = some n) (hi : i < n) (hv : σ q i = v) (k : SW d M X (pc + 1) ls (.int v :: st) σ) : SW d M X pc ls (.int (nI i) :: .ref q :: st) σ := by
  have h1 := aN_le hb
  refine w_iald hd hb (vp_in_nI hi (by omega)) ?_
  rw [nI_clamp (by omega), hv]
  exact k
theorem w_iast' {q n i : Nat} {x : Int32} (hd : decode M.2.1 pc = .ok (.iastore, 1)) (hb : aN q = some n) (hi : i < n) (k : SW d M X (pc + 1) ls st (up2 σ q i x)) : SW d M X pc ls (.int x :: .int (nI i) :: .ref q :: st) σ := by
  have h1 := aN_le hb
  refine w_iast hd hb (vp_in_nI hi (by omega)) ?_
  rw [nI_clamp (by omega)]
  exact k
theorem w_aald' {i : Nat} (hd : decode M.2.1 pc = .ok (.aaload, 1)) (hi : i < 4) (k : SW d M X (pc + 1) ls (.ref (41 + 2 * i) :: st) σ) : SW d M X pc ls (.int (nI i) :: .ref 38 :: st) σ := by
  refine w_aald (q := 41 + 2 * i) hd (vp_in_nI hi (by decide)) ?_ ?_ k
  · rw [nI_clamp (by omega)]
    have : ∀ m : Fin 4, rN 38 m.val = some (41 + 2 * m.val) := by decide
    exact this ⟨i, hi⟩
  · intro rs h
    have h2 : lay 38 = .inr (.inr [41, 43, 45, 47]) := by decide
    rw [h2] at h
    cases h
    rfl
theorem GoodF.call {d' : Nat} {M' : MT} {args : List Value} {σ1 : Hp} {v : Option Value} {P : Option Value → Hp → Prop} (h : P v σ1) : ∀ w σ', (w = v ∧ σ' = σ1) → P w σ' := fun w σ' e => by rw [e.1, e.2]; exact h
end Nat1
