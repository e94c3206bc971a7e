/-! parts of a set by signs, in numbers -/
theorem pc_le {x n : Nat} (hx : x < 2 ^ n) (hn : n ≤ 32) : pc x ≤ n := by
  have h : ∀ m, cB x m ≤ min m n := by
    intro m
    induction m with
    | zero => simp [cB]
    | succ m ih =>
      rw [cB]
      by_cases hm : m < n
      · have : x / 2 ^ m % 2 ≤ 1 := by omega
        omega
      · have : x / 2 ^ m = 0 := Nat.div_eq_of_lt (Nat.lt_of_lt_of_le hx (Nat.pow_le_pow_right (by decide) (by omega)))
        rw [this]
        omega
  have := h 32
  unfold pc
  omega
theorem sm_bit {c : CO} {s t o : Nat} : (sm c s t).testBit o = true ↔ (o < ct c ∧ told c (s / 4) (s % 4) o = told c (s / 4) (s % 4) t) := bs_bit _ _ _
/-- the part of S in which t is, by two signs -/
noncomputable def prt (c : CO) (s o S t : Nat) : Nat := (S &&& sm c s t) &&& sm c o t
noncomputable def dv (c : CO) (s o S : Nat) : Nat → Nat × Nat × Nat × Nat
  | 0 => (S, 0, 0, 0)
  | t + 1 => if (dv c s o S t).1.testBit t then (sd (dv c s o S t).1 (prt c s o S t), (dv c s o S t).2.1 + 1, max (dv c s o S t).2.2.1 (pc (prt c s o S t)), (dv c s o S t).2.2.2 + pc (prt c s o S t) * pc (prt c s o S t)) else dv c s o S t
noncomputable def PA (c : CO) (s S : Nat) : Nat := (dv c s s S (ct c)).2.1
noncomputable def WS (c : CO) (s o S : Nat) : Nat := (dv c s o S (ct c)).2.2.1
noncomputable def SU (c : CO) (s S : Nat) : Nat := (dv c s s S (ct c)).2.2.2
theorem and_lt {a b n : Nat} (h : a < 2 ^ n) : a &&& b < 2 ^ n := Nat.lt_of_le_of_lt Nat.and_le_left h
theorem sd_le (a b : Nat) : sd a b ≤ a := by
  have : sd a b = a &&& sd a b := by
    apply Nat.eq_of_testBit_eq
    intro i
    rw [Nat.testBit_and, sd_bit]
    cases a.testBit i <;> simp
  rw [this]
  exact Nat.and_le_left
def smt (c : CO) (s o u v : Nat) : Prop := told c (s / 4) (s % 4) u = told c (s / 4) (s % 4) v ∧ told c (o / 4) (o % 4) u = told c (o / 4) (o % 4) v
theorem prt_bit {c : CO} {s o S t u : Nat} : (prt c s o S t).testBit u = true ↔ (S.testBit u = true ∧ u < ct c ∧ smt c s o u t) := by
  unfold prt smt
  rw [Nat.testBit_and, Nat.testBit_and, Bool.and_eq_true, Bool.and_eq_true, sm_bit, sm_bit]
  constructor
  · rintro ⟨⟨a, b, d⟩, -, e⟩; exact ⟨a, b, d, e⟩
  · rintro ⟨a, b, d, e⟩; exact ⟨⟨a, b, d⟩, b, e⟩
/-- who is left ahead of t: those like nobody ahead of t -/
theorem dv_left {c : CO} {s o S : Nat} (hS : S < 2 ^ ct c) : ∀ t, t ≤ ct c → ∀ u, (dv c s o S t).1.testBit u = true ↔ (S.testBit u = true ∧ ∀ v, v < t → S.testBit v = true → ¬ smt c s o u v) := by
  intro t
  induction t with
  | zero => intro _ u; exact ⟨fun h => ⟨h, fun v hv => by omega⟩, fun h => h.1⟩
  | succ t ih =>
    intro ht u
    have h1 := ih (by omega)
    rw [dv]
    by_cases hb : (dv c s o S t).1.testBit t = true
    · rw [if_pos hb]
      show (sd (dv c s o S t).1 (prt c s o S t)).testBit u = true ↔ _
      rw [sd_bit, Bool.and_eq_true, h1 u, Bool.not_eq_true', ← Bool.not_eq_true, prt_bit]
      have hst := ((h1 t).mp hb).1
      constructor
      · rintro ⟨⟨a, b⟩, d⟩
        refine ⟨a, fun v hv hsv hm => ?_⟩
        by_cases e : v = t
        · subst e
          have hu : u < ct c := Nat.lt_of_not_le (fun hh => by
            have := Nat.testBit_lt_two_pow (Nat.lt_of_lt_of_le hS (Nat.pow_le_pow_right (by decide) hh))
            rw [this] at a; cases a)
          exact d ⟨a, hu, hm⟩
        · exact b v (by omega) hsv hm
      · rintro ⟨a, b⟩
        exact ⟨⟨a, fun v hv => b v (by omega)⟩, fun ⟨_, _, hm⟩ => b t (by omega) hst hm⟩
    · rw [if_neg hb, h1 u]
      constructor
      · rintro ⟨a, b⟩
        refine ⟨a, fun v hv hsv hm => ?_⟩
        by_cases e : v = t
        · subst e
          have h2 : ¬ (∀ w, w < v → S.testBit w = true → ¬ smt c s o v w) := fun z => hb ((h1 v).mpr ⟨hsv, z⟩)
          apply h2
          intro w hw hsw hm2
          exact b w hw hsw ⟨hm.1.trans hm2.1, hm.2.trans hm2.2⟩
        · exact b v (by omega) hsv hm
      · rintro ⟨a, b⟩
        exact ⟨a, fun v hv => b v (by omega)⟩
/-- the part, out of what is left -/
theorem dv_part {c : CO} {s o S t : Nat} (hS : S < 2 ^ ct c) (ht : t ≤ ct c) (hb : (dv c s o S t).1.testBit t = true) : ((dv c s o S t).1 &&& sm c s t) &&& sm c o t = prt c s o S t := by
  apply Nat.eq_of_testBit_eq
  intro u
  have h1 := dv_left hS t ht (s := s) (o := o)
  have key : (((dv c s o S t).1 &&& sm c s t) &&& sm c o t).testBit u = true ↔ (prt c s o S t).testBit u = true := by
    rw [prt_bit, Nat.testBit_and, Nat.testBit_and, Bool.and_eq_true, Bool.and_eq_true, sm_bit, sm_bit, h1 u]
    constructor
    · rintro ⟨⟨⟨a, b⟩, d, e⟩, -, f⟩; exact ⟨a, d, e, f⟩
    · rintro ⟨a, b, d, e⟩
      refine ⟨⟨⟨a, fun v hv hsv hm => ?_⟩, b, d⟩, b, e⟩
      exact ((h1 t).mp hb).2 v hv hsv ⟨d.symm.trans hm.1, e.symm.trans hm.2⟩
  cases h2 : (((dv c s o S t).1 &&& sm c s t) &&& sm c o t).testBit u <;> cases h3 : (prt c s o S t).testBit u <;> simp_all
theorem dv_sub {c : CO} {s o S t : Nat} : (dv c s o S t).1 ≤ S := by
  induction t with
  | zero => exact Nat.le_refl _
  | succ t ih =>
    rw [dv]
    split
    · exact Nat.le_trans (sd_le _ _) ih
    · exact ih
theorem dv_le {c : CO} {s o S : Nat} (hS : S < 2 ^ ct c) (hc : ct c ≤ 24) : ∀ t, (dv c s o S t).2.1 ≤ t ∧ (dv c s o S t).2.2.1 ≤ 24 ∧ (dv c s o S t).2.2.2 ≤ 576 * t := by
  have hp : ∀ t, pc (prt c s o S t) ≤ 24 := fun t => Nat.le_trans (pc_le (and_lt (and_lt hS)) (by omega)) hc
  intro t
  induction t with
  | zero => simp [dv]
  | succ t ih =>
    have h := hp t
    have h2 : pc (prt c s o S t) * pc (prt c s o S t) ≤ 24 * 24 := Nat.mul_le_mul h h
    rw [dv]
    split
    · refine ⟨?_, ?_, ?_⟩
      · show _ + 1 ≤ _; omega
      · show max _ _ ≤ _; omega
      · show _ + _ ≤ _; omega
    · omega
theorem WS_le {c : CO} {s o S : Nat} (hW : WFc c) (hS : S < 2 ^ ct c) : WS c s o S ≤ 24 := (dv_le hS hW.2.1 _).2.1
theorem SU_le {c : CO} {s S : Nat} (hW : WFc c) (hS : S < 2 ^ ct c) : SU c s S ≤ 13824 := by
  have := (dv_le (s := s) (o := s) hS hW.2.1 (ct c)).2.2
  have h2 := hW.2.1
  unfold SU
  omega
/-- the best sign among the first ones -/
def bst (val : Nat → Nat) (most : Nat) : Nat → Option (Nat × Nat)
  | 0 => none
  | s + 1 => if most < takes s then bst val most s else match bst val most s with
    | none => some (s, val s)
    | some q => if val s < q.2 ∨ (val s = q.2 ∧ takes s < takes q.1) then some (s, val s) else some q
theorem bst_lt {val : Nat → Nat} {most : Nat} : ∀ n q, bst val most n = some q → q.1 < n ∧ q.2 = val q.1 := by
  intro n
  induction n with
  | zero => intro q h; cases h
  | succ n ih =>
    intro q h
    rw [bst] at h
    split at h
    · have := ih q h; exact ⟨by omega, this.2⟩
    · split at h
      · cases h; exact ⟨by show n < n + 1; omega, rfl⟩
      · rename_i q' hq
        split at h
        · cases h; exact ⟨by show n < n + 1; omega, rfl⟩
        · cases h; have := ih q hq; exact ⟨by omega, this.2⟩
theorem bst_some {val : Nat → Nat} : ∃ q, bst val 60 28 = some q := by
  have h : ∀ n, n < 28 → ∃ q, bst val 60 (n + 1) = some q := by
    intro n hn
    rw [bst]
    rw [if_neg (by have := (takes_le ⟨n, hn⟩).2; simp only [] at this; omega)]
    split
    · exact ⟨_, rfl⟩
    · split <;> exact ⟨_, rfl⟩
  exact h 27 (by decide)
