/-! what it is all about, in plain numbers -/
theorem up2_np {σ : Hp} {p i : Nat} {v : Int32} {q j : Nat} (h : q ≠ p) : up2 σ p i v q j = σ q j := by simp [up2, h]
theorem up2_ni {σ : Hp} {p i : Nat} {v : Int32} {q j : Nat} (h : j ≠ i) : up2 σ p i v q j = σ q j := by simp [up2, h]
theorem up2_eq {σ : Hp} {p i : Nat} {v : Int32} : up2 σ p i v p i = v := by simp [up2]
theorem cp_np {σ : Hp} {q i p j n r k : Nat} (h : r ≠ p) : cpy2 σ q i p j n r k = σ r k := by simp [cpy2, h]
/-- the set of those below n that have p -/
noncomputable def bs (p : Nat → Prop) : Nat → Nat
  | 0 => 0
  | n + 1 => @ite Nat (p n) (Classical.propDecidable _) (bs p n ||| 2 ^ n) (bs p n)
theorem bs_t {p : Nat → Prop} {n : Nat} (h : p n) : bs p (n + 1) = bs p n ||| 2 ^ n := if_pos h
theorem bs_f {p : Nat → Prop} {n : Nat} (h : ¬ p n) : bs p (n + 1) = bs p n := if_neg h
theorem bs_bit (p : Nat → Prop) (n i : Nat) : (bs p n).testBit i = true ↔ (i < n ∧ p i) := by
  induction n with
  | zero => simp [bs]
  | succ n ih =>
    by_cases h : p n
    · rw [bs_t h, Nat.testBit_or, Bool.or_eq_true, ih, Nat.testBit_two_pow]
      constructor
      · rintro (⟨h1, h2⟩ | h1)
        · exact ⟨by omega, h2⟩
        · have : n = i := by simpa using h1
          subst this
          exact ⟨by omega, h⟩
      · rintro ⟨h1, h2⟩
        by_cases hi : i = n
        · right; simp [hi]
        · left; exact ⟨by omega, h2⟩
    · rw [bs_f h, ih]
      constructor
      · rintro ⟨h1, h2⟩; exact ⟨by omega, h2⟩
      · rintro ⟨h1, h2⟩
        by_cases hi : i = n
        · subst hi; exact absurd h2 h
        · exact ⟨by omega, h2⟩
theorem bs_lt (p : Nat → Prop) (n : Nat) : bs p n < 2 ^ n := by
  induction n with
  | zero => simp [bs]
  | succ n ih =>
    by_cases h : p n
    · rw [bs_t h]
      exact Nat.or_lt_two_pow (Nat.lt_of_lt_of_le ih (Nat.pow_le_pow_right (by decide) (by omega))) (Nat.pow_lt_pow_right (by decide) (by omega))
    · rw [bs_f h, Nat.pow_succ]; omega
theorem p24 {n : Nat} (h : n ≤ 24) : 2 ^ n ≤ 16777216 := by
  have := Nat.pow_le_pow_right (n := 2) (by decide) h
  simpa using this
theorem bs_ext {S n : Nat} {p : Nat → Prop} (h : ∀ i, S.testBit i = true ↔ (i < n ∧ p i)) : S = bs p n := by
  apply Nat.eq_of_testBit_eq
  intro i
  have h1 := h i
  have h2 := bs_bit p n i
  cases hS : S.testBit i <;> cases hB : (bs p n).testBit i <;> simp_all
theorem bs_cg {n : Nat} {p q : Nat → Prop} (h : ∀ i, i < n → (p i ↔ q i)) : bs p n = bs q n := bs_ext fun i => by
  rw [bs_bit]
  exact ⟨fun ⟨a, b⟩ => ⟨a, (h i a).mp b⟩, fun ⟨a, b⟩ => ⟨a, (h i a).mpr b⟩⟩
theorem tb {S t : Nat} : (S / 2 ^ t % 2 = 1) ↔ S.testBit t = true := by
  rw [Nat.testBit_eq_decide_div_mod_eq]; simp
theorem tb0 {S t : Nat} : (S / 2 ^ t % 2 = 0) ↔ S.testBit t = false := by
  rw [Nat.testBit_eq_decide_div_mod_eq]; simp
/-- words, titles, features, sizes, rows -/
abbrev CO : Type := Nat × Nat × (Nat → Nat → Nat) × (Nat → Nat) × (Nat → Nat → Nat)
def cw (c : CO) : Nat := c.1
def ct (c : CO) : Nat := c.2.1
def cf (c : CO) : Nat → Nat → Nat := c.2.2.1
def cz (c : CO) : Nat → Nat := c.2.2.2.1
def cr (c : CO) : Nat → Nat → Nat := c.2.2.2.2
def WFc (c : CO) : Prop := cw c ≤ 16 ∧ ct c ≤ 24 ∧ (∀ w, w < cw c → 1 ≤ cf c w 0 ∧ cf c w 0 ≤ 6 ∧ cf c w 1 ≤ 9 ∧ cf c w 2 ≤ 9) ∧ ∀ t, t < ct c → 1 ≤ cz c t ∧ cz c t ≤ 4 ∧ ∀ i, i < cz c t → cr c t i < cw c
/-- the class's stock holds c -/
def CoC (c : CO) (σ : Hp) : Prop := σ 1 3 = nI (cw c) ∧ σ 1 6 = nI (ct c) ∧ (∀ w, w < cw c → σ 2 w = nI (cf c w 0)) ∧ (∀ w, w < cw c → σ 3 w = nI (cf c w 1)) ∧ (∀ w, w < cw c → σ 4 w = nI (cf c w 2)) ∧ (∀ t, t < ct c → σ 6 t = nI (cz c t)) ∧ ∀ t, t < ct c → ∀ i, i < cz c t → σ 5 (4 * t + i) = nI (cr c t i)
/-- the model's row holds c -/
def CoM (c : CO) (σ : Hp) : Prop := σ 50 0 = nI (cw c) ∧ σ 50 1 = nI (ct c) ∧ (∀ w, w < cw c → ∀ f, f < 3 → σ 50 (10 + 3 * w + f) = nI (cf c w f)) ∧ (∀ t, t < ct c → σ 50 (58 + 6 * t + 0) = nI (cz c t)) ∧ ∀ t, t < ct c → ∀ i, i < cz c t → σ 50 (58 + 6 * t + (1 + i)) = nI (cr c t i)
theorem CoC.keep {c : CO} {σ σ' : Hp} (h : CoC c σ) (e : ∀ q j, 1 ≤ q → q ≤ 6 → σ' q j = σ q j) : CoC c σ' := by
  obtain ⟨h1, h2, h3, h4, h5, h6, h7⟩ := h
  exact ⟨by rw [e _ _ (by decide) (by decide)]; exact h1, by rw [e _ _ (by decide) (by decide)]; exact h2, fun w hw => by rw [e _ _ (by decide) (by decide)]; exact h3 w hw, fun w hw => by rw [e _ _ (by decide) (by decide)]; exact h4 w hw, fun w hw => by rw [e _ _ (by decide) (by decide)]; exact h5 w hw, fun w hw => by rw [e _ _ (by decide) (by decide)]; exact h6 w hw, fun w hw i hi => by rw [e _ _ (by decide) (by decide)]; exact h7 w hw i hi⟩
theorem CoM.keep {c : CO} {σ σ' : Hp} (h : CoM c σ) (e : ∀ j, σ' 50 j = σ 50 j) : CoM c σ' := by
  obtain ⟨h1, h2, h3, h4, h5⟩ := h
  exact ⟨by rw [e]; exact h1, by rw [e]; exact h2, fun w hw f hf => by rw [e]; exact h3 w hw f hf, fun w hw => by rw [e]; exact h4 w hw, fun w hw i hi => by rw [e]; exact h5 w hw i hi⟩
/-- what a sign of kind k at place i tells of title t -/
def told (c : CO) (k i t : Nat) : Nat :=
  if k = 0 then cz c t else if cz c t ≤ i then 0 else
  if k = 1 then cf c (cr c t i) 0 else if k = 2 then cf c (cr c t i) 1 + 1 else if k = 3 then cf c (cr c t i) 0 + 10 * cf c (cr c t i) 2
  else if k = 4 then (cf c (cr c t i) 1 + 1) / 3 else if k = 5 then (if cf c (cr c t i) 0 = 1 then 1 else 0) else cr c t i + 1
theorem told_le {c : CO} (h : WFc c) {k i t : Nat} (ht : t < ct c) : told c k i t ≤ 96 := by
  obtain ⟨h1, h2, h3, h4⟩ := h
  obtain ⟨a1, a2, a3⟩ := h4 t ht
  unfold told
  by_cases hk : k = 0
  · rw [if_pos hk]; omega
  rw [if_neg hk]
  by_cases hi : cz c t ≤ i
  · rw [if_pos hi]; omega
  rw [if_neg hi]
  have hw := a3 i (by omega)
  obtain ⟨b1, b2, b3, b4⟩ := h3 _ hw
  repeat' split
  all_goals omega
/-- the titles of which sign s tells what it does of t -/
noncomputable def sm (c : CO) (s t : Nat) : Nat := bs (fun o => told c (s / 4) (s % 4) o = told c (s / 4) (s % 4) t) (ct c)
theorem sm_lt {c : CO} (h : WFc c) (s t : Nat) : sm c s t < 16777216 := Nat.lt_of_lt_of_le (bs_lt _ _) (p24 h.2.1)
def hasW (c : CO) (t w : Nat) : Prop := ∃ i, i < cz c t ∧ cr c t i = w
/-- how many below n have p -/
noncomputable def cnt (p : Nat → Prop) : Nat → Nat
  | 0 => 0
  | n + 1 => @ite Nat (p n) (Classical.propDecidable _) (cnt p n + 1) (cnt p n)
theorem cnt_t {p : Nat → Prop} {n : Nat} (h : p n) : cnt p (n + 1) = cnt p n + 1 := if_pos h
theorem cnt_f {p : Nat → Prop} {n : Nat} (h : ¬ p n) : cnt p (n + 1) = cnt p n := if_neg h
theorem cnt_le (p : Nat → Prop) (n : Nat) : cnt p n ≤ n := by
  induction n with
  | zero => exact Nat.le_refl _
  | succ n ih =>
    by_cases h : p n
    · rw [cnt_t h]; omega
    · rw [cnt_f h]; omega
