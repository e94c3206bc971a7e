/-! plain facts: bits, counts, sets as numbers -/
/-- how many of the bits 0 to n - 1 are set -/
def cB (x : Nat) : Nat → Nat
  | 0 => 0
  | n + 1 => cB x n + x / 2 ^ n % 2
def pc (x : Nat) : Nat := cB x 32
theorem land256 (a m : Nat) {r s : Nat} (hr : r < 256) (hs : s < 256) : (256 * a + r) &&& (256 * m + s) = 256 * (a &&& m) + (r &&& s) := by
  have hrs : r &&& s < 2 ^ 8 := Nat.and_lt_two_pow r hs
  apply Nat.eq_of_testBit_eq
  intro i
  rw [Nat.testBit_and, show 256 = 2 ^ 8 from rfl, Nat.testBit_two_pow_mul_add _ hr, Nat.testBit_two_pow_mul_add _ hs, Nat.testBit_two_pow_mul_add _ hrs]
  by_cases h : i < 8
  · simp [h]
  · simp [h]
def b1 (r : Nat) : Nat := r - (r / 2 &&& 0x55)
def b2 (r : Nat) : Nat := (r &&& 0x33) + (r / 4 &&& 0x33)
def b3 (r : Nat) : Nat := (r + r / 16) % 16
def p1 (m x : Nat) : Nat := x - (x / 2 &&& m)
def p2 (m x : Nat) : Nat := (x &&& m) + (x / 4 &&& m)
theorem p1_b (m a : Nat) {r : Nat} (hr : r < 256) : p1 (256 * m + 0x55) (256 * a + r) = 256 * p1 m a + b1 r := by
  unfold p1 b1
  have h1 : (256 * a + r) / 2 = 256 * (a / 2) + (128 * (a % 2) + r / 2) := by omega
  rw [h1, land256 _ _ (by omega) (by decide)]
  have h2 : ∀ (c : Fin 2) (r : Fin 256), (128 * c.val + r.val / 2) &&& 0x55 = r.val / 2 &&& 0x55 := by decide +kernel
  rw [h2 ⟨a % 2, by omega⟩ ⟨r, hr⟩]
  have h3 : a / 2 &&& m ≤ a / 2 := Nat.and_le_left
  have h4 : r / 2 &&& 0x55 ≤ r / 2 := Nat.and_le_left
  simp only [] at *
  omega
theorem p2_b (m a : Nat) {r : Nat} (hr : r < 256) : p2 (256 * m + 0x33) (256 * a + r) = 256 * p2 m a + b2 r := by
  unfold p2 b2
  have h1 : (256 * a + r) / 4 = 256 * (a / 4) + (64 * (a % 4) + r / 4) := by omega
  rw [h1, land256 a m hr (by decide), land256 (a / 4) m (by omega) (by decide)]
  have h2 : ∀ (c : Fin 4) (r : Fin 256), (64 * c.val + r.val / 4) &&& 0x33 = r.val / 4 &&& 0x33 := by decide +kernel
  rw [h2 ⟨a % 4, by omega⟩ ⟨r, hr⟩]
  simp only []
  omega
theorem b1_lt : ∀ r : Fin 256, b1 r.val < 256 := by decide +kernel
theorem b2_le : ∀ r : Fin 256, b2 (b1 r.val) ≤ 68 ∧ b2 (b1 r.val) % 16 ≤ 4 := by decide +kernel
theorem b3_c : ∀ r : Fin 256, b3 (b2 (b1 r.val)) = cB r.val 8 := by decide +kernel
theorem land15 (a m : Nat) {r s : Nat} (h : r + r / 16 + 16 * (a % 16) < 256) : (256 * a + r + (256 * a + r) / 16) &&& (256 * m + 15) = 256 * ((a + a / 16) &&& m) + b3 r := by
  have h1 : 256 * a + r + (256 * a + r) / 16 = 256 * (a + a / 16) + (r + r / 16 + 16 * (a % 16)) := by omega
  rw [h1, land256 _ _ h (by decide)]
  unfold b3
  have h2 : (r + r / 16 + 16 * (a % 16)) &&& 15 = (r + r / 16 + 16 * (a % 16)) % 16 := Nat.and_two_pow_sub_one_eq_mod _ 4
  rw [h2]
  omega
theorem cB_hi (a r n : Nat) (hr : r < 256) : cB (256 * a + r) (8 + n) = cB r 8 + cB a n := by
  induction n with
  | zero =>
    simp only [cB, Nat.add_zero]
    omega
  | succ n ih =>
    have h1 : (256 * a + r) / 2 ^ (8 + n) = a / 2 ^ n := by
      rw [Nat.pow_add, ← Nat.div_div_eq_div_mul]
      congr 1
      omega
    show cB (256 * a + r) (8 + n) + (256 * a + r) / 2 ^ (8 + n) % 2 = cB r 8 + (cB a n + a / 2 ^ n % 2)
    rw [ih, h1]
    omega
/-- the three masks, on four bytes -/
theorem swar {x : Nat} (hx : x < 4294967296) : ∃ q0 q1 q2 q3, q0 ≤ 8 ∧ q1 ≤ 8 ∧ q2 ≤ 8 ∧ q3 ≤ 8 ∧ pc x = q0 + q1 + q2 + q3 ∧
    (p2 858993459 (p1 1431655765 x) + p2 858993459 (p1 1431655765 x) / 16) &&& 252645135 = q0 + 256 * q1 + 65536 * q2 + 16777216 * q3 := by
  obtain ⟨r0, r1, r2, r3, h0, h1, h2, h3, rfl⟩ : ∃ r0 r1 r2 r3, r0 < 256 ∧ r1 < 256 ∧ r2 < 256 ∧ r3 < 256 ∧ x = 256 * (256 * (256 * (256 * 0 + r3) + r2) + r1) + r0 := ⟨x % 256, x / 256 % 256, x / 65536 % 256, x / 16777216, by omega, by omega, by omega, by omega, by omega⟩
  have c0 : ∀ {r}, r < 256 → cB r 8 ≤ 8 := fun {r} h => by simp only [cB]; omega
  refine ⟨cB r0 8, cB r1 8, cB r2 8, cB r3 8, c0 h0, c0 h1, c0 h2, c0 h3, ?_, ?_⟩
  · show cB _ (8 + (8 + (8 + (8 + 0)))) = _
    rw [cB_hi _ _ _ h0, cB_hi _ _ _ h1, cB_hi _ _ _ h2, cB_hi _ _ _ h3]
    simp only [cB]
    omega
  · rw [show (1431655765 : Nat) = 256 * (256 * (256 * (256 * 0 + 0x55) + 0x55) + 0x55) + 0x55 from rfl, p1_b _ _ h0, p1_b _ _ h1, p1_b _ _ h2, p1_b _ _ h3]
    rw [show (858993459 : Nat) = 256 * (256 * (256 * (256 * 0 + 0x33) + 0x33) + 0x33) + 0x33 from rfl, p2_b _ _ (b1_lt ⟨r0, h0⟩), p2_b _ _ (b1_lt ⟨r1, h1⟩), p2_b _ _ (b1_lt ⟨r2, h2⟩), p2_b _ _ (b1_lt ⟨r3, h3⟩)]
    have z1 : p2 0 (p1 0 0) = 0 := by decide
    rw [z1]
    obtain ⟨e0, f0⟩ := b2_le ⟨r0, h0⟩
    obtain ⟨e1, f1⟩ := b2_le ⟨r1, h1⟩
    obtain ⟨e2, f2⟩ := b2_le ⟨r2, h2⟩
    obtain ⟨e3, f3⟩ := b2_le ⟨r3, h3⟩
    have g0 := b3_c ⟨r0, h0⟩
    have g1 := b3_c ⟨r1, h1⟩
    have g2 := b3_c ⟨r2, h2⟩
    have g3 := b3_c ⟨r3, h3⟩
    simp only [] at e0 f0 e1 f1 e2 f2 e3 f3 g0 g1 g2 g3
    generalize b2 (b1 r0) = t0 at *
    generalize b2 (b1 r1) = t1 at *
    generalize b2 (b1 r2) = t2 at *
    generalize b2 (b1 r3) = t3 at *
    rw [show (252645135 : Nat) = 256 * (256 * (256 * (256 * 0 + 15) + 15) + 15) + 15 from rfl, land15 (s := 0) _ _ (by omega), land15 (s := 0) _ _ (by omega), land15 (s := 0) _ _ (by omega), land15 (s := 0) _ _ (by omega), g0, g1, g2, g3]
    simp only [Nat.and_zero]
    omega
theorem swarJ {i : Nat} {q0 q1 q2 q3 : Nat} (h0 : q0 ≤ 8) (h1 : q1 ≤ 8) (h2 : q2 ≤ 8) (h3 : q3 ≤ 8) (hi : i = q0 + 256 * q1 + 65536 * q2 + 16777216 * q3) : (i + i / 256 + (i + i / 256) / 65536) % 64 = q0 + q1 + q2 + q3 := by
  subst hi
  have e1 : (q0 + 256 * q1 + 65536 * q2 + 16777216 * q3) / 256 = q1 + 256 * q2 + 65536 * q3 := by omega
  rw [e1]
  have e2 : (q0 + 256 * q1 + 65536 * q2 + 16777216 * q3 + (q1 + 256 * q2 + 65536 * q3)) / 65536 = q2 + q3 + 256 * q3 := by omega
  rw [e2]
  omega
theorem swarM {i : Nat} {q0 q1 q2 q3 : Nat} (h0 : q0 ≤ 8) (h1 : q1 ≤ 8) (h2 : q2 ≤ 8) (h3 : q3 ≤ 8) (hi : i = q0 + 256 * q1 + 65536 * q2 + 16777216 * q3) : i * 16843009 % 4294967296 / 16777216 = q0 + q1 + q2 + q3 := by
  subst hi
  have e : (q0 + 256 * q1 + 65536 * q2 + 16777216 * q3) * 16843009 = 4294967296 * (q1 + q2 + q3 + 256 * (q2 + q3) + 65536 * q3) + (16777216 * (q0 + q1 + q2 + q3) + (65536 * (q0 + q1 + q2) + 256 * (q0 + q1) + q0)) := by omega
  rw [e, Nat.mul_add_mod, Nat.mod_eq_of_lt (by omega)]
  omega
