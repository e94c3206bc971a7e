/-! hats: all sets, as the model tries them -/
theorem cR_z {V : Nat} : ∀ n t, cR V n t = 0 → ∀ u, t ≤ u → u < t + n → V.testBit u = false := by
  intro n
  induction n with
  | zero => intro t _ u h1 h2; omega
  | succ n ih =>
    intro t h u h1 h2
    rw [cR] at h
    by_cases e : u = t
    · subst e
      exact tb0.mp (by omega)
    · exact ih (t + 1) (by omega) u (by omega) (by omega)
theorem lt_bit {S f u : Nat} (h : S < 2 ^ f) (hu : f ≤ u) : S.testBit u = false := Nat.testBit_lt_two_pow (Nat.lt_of_lt_of_le h (Nat.pow_le_pow_right (by decide) hu))
theorem cR_lt {S f : Nat} (h : S < 2 ^ f) : ∀ n t, f ≤ t → cR S n t = 0 := by
  intro n
  induction n with
  | zero => intro t _; rfl
  | succ n ih => intro t ht; rw [cR, tb0.mpr (lt_bit h ht), ih (t + 1) (by omega)]
def FuA (p : Nat → Prop) (N m S i V : Nat) : Prop := V < 2 ^ N ∧ (∀ t, t < i → V.testBit t = S.testBit t) ∧ (∀ t, i ≤ t → V.testBit t = true → p t) ∧ cR V (N - i) i = m
theorem FuA_0 {p : Nat → Prop} {N S i V : Nat} (hS : S < 2 ^ i) (h : FuA p N 0 S i V) : V = S := by
  obtain ⟨h1, h2, h3, h4⟩ := h
  apply eq_bits
  intro u
  by_cases l : u < i
  · rw [h2 u l]
  · rw [lt_bit hS (Nat.not_lt.mp l)]
    by_cases k : u < N
    · rw [cR_z _ _ h4 u (Nat.not_lt.mp l) (by omega)]
    · rw [lt_bit h1 (Nat.not_lt.mp k)]
theorem FuA_s0 {p : Nat → Prop} {N S i : Nat} (hS : S < 2 ^ i) (hN : S < 2 ^ N) : FuA p N 0 S i S := ⟨hN, fun _ _ => rfl, fun t ht hb => (by rw [lt_bit hS ht] at hb; cases hb), cR_lt hS _ _ (Nat.le_refl _)⟩
theorem FuA_t {p : Nat → Prop} {N m S i V : Nat} (hi : i < N) (hS : S < 2 ^ i) : (p i ∧ FuA p N m (S ||| 2 ^ i) (i + 1) V) ↔ (FuA p N (m + 1) S i V ∧ V.testBit i = true) := by
  have hSi := lt_bit hS (Nat.le_refl i)
  have e : ∀ t, t ≠ i → (S ||| 2 ^ i).testBit t = S.testBit t := fun t ht => by
    rw [Nat.testBit_or, Nat.testBit_two_pow]
    simp [Ne.symm ht]
  have ei : (S ||| 2 ^ i).testBit i = true := by rw [Nat.testBit_or, Nat.testBit_two_pow_self, Bool.or_true]
  have ec : cR V (N - i) i = V / 2 ^ i % 2 + cR V (N - (i + 1)) (i + 1) := by rw [show N - i = N - (i + 1) + 1 by omega, cR]
  constructor
  · rintro ⟨hp, h1, h2, h3, h4⟩
    have hb : V.testBit i = true := by rw [h2 i (by omega)]; exact ei
    refine ⟨⟨h1, fun t ht => ?_, fun t ht hbt => ?_, ?_⟩, hb⟩
    · rw [h2 t (by omega), e t (by omega)]
    · by_cases q : t = i
      · rw [q]; exact hp
      · exact h3 t (by omega) hbt
    · rw [ec, h4, bit_b hb]; omega
  · rintro ⟨⟨h1, h2, h3, h4⟩, hb⟩
    refine ⟨h3 i (Nat.le_refl _) hb, h1, fun t ht => ?_, fun t ht => h3 t (by omega), ?_⟩
    · by_cases q : t = i
      · rw [q, ei]; exact hb
      · rw [e t q]; exact h2 t (by omega)
    · rw [ec, bit_b hb] at h4; omega
theorem FuA_f {p : Nat → Prop} {N m S i V : Nat} (hi : i < N) (hS : S < 2 ^ i) : FuA p N m S (i + 1) V ↔ (FuA p N m S i V ∧ ¬ V.testBit i = true) := by
  have hSi := lt_bit hS (Nat.le_refl i)
  have ec : cR V (N - i) i = V / 2 ^ i % 2 + cR V (N - (i + 1)) (i + 1) := by rw [show N - i = N - (i + 1) + 1 by omega, cR]
  constructor
  · rintro ⟨h1, h2, h3, h4⟩
    have hb : ¬ V.testBit i = true := by rw [h2 i (by omega), hSi]; decide
    refine ⟨⟨h1, fun t ht => h2 t (by omega), fun t ht hbt => ?_, ?_⟩, hb⟩
    · by_cases q : t = i
      · subst q; exact absurd hbt hb
      · exact h3 t (by omega) hbt
    · rw [ec, bit_n hb]; omega
  · rintro ⟨⟨h1, h2, h3, h4⟩, hb⟩
    refine ⟨h1, fun t ht => ?_, fun t ht => h3 t (by omega), ?_⟩
    · by_cases q : t = i
      · rw [q, hSi]; simpa using hb
      · exact h2 t (by omega)
    · rw [ec, bit_n hb] at h4; omega
def Rb (w : Nat → Nat) (N : Nat) (b b' : Option (Nat × Nat)) (F : Nat → Prop) : Prop := (b' = b ∨ ∃ V, F V ∧ b' = some (V, sB w V N)) ∧ (∀ V, F V → ∃ q, b' = some q ∧ kk (sB w V N) V ≤ kk q.2 q.1) ∧ ∀ q, b = some q → ∃ q', b' = some q' ∧ kk q.2 q.1 ≤ kk q'.2 q'.1
theorem Rb.no {w : Nat → Nat} {N : Nat} {b : Option (Nat × Nat)} {F : Nat → Prop} (h : ∀ V, ¬ F V) : Rb w N b b F := ⟨Or.inl rfl, fun V hV => absurd hV (h V), fun q hq => ⟨q, hq, Nat.le_refl _⟩⟩
theorem Rb.cg {w : Nat → Nat} {N : Nat} {b b' : Option (Nat × Nat)} {F G : Nat → Prop} (h : Rb w N b b' F) (e : ∀ V, F V ↔ G V) : Rb w N b b' G := by
  obtain ⟨h1, h2, h3⟩ := h
  refine ⟨?_, fun V hV => h2 V ((e V).mpr hV), h3⟩
  rcases h1 with h | ⟨V, a, b⟩
  · exact Or.inl h
  · exact Or.inr ⟨V, (e V).mp a, b⟩
theorem Rb.tr {w : Nat → Nat} {N : Nat} {b b1 b2 : Option (Nat × Nat)} {F G : Nat → Prop} (h : Rb w N b b1 F) (k : Rb w N b1 b2 G) : Rb w N b b2 (fun V => F V ∨ G V) := by
  obtain ⟨h1, h2, h3⟩ := h
  obtain ⟨k1, k2, k3⟩ := k
  refine ⟨?_, fun V hV => ?_, fun q hq => ?_⟩
  · rcases k1 with k | ⟨V, a, b⟩
    · rcases h1 with h | ⟨V, a, b⟩
      · exact Or.inl (k.trans h)
      · exact Or.inr ⟨V, Or.inl a, k.trans b⟩
    · exact Or.inr ⟨V, Or.inr a, b⟩
  · rcases hV with hV | hV
    · obtain ⟨q, a, b⟩ := h2 V hV
      obtain ⟨q', c, d⟩ := k3 q a
      exact ⟨q', c, Nat.le_trans b d⟩
    · exact k2 V hV
  · obtain ⟨q', a, b⟩ := h3 q hq
    obtain ⟨q'', c, d⟩ := k3 q' a
    exact ⟨q'', c, Nat.le_trans b d⟩
theorem cR_sB {V : Nat} : ∀ n, cR V n 0 = sB (fun _ => 1) V n := by
  intro n
  rw [cR_cB]
  induction n with
  | zero => rfl
  | succ n ih =>
    have e : sB (fun _ => 1) V (n + 1) = sB (fun _ => 1) V n + (if V.testBit n then 1 else 0) := rfl
    rw [cB, ih, e]
    cases hb : V.testBit n with
    | true => rw [bit_b hb]; rfl
    | false => rw [bit_n (by rw [hb]; decide)]; rfl
theorem Fu_A {p : Nat → Prop} {N n V : Nat} : FuA p N n 0 0 V ↔ Fu p N n V := by
  unfold FuA Fu
  rw [Nat.sub_zero, cR_sB]
  exact ⟨fun ⟨a, _, b, d⟩ => ⟨a, fun t => b t (Nat.zero_le _), d⟩, fun ⟨a, b, d⟩ => ⟨a, fun t ht => by omega, fun t _ => b t, d⟩⟩
theorem sub_ex {p : Nat → Prop} {N n : Nat} : ∀ d U, Fu p N (n + d) U → ∃ T, Fu p N n T := by
  intro d
  induction d with
  | zero => intro U h; exact ⟨U, h⟩
  | succ d ih =>
    intro U ⟨h1, h2, h3⟩
    obtain ⟨x, hx, hb⟩ := bit_one (T := U) (n := N) (by omega)
    have r := sB_rm (f := fun _ => 1) hb N
    rw [if_pos hx] at r
    exact ih (sd U (2 ^ x)) ⟨Nat.lt_of_le_of_lt (sd_le _ _) h1, fun t ht => h2 t (by rw [sd_bit, Bool.and_eq_true] at ht; exact ht.1), by omega⟩
/-- what the model finds is what the greatest one by one are -/
theorem hat_eq {w : Nat → Nat} {N n K : Nat} {b' : Option (Nat × Nat)} (hN : N ≤ 24) (hK : K < 2 ^ N) (h : Rb w N none b' (FuA (fun t => K.testBit t = true) N n 0 0)) : (pc K < n → b' = none) ∧ (n ≤ pc K → ∃ s, b' = some (grd (fun t => K.testBit t = true) w N n 0, s)) := by
  have hpc : pc K = sB (fun _ => 1) K N := by rw [pc_cR hK (by omega), cR_sB]
  obtain ⟨h1, h2, h3⟩ := h
  constructor
  · intro hlt
    rcases h1 with h | ⟨V, hV, -⟩
    · exact h
    · exfalso
      obtain ⟨a1, a2, a3⟩ := Fu_A.mp hV
      have := smn_mono (f := fun t => if V.testBit t then 1 else 0) (g := fun t => if K.testBit t then 1 else 0) N (fun t _ => by
        cases hb : V.testBit t with
        | true => rw [a2 t hb]; exact Nat.le_refl _
        | false => exact Nat.zero_le _)
      have e1 : smn (fun t => if V.testBit t then 1 else 0) N = n := a3
      have e2 : smn (fun t => if K.testBit t then 1 else 0) N = pc K := hpc.symm
      omega
  · intro hle
    have hKF : Fu (fun t => K.testBit t = true) N (n + (pc K - n)) K := ⟨hK, fun t ht => ht, by rw [← hpc]; omega⟩
    obtain ⟨T, hT⟩ := sub_ex _ K hKF
    have z0 : sB (fun _ => 1) 0 N = 0 := by rw [← cR_sB]; exact cR_lt (f := 0) (by decide) _ _ (Nat.le_refl _)
    have zk : sB (kap w) 0 N = 0 := by
      have k : ∀ m, sB (kap w) 0 m = 0 := by
        intro m
        induction m with
        | zero => rfl
        | succ m ih =>
          have e : sB (kap w) 0 (m + 1) = sB (kap w) 0 m + (if (0 : Nat).testBit m then kap w m else 0) := rfl
          rw [e, ih, Nat.zero_testBit]; rfl
      exact k N
    have hbest : ∀ U, Fu (fun t => K.testBit t = true) N n U → Fu (fun t => K.testBit t = true) N n (grd (fun t => K.testBit t = true) w N n 0) ∧ sB (kap w) U N ≤ sB (kap w) (grd (fun t => K.testBit t = true) w N n 0) N := by
      intro U hU
      obtain ⟨g1, g2, g3, g4⟩ := grd_best (w := w) hN n 0 (Nat.pow_pos (by decide)) U hU.1 (fun t ht => ⟨Nat.zero_testBit t, hU.2.1 t ht⟩) hU.2.2
      refine ⟨⟨g1, fun t ht => ?_, by rw [g3, z0, Nat.zero_add]⟩, by omega⟩
      rcases g2 t ht with h | h
      · rw [Nat.zero_testBit] at h; cases h
      · exact h
    have hG := (hbest T hT).1
    obtain ⟨q, hq, hle2⟩ := h2 _ (Fu_A.mpr hG)
    rcases h1 with h | ⟨V, hV, hb⟩
    · rw [h] at hq; exact (Option.some_ne_none _ hq.symm).elim
    · have hVF := Fu_A.mp hV
      rw [hb] at hq
      cases hq
      have hle3 := kk_le hN hVF hG (hbest V hVF).2
      have hv : V < 16777216 := Nat.lt_of_lt_of_le hVF.1 (p24 hN)
      have hg : grd (fun t => K.testBit t = true) w N n 0 < 16777216 := Nat.lt_of_lt_of_le hG.1 (p24 hN)
      have := kk_inj hg hv (Nat.le_antisymm hle2 hle3)
      exact ⟨sB w V N, by rw [hb, this.1]⟩
