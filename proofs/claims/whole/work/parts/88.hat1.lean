/-! hats: the greatest one by one is the best of all sets -/
/-- the sum of f over the bits of U below n -/
def sB (f : Nat → Nat) (U n : Nat) : Nat := smn (fun t => if U.testBit t then f t else 0) n
theorem smn_add {f g h : Nat → Nat} : ∀ n, (∀ t, t < n → f t + g t = h t) → smn f n + smn g n = smn h n := by
  intro n
  induction n with
  | zero => intro _; rfl
  | succ n ih =>
    intro e
    have h1 := ih (fun t ht => e t (by omega))
    have h2 := e n (by omega)
    rw [smn, smn, smn]; omega
theorem smn_mono {f g : Nat → Nat} : ∀ n, (∀ t, t < n → f t ≤ g t) → smn f n ≤ smn g n := by
  intro n
  induction n with
  | zero => intro _; exact Nat.le_refl _
  | succ n ih =>
    intro e
    have h1 := ih (fun t ht => e t (by omega))
    have h2 := e n (by omega)
    rw [smn, smn]; omega
theorem sB_rm {f : Nat → Nat} {U g : Nat} (hg : U.testBit g = true) : ∀ n, sB f U n = sB f (sd U (2 ^ g)) n + (if g < n then f g else 0) := by
  intro n
  induction n with
  | zero => rfl
  | succ n ih =>
    have e : ∀ V, sB f V (n + 1) = sB f V n + (if V.testBit n then f n else 0) := fun V => rfl
    rw [e, e, ih]
    by_cases q : n = g
    · subst q
      rw [if_pos hg, if_neg (by omega), if_pos (by omega : n < n + 1), if_neg (by rw [sd_bit, Nat.testBit_two_pow_self]; simp)]
      all_goals omega
    · have h1 : (sd U (2 ^ g)).testBit n = U.testBit n := by
        rw [sd_bit, Nat.testBit_two_pow]
        simp [Ne.symm q]
      rw [h1]
      by_cases l : g < n
      · rw [if_pos l, if_pos (by omega : g < n + 1)]; omega
      · rw [if_neg l, if_neg (by omega : ¬ g < n + 1)]; omega
theorem sB_or {f : Nat → Nat} {U g n : Nat} (hg : U.testBit g = false) (hn : g < n) : sB f (U ||| 2 ^ g) n = sB f U n + f g := by
  have h := sB_rm (f := f) (U := U ||| 2 ^ g) (g := g) (by rw [Nat.testBit_or, Nat.testBit_two_pow_self, Bool.or_true]) n
  rw [if_pos hn] at h
  have e : sd (U ||| 2 ^ g) (2 ^ g) = U := by
    apply eq_bits
    intro u
    rw [sd_bit, Nat.testBit_or, Nat.testBit_two_pow]
    by_cases q : g = u
    · subst q; simp [hg]
    · simp [q]
  rw [e] at h
  exact h
theorem sB_num {U n : Nat} (h : U < 2 ^ n) : sB (fun t => 2 ^ t) U n = U := by
  have k : ∀ m, sB (fun t => 2 ^ t) U m = U % 2 ^ m := by
    intro m
    induction m with
    | zero => show 0 = U % 1; omega
    | succ m ih =>
      have e : sB (fun t => 2 ^ t) U (m + 1) = sB (fun t => 2 ^ t) U m + (if U.testBit m then 2 ^ m else 0) := rfl
      rw [e, ih]
      rw [Nat.mod_pow_succ]
      cases hb : U.testBit m with
      | true => rw [bit_b hb]; simp
      | false => rw [bit_n (by rw [hb]; decide)]; simp
  rw [k n, Nat.mod_eq_of_lt h]
def kap (w : Nat → Nat) (t : Nat) : Nat := w t * 16777216 + (16777216 - 2 ^ t)
def kk (s S : Nat) : Nat := s * 16777216 + (16777215 - S)
theorem kap_sum {w : Nat → Nat} {U n : Nat} (hn : n ≤ 24) (h : U < 2 ^ n) : sB (kap w) U n + U = sB w U n * 16777216 + sB (fun _ => 1) U n * 16777216 := by
  have k : ∀ m, m ≤ 24 → sB (kap w) U m + sB (fun t => 2 ^ t) U m = sB w U m * 16777216 + sB (fun _ => 1) U m * 16777216 := by
    intro m
    induction m with
    | zero =>
      intro _
      have e : ∀ f : Nat → Nat, sB f U 0 = 0 := fun f => rfl
      rw [e, e, e, e, Nat.zero_mul]
    | succ m ih =>
      intro hm
      have e : ∀ f : Nat → Nat, sB f U (m + 1) = sB f U m + (if U.testBit m then f m else 0) := fun f => rfl
      have h1 := ih (by omega)
      have hp : 2 ^ m ≤ 16777216 := p24 (by omega)
      rw [e, e, e, e]
      cases hb : U.testBit m
      · simp only [Bool.false_eq_true, if_false]; omega
      · simp only [if_true]
        have hk : kap w m = w m * 16777216 + (16777216 - 2 ^ m) := rfl
        rw [hk]
        omega
  have h1 := k n hn
  rw [sB_num h] at h1
  exact h1
/-- n of those with p, below N -/
def Fu (p : Nat → Prop) (N n V : Nat) : Prop := V < 2 ^ N ∧ (∀ t, V.testBit t = true → p t) ∧ sB (fun _ => 1) V N = n
theorem kk_le {w : Nat → Nat} {p : Nat → Prop} {N n U V : Nat} (hN : N ≤ 24) (hU : Fu p N n U) (hV : Fu p N n V) (h : sB (kap w) U N ≤ sB (kap w) V N) : kk (sB w U N) U ≤ kk (sB w V N) V := by
  have h1 := kap_sum (w := w) hN hU.1
  have h2 := kap_sum (w := w) hN hV.1
  have u24 : U < 16777216 := Nat.lt_of_lt_of_le hU.1 (p24 hN)
  have v24 : V < 16777216 := Nat.lt_of_lt_of_le hV.1 (p24 hN)
  rw [hU.2.2] at h1
  rw [hV.2.2] at h2
  unfold kk
  omega
theorem kk_inj {s S s' S' : Nat} (h1 : S < 16777216) (h2 : S' < 16777216) (h : kk s S = kk s' S') : S = S' ∧ s = s' := by
  unfold kk at h
  omega
theorem mx_max {p : Nat → Prop} {v : Nat → Nat} : ∀ n q, mx p v n = some q → (∀ t, t < n → p t → v t ≤ q.2) ∧ ∀ t, t < q.1 → p t → v t < q.2 := by
  intro n
  induction n with
  | zero => intro q h; exact (Option.some_ne_none _ h.symm).elim
  | succ n ih =>
    intro q h
    by_cases hp : p n
    · cases hm : mx p v n with
      | none =>
        rw [mx_t0 hm hp] at h
        cases h
        have hno := mx_none n hm
        refine ⟨fun t ht hpt => ?_, fun t ht hpt => absurd hpt (hno t ht)⟩
        by_cases e : t = n
        · rw [e]; exact Nat.le_refl _
        · exact absurd hpt (hno t (by omega))
      | some r =>
        obtain ⟨i1, i2⟩ := ih r hm
        by_cases hl : r.2 < v n
        · rw [mx_t1 hm hp hl] at h
          cases h
          refine ⟨fun t ht hpt => ?_, fun t ht hpt => ?_⟩
          · by_cases e : t = n
            · rw [e]; exact Nat.le_refl _
            · have := i1 t (by omega) hpt
              show v t ≤ v n
              omega
          · have := i1 t ht hpt
            show v t < v n
            omega
        · rw [mx_f1 hm hl] at h
          cases h
          refine ⟨fun t ht hpt => ?_, i2⟩
          by_cases e : t = n
          · rw [e]; omega
          · exact i1 t (by omega) hpt
    · rw [mx_f0 hp] at h
      obtain ⟨i1, i2⟩ := ih q h
      refine ⟨fun t ht hpt => ?_, i2⟩
      by_cases e : t = n
      · subst e; exact absurd hpt hp
      · exact i1 t (by omega) hpt
theorem kap_mx {p : Nat → Prop} {w : Nat → Nat} {N : Nat} (hN : N ≤ 24) {q : Nat × Nat} (h : mx p w N = some q) {t : Nat} (ht : t < N) (hp : p t) : kap w t ≤ kap w q.1 := by
  obtain ⟨i1, i2⟩ := mx_max N q h
  obtain ⟨q1, -, q2⟩ := mx_ok N q h
  have h1 := i1 t ht hp
  have pt : 0 < 2 ^ t := Nat.pow_pos (by decide)
  have pq : 2 ^ q.1 ≤ 16777216 := p24 (by omega)
  unfold kap
  rw [q2] at h1
  by_cases e : w t = w q.1
  · have hge : q.1 ≤ t := Nat.not_lt.mp (fun z => by
      have := i2 t z hp
      omega)
    have := Nat.pow_le_pow_right (n := 2) (by decide) hge
    rw [e]; omega
  · omega
/-- those of p that are not in A -/
def pN (p : Nat → Prop) (A t : Nat) : Prop := A.testBit t = false ∧ p t
noncomputable def grd (p : Nat → Prop) (w : Nat → Nat) (N : Nat) : Nat → Nat → Nat
  | 0, A => A
  | m + 1, A => match mx (pN p A) w N with
    | none => grd p w N m A
    | some q => grd p w N m (A ||| 2 ^ q.1)
theorem grd_s {p : Nat → Prop} {w : Nat → Nat} {N m A : Nat} {q : Nat × Nat} (h : mx (pN p A) w N = some q) : grd p w N (m + 1) A = grd p w N m (A ||| 2 ^ q.1) := by
  rw [grd, h]
theorem bit_one {T n : Nat} (h : 0 < sB (fun _ => 1) T n) : ∃ x, x < n ∧ T.testBit x = true := by
  induction n with
  | zero => exact absurd h (Nat.lt_irrefl 0)
  | succ n ih =>
    have e : sB (fun _ => 1) T (n + 1) = sB (fun _ => 1) T n + (if T.testBit n then 1 else 0) := rfl
    rw [e] at h
    cases hb : T.testBit n with
    | true => exact ⟨n, by omega, hb⟩
    | false =>
      rw [hb] at h
      obtain ⟨x, h1, h2⟩ := ih (by simpa using h)
      exact ⟨x, by omega, h2⟩
theorem or_bit {A g u : Nat} : (A ||| 2 ^ g).testBit u = true ↔ (A.testBit u = true ∨ u = g) := by
  rw [Nat.testBit_or, Bool.or_eq_true, pow_bit]
/-- the greatest one by one: from A, m more, no m of the others are worth more -/
theorem grd_best {p : Nat → Prop} {w : Nat → Nat} {N : Nat} (hN : N ≤ 24) : ∀ m A, A < 2 ^ N → (∀ T, T < 2 ^ N → (∀ t, T.testBit t = true → pN p A t) → sB (fun _ => 1) T N = m → (grd p w N m A < 2 ^ N ∧ (∀ t, (grd p w N m A).testBit t = true → A.testBit t = true ∨ p t) ∧ sB (fun _ => 1) (grd p w N m A) N = sB (fun _ => 1) A N + m ∧ sB (kap w) A N + sB (kap w) T N ≤ sB (kap w) (grd p w N m A) N)) := by
  intro m
  induction m with
  | zero =>
    intro A hA T hT hb hc
    refine ⟨hA, fun t h => Or.inl h, rfl, ?_⟩
    have h0 : sB (kap w) T N = 0 := by
      have k : ∀ n, sB (fun _ => 1) T n = 0 → sB (kap w) T n = 0 := by
        intro n
        induction n with
        | zero => intro _; rfl
        | succ n ih =>
          intro h
          have e : ∀ f : Nat → Nat, sB f T (n + 1) = sB f T n + (if T.testBit n then f n else 0) := fun f => rfl
          rw [e] at h ⊢
          cases hq : T.testBit n with
          | true => rw [hq] at h; simp at h
          | false => rw [hq] at h; rw [ih (by simpa using h)]; simp
      exact k N hc
    rw [h0]
    exact Nat.le_refl _
  | succ m ih =>
    intro A hA T hT hb hc
    obtain ⟨x0, hx0, hx1⟩ := bit_one (T := T) (n := N) (by omega)
    obtain ⟨q, hq⟩ := mx_ex (p := pN p A) (v := w) hx0 (hb x0 hx1)
    obtain ⟨g1, g2, g3⟩ := mx_ok N q hq
    rw [grd_s hq]
    have hA2 : A ||| 2 ^ q.1 < 2 ^ N := Nat.or_lt_two_pow hA (Nat.pow_lt_pow_right (by decide) g1)
    have c1 := sB_or (f := fun _ => 1) (U := A) g2.1 g1
    have c2 := sB_or (f := kap w) (U := A) g2.1 g1
    obtain ⟨x, hx, hxT, hxg⟩ : ∃ x, x < N ∧ T.testBit x = true ∧ (x = q.1 ∨ T.testBit q.1 = false) := by
      cases hg : T.testBit q.1 with
      | true => exact ⟨q.1, g1, hg, Or.inl rfl⟩
      | false => exact ⟨x0, hx0, hx1, Or.inr rfl⟩
    have r1 := sB_rm (f := fun _ => 1) hxT N
    have r2 := sB_rm (f := kap w) hxT N
    rw [if_pos hx] at r1 r2
    have hk := kap_mx hN hq hx (hb x hxT)
    have hI := ih (A ||| 2 ^ q.1) hA2 (sd T (2 ^ x)) (Nat.lt_of_le_of_lt (sd_le _ _) hT) (fun t ht => by
      rw [sd_bit, Bool.and_eq_true, Bool.not_eq_true'] at ht
      obtain ⟨t1, t2⟩ := ht
      obtain ⟨b1, b2⟩ := hb t t1
      refine ⟨?_, b2⟩
      have ntg : t ≠ q.1 := fun e => by
        subst e
        rcases hxg with h | h
        · rw [h, Nat.testBit_two_pow_self] at t2; cases t2
        · rw [h] at t1; cases t1
      rw [Nat.testBit_or, b1, Nat.testBit_two_pow]
      simp [Ne.symm ntg]) (by omega)
    obtain ⟨i1, i2, i3, i4⟩ := hI
    refine ⟨i1, fun t ht => ?_, by omega, by omega⟩
    rcases i2 t ht with h | h
    · rcases or_bit.mp h with h2 | h2
      · exact Or.inl h2
      · rw [h2]; exact Or.inr g2.2
    · exact Or.inr h
