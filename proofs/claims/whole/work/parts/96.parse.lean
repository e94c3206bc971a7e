/-! texts: what they say -/
abbrev PS : Type := CO × (Nat → Nat)
def numP (L : Tk) (lo n : Nat) : Prop := L.1 = 2 ∧ lo ≤ L.2.2.2 ∧ L.2.2.2 < n
def nx (T : Nat × (Nat → Nat)) (L : Tk) : Tk := tok T L.2.2.1
noncomputable def chP (T : Nat × (Nat → Nat)) (L : Tk) (i : Nat) : Tk ⊕ (Nat × Tk) := ci (nm T L i) (ci (numP (nx T L) 0 10) (.inr ((nx T L).2.2.2, nx T (nx T L))) (.inl (nx T L))) (.inr (0, L))
noncomputable def wordR (T : Nat × (Nat → Nat)) (s : PS) (L : Tk) : Tk ⊕ (PS × Tk) := ci (cw s.1 < 16) (ci (numP (nx T L) 1 7) (match chP T (nx T (nx T L)) 3 with
    | .inl K => .inl K
    | .inr y => match chP T y.2 4 with
      | .inl K => .inl K
      | .inr z => .inr ((addW s.1 (nx T L).2.2.2 y.1 z.1, s.2), z.2)) (.inl (nx T L))) (.inl L)
noncomputable def tlR (T : Nat × (Nat → Nat)) (t : Nat) : Nat → PS × Tk → Tk ⊕ (PS × Tk)
  | 0, x => .inr x
  | n + 1, x => ci (x.2.1 = 2) (ci (x.2.2.2.2 < cw x.1.1) (tlR T t n ((morT x.1.1 t x.2.2.2.2, x.1.2), nx T x.2)) (.inl x.2)) (.inr x)
noncomputable def titleR (T : Nat × (Nat → Nat)) (s : PS) (L : Tk) : Tk ⊕ (PS × Tk) := ci (ct s.1 < 24) (ci (numP (nx T L) 0 (cw s.1)) (tlR T (ct s.1) 3 ((addT s.1 (nx T L).2.2.2, fun b => s.2 b ||| 2 ^ ct s.1), nx T (nx T L))) (.inl (nx T L))) (.inl L)
def onlyK (kb : Nat → Nat) (t b : Nat) : Nat → Nat := fun a => if a = b then kb a ||| 2 ^ t else sd (kb a) (2 ^ t)
noncomputable def onlyR (T : Nat × (Nat → Nat)) (s : PS) (L : Tk) : Tk ⊕ (PS × Tk) := ci (numP (nx T L) 0 (ct s.1)) (ci (numP (nx T (nx T L)) 0 2) (.inr ((s.1, onlyK s.2 (nx T L).2.2.2 (nx T (nx T L)).2.2.2), nx T (nx T (nx T L)))) (.inl (nx T (nx T L)))) (.inl (nx T L))
noncomputable def itemR (T : Nat × (Nat → Nat)) (s : PS) (L : Tk) : Tk ⊕ (PS × Tk) := ci (nm T L 0) (wordR T s L) (ci (nm T L 1) (titleR T s L) (ci (nm T L 2) (onlyR T s L) (.inl L)))
noncomputable def textR (T : Nat × (Nat → Nat)) : Nat → Nat → PS × Tk → Tk ⊕ (Nat × PS)
  | 0, _, x => .inl x.2
  | n + 1, i, x => match itemR T x.1 x.2 with
    | .inl K => .inl K
    | .inr y => ci (y.2.1 = 0) (.inr (i, y.1)) (ci (y.2.1 = 3) (textR T n (i + 1) (y.1, nx T y.2)) (.inl y.2))
def WFp (s : PS) : Prop := WFc s.1 ∧ ∀ b, b < 2 → s.2 b < 2 ^ ct s.1
/-- a later token -/
def Nxt (T : Nat × (Nat → Nat)) (L K : Tk) : Prop := TkOk T K ∧ L.2.1 ≤ K.2.1
theorem Nxt.rf {T : Nat × (Nat → Nat)} {L : Tk} (h : TkOk T L) : Nxt T L L := ⟨h, Nat.le_refl _⟩
theorem Nxt.tr {T : Nat × (Nat → Nat)} {L K M : Tk} (h : Nxt T L K) (k : Nxt T K M) : Nxt T L M := ⟨k.1, Nat.le_trans h.2 k.2⟩
theorem nx_ok {T : Nat × (Nat → Nat)} {L : Tk} (h : TkOk T L) : Nxt T L (nx T L) := by
  obtain ⟨h1, h2⟩ := tok_ok (T := T) h.2.1
  exact ⟨h1, Nat.le_trans h.1 h2⟩
theorem nx2 {T : Nat × (Nat → Nat)} {L : Tk} (h : TkOk T L) : Nxt T L (nx T (nx T L)) := (nx_ok h).tr (nx_ok (nx_ok h).1)
theorem nx3 {T : Nat × (Nat → Nat)} {L : Tk} (h : TkOk T L) : Nxt T L (nx T (nx T (nx T L))) := (nx2 h).tr (nx_ok (nx2 h).1)
def okR (T : Nat × (Nat → Nat)) (L : Tk) (r : Tk ⊕ (PS × Tk)) : Prop := match r with
  | .inl K => Nxt T L K
  | .inr y => Nxt T L y.2 ∧ WFp y.1
theorem chP_ok {T : Nat × (Nat → Nat)} {L : Tk} {i : Nat} (h : TkOk T L) : (∀ K, chP T L i = .inl K → Nxt T L K) ∧ ∀ y, chP T L i = .inr y → Nxt T L y.2 ∧ y.1 ≤ 9 := by
  unfold chP
  by_cases h1 : nm T L i
  · rw [ci_t h1]
    by_cases h2 : numP (nx T L) 0 10
    · rw [ci_t h2]
      refine ⟨fun K e => (by cases e), fun y e => ?_⟩
      cases e
      exact ⟨nx2 h, Nat.le_of_lt_succ h2.2.2⟩
    · rw [ci_f h2]
      refine ⟨fun K e => ?_, fun y e => (by cases e)⟩
      cases e
      exact nx_ok h
  · rw [ci_f h1]
    refine ⟨fun K e => (by cases e), fun y e => ?_⟩
    cases e
    exact ⟨Nxt.rf h, by show (0 : Nat) ≤ 9; decide⟩
theorem wordR_ok {T : Nat × (Nat → Nat)} {s : PS} {L : Tk} (hs : WFp s) (h : TkOk T L) : okR T L (wordR T s L) := by
  unfold wordR
  by_cases h1 : cw s.1 < 16
  · rw [ci_t h1]
    by_cases h2 : numP (nx T L) 1 7
    · rw [ci_t h2]
      have hc := chP_ok (i := 3) (nx2 h).1
      cases e : chP T (nx T (nx T L)) 3 with
      | inl K => exact (nx2 h).tr (hc.1 K e)
      | inr y =>
        obtain ⟨y1, y2⟩ := hc.2 y e
        have hd := chP_ok (i := 4) y1.1
        simp only []
        cases e2 : chP T y.2 4 with
        | inl K => exact (nx2 h).tr (y1.tr (hd.1 K e2))
        | inr z =>
          obtain ⟨z1, z2⟩ := hd.2 z e2
          refine ⟨(nx2 h).tr (y1.tr z1), wf_addW hs.1 h1 ⟨h2.2.1, Nat.le_of_lt_succ h2.2.2⟩ y2 z2, fun b hb => hs.2 b hb⟩
    · rw [ci_f h2]; exact nx_ok h
  · rw [ci_f h1]; exact Nxt.rf h
theorem tlR_ok {T : Nat × (Nat → Nat)} {t : Nat} : ∀ n x, WFp x.1 → t < ct x.1.1 → cz x.1.1 t + n ≤ 4 → ∀ L, Nxt T L x.2 → okR T L (tlR T t n x) := by
  intro n
  induction n with
  | zero => intro x hs ht hz L hL; exact ⟨hL, hs⟩
  | succ n ih =>
    intro x hs ht hz L hL
    rw [tlR]
    by_cases h1 : x.2.1 = 2
    · rw [ci_t h1]
      by_cases h2 : x.2.2.2.2 < cw x.1.1
      · rw [ci_t h2]
        refine ih ((morT x.1.1 t x.2.2.2.2, x.1.2), nx T x.2) ⟨wf_morT hs.1 ht (by omega) h2, fun b hb => hs.2 b hb⟩ ht ?_ L (hL.tr (nx_ok hL.1))
        show cz (morT x.1.1 t x.2.2.2.2) t + n ≤ 4
        rw [cz_morTs]; omega
      · rw [ci_f h2]; exact hL
    · rw [ci_f h1]; exact ⟨hL, hs⟩
theorem kb_addT {c : CO} {kb : Nat → Nat} {w : Nat} (h : ∀ b, b < 2 → kb b < 2 ^ ct c) : ∀ b, b < 2 → (fun b => kb b ||| 2 ^ ct c) b < 2 ^ ct (addT c w) := fun b hb => by
  show kb b ||| 2 ^ ct c < 2 ^ (ct c + 1)
  exact Nat.or_lt_two_pow (Nat.lt_of_lt_of_le (h b hb) (Nat.pow_le_pow_right (by decide) (by omega))) (Nat.pow_lt_pow_right (by decide) (by omega))
theorem titleR_ok {T : Nat × (Nat → Nat)} {s : PS} {L : Tk} (hs : WFp s) (h : TkOk T L) : okR T L (titleR T s L) := by
  unfold titleR
  by_cases h1 : ct s.1 < 24
  · rw [ci_t h1]
    by_cases h2 : numP (nx T L) 0 (cw s.1)
    · rw [ci_t h2]
      refine tlR_ok 3 _ ⟨wf_addT hs.1 h1 h2.2.2, kb_addT hs.2⟩ ?_ ?_ L (nx2 h)
      · show ct s.1 < ct s.1 + 1; omega
      · show cz (addT s.1 (nx T L).2.2.2) (ct s.1) + 3 ≤ 4
        rw [cz_addTs]; decide
    · rw [ci_f h2]; exact nx_ok h
  · rw [ci_f h1]; exact Nxt.rf h
theorem onlyR_ok {T : Nat × (Nat → Nat)} {s : PS} {L : Tk} (hs : WFp s) (h : TkOk T L) : okR T L (onlyR T s L) := by
  unfold onlyR
  by_cases h1 : numP (nx T L) 0 (ct s.1)
  · rw [ci_t h1]
    by_cases h2 : numP (nx T (nx T L)) 0 2
    · rw [ci_t h2]
      refine ⟨nx3 h, hs.1, fun b hb => ?_⟩
      show (if b = (nx T (nx T L)).2.2.2 then s.2 b ||| 2 ^ (nx T L).2.2.2 else sd (s.2 b) (2 ^ (nx T L).2.2.2)) < 2 ^ ct s.1
      split
      · exact Nat.or_lt_two_pow (hs.2 b hb) (Nat.pow_lt_pow_right (by decide) h1.2.2)
      · exact sd_lt (hs.2 b hb)
    · rw [ci_f h2]; exact nx2 h
  · rw [ci_f h1]; exact nx_ok h
theorem itemR_ok {T : Nat × (Nat → Nat)} {s : PS} {L : Tk} (hs : WFp s) (h : TkOk T L) : okR T L (itemR T s L) := by
  unfold itemR
  by_cases h0 : nm T L 0
  · rw [ci_t h0]; exact wordR_ok hs h
  · rw [ci_f h0]
    by_cases h1 : nm T L 1
    · rw [ci_t h1]; exact titleR_ok hs h
    · rw [ci_f h1]
      by_cases h2 : nm T L 2
      · rw [ci_t h2]; exact onlyR_ok hs h
      · rw [ci_f h2]; exact Nxt.rf h
theorem itemR_end {T : Nat × (Nat → Nat)} {s : PS} {L : Tk} (h : L.1 = 0) : itemR T s L = .inl L := by
  have hn : ∀ i, ¬ nm T L i := fun i z => by have z1 := z.1; rw [h] at z1; exact absurd z1 (by decide)
  unfold itemR
  rw [ci_f (hn 0), ci_f (hn 1), ci_f (hn 2)]
noncomputable def txA (A : AA) (r : Tk ⊕ (Nat × PS)) : Int32 × AA := match r with
  | .inl K => (-1 - nI K.2.1, setT A (0, (aT A).2))
  | .inr y => (nI y.1, ((y.2.1, y.2.2, A.1.2.2), A.2.1, A.2.2.1, (0, (aT A).2), A.2.2.2.2))
noncomputable def o_text (A : AA) : Int32 × AA := txA A (textR (aT A) 121 1 ((sC (aS A), sK (aS A)), tok (aT A) 0))
theorem textR_ok {T : Nat × (Nat → Nat)} : ∀ n i x, WFp x.1 → TkOk T x.2 → (∀ K, textR T n i x = .inl K → TkOk T K) ∧ ∀ y, textR T n i x = .inr y → WFp y.2 ∧ y.1 < i + n := by
  intro n
  induction n with
  | zero =>
    intro i x hs hL
    refine ⟨fun K e => ?_, fun y e => (by cases e)⟩
    cases e; exact hL
  | succ n ih =>
    intro i x hs hL
    have h := itemR_ok (T := T) hs hL
    rw [textR]
    cases e : itemR T x.1 x.2 with
    | inl K =>
      rw [e] at h
      refine ⟨fun K' e' => ?_, fun y e' => (by cases e')⟩
      cases e'; exact h.1
    | inr y =>
      rw [e] at h
      obtain ⟨h1, h2⟩ := h
      simp only []
      by_cases c0 : y.2.1 = 0
      · rw [ci_t c0]
        refine ⟨fun K' e' => (by cases e'), fun y' e' => ?_⟩
        cases e'; exact ⟨h2, by show i < i + (n + 1); omega⟩
      · rw [ci_f c0]
        by_cases c3 : y.2.1 = 3
        · rw [ci_t c3]
          obtain ⟨q1, q2⟩ := ih (i + 1) (y.1, nx T y.2) h2 (nx_ok h1.1).1
          refine ⟨q1, fun y' e' => ?_⟩
          obtain ⟨r1, r2⟩ := q2 y' e'
          exact ⟨r1, by omega⟩
        · rw [ci_f c3]
          refine ⟨fun K' e' => ?_, fun y' e' => (by cases e')⟩
          cases e'; exact h1.1
