/-! what an operation leaves is again in order -/
theorem wf_ci {p : Prop} {a b : Int32 × AA} (h1 : p → WF a.2) (h2 : ¬ p → WF b.2) : WF (ci p a b).2 := by
  by_cases hp : p
  · rw [ci_t hp]; exact h1 hp
  · rw [ci_f hp]; exact h2 hp
theorem wf_fin {A : AA} {i : Nat} (h : WF A) : WF (fin A i).2 := h
theorem pow_mn {a m n : Nat} (h : a < 2 ^ m) (hk : m ≤ n) : a < 2 ^ n := Nat.lt_of_lt_of_le h (Nat.pow_le_pow_right (by decide) hk)
theorem wf_setC {A : AA} {c : CO} (h : WF A) (hc : WFc c) (hk : ct (sC (aS A)) ≤ ct c) : WF (setC A c) := ⟨⟨hc, fun b hb => pow_mn (h.1.2.1 b hb) hk, fun x hx => by
  obtain ⟨a1, a2, a3, a4⟩ := h.1.2.2.1 x hx
  exact ⟨Nat.lt_of_lt_of_le a1 hk, a2, a3, pow_mn a4 hk⟩, h.1.2.2.2⟩, h.2⟩
theorem wf_setK {A : AA} {kb : Nat → Nat} (h : WF A) (hk : ∀ b, b < 2 → kb b < 2 ^ ct (sC (aS A))) : WF (setK A kb) := ⟨⟨h.1.1, hk, h.1.2.2.1, h.1.2.2.2⟩, h.2⟩
theorem wf_setS {A : AA} {x : Option (Nat × Nat × Nat × Nat × Nat)} (h : WF A) (hx : ∀ y, x = some y → y.1 < ct (sC (aS A)) ∧ y.2.1 < 2 ∧ y.2.2.1 ≤ 60 ∧ y.2.2.2.2 < 2 ^ ct (sC (aS A))) : WF (setS A x) := ⟨⟨h.1.1, h.1.2.1, hx, h.1.2.2.2⟩, h.2⟩
theorem wf_setQ {A : AA} {p : Nat → Int32} (h : WF A) (hp : ∀ i, i < 10 → p i = -1 ∨ lt' (p i) 28) : WF (setQ A p) := ⟨⟨h.1.1, h.1.2.1, h.1.2.2.1, hp⟩, h.2⟩
theorem wf_setZS {A : AA} {f : Nat → Int32} {z : Int32} (h : WF A) : WF (setZS A f z) := ⟨⟨h.1.1, h.1.2.1, h.1.2.2.1, h.1.2.2.2⟩, h.2⟩
theorem wf_setT {A : AA} {x : Nat × (Nat → Nat)} (h : WF A) (hx : x.1 ≤ 120 ∧ ∀ k, k < x.1 → x.2 k < 256) : WF (setT A x) := ⟨h.1, h.2.1, hx, h.2.2.2⟩
theorem wf_setKp {A : AA} {x : Option SA} (h : WF A) (hx : ∀ k, x = some k → WFs k) : WF (setKp A x) := ⟨h.1, hx, h.2.2⟩
theorem wf_setH {A : AA} {s : Nat} {v : Nat × Nat × (Nat → Int32)} (h : WF A) (hv : v.2.1 ≤ 40 ∧ (v.1 = 0 ∨ v.1 = 8 ∨ v.1 = 16 ∨ v.1 = 32)) : WF (setH A s v) := ⟨h.1, h.2.1, h.2.2.1, fun t ht => by
  by_cases e : t = s
  · rw [show aH (setH A s v) t = v from if_pos e]; exact hv
  · rw [show aH (setH A s v) t = aH A t from if_neg e]; exact h.2.2.2 t ht⟩
theorem rg_ix {x : Int32} {lo hi : Nat} (h : rg x lo hi) (hh : hi < 2147483648) : lo ≤ ix x ∧ ix x ≤ hi := by
  obtain ⟨j, h1, h2, rfl⟩ := h
  rw [ix_n (by omega)]; exact ⟨h1, h2⟩
theorem lt_ix {x : Int32} {n : Nat} (h : lt' x n) (hn : n ≤ 2147483648) : ix x < n := by
  obtain ⟨j, h1, rfl⟩ := h
  rw [ix_n (by omega)]; exact h1
theorem ftr_ix {f v : Int32} (h : ftr f v) : (ix f = 0 ∧ 1 ≤ ix v ∧ ix v ≤ 6) ∨ ((ix f = 1 ∨ ix f = 2) ∧ ix v ≤ 9) := by
  rcases h with ⟨rfl, h⟩ | ⟨h1, h2⟩
  · exact Or.inl ⟨ix_n (by decide), rg_ix h (by decide)⟩
  · obtain ⟨a, b⟩ := rg_ix h1 (by decide)
    have c := lt_ix h2 (by decide)
    exact Or.inr ⟨by omega, by omega⟩
theorem wf_cw {A : AA} (h : WF A) : cw (sC (aS A)) ≤ 2147483648 := Nat.le_trans h.1.1.1 (by decide)
theorem wf_ct {A : AA} (h : WF A) : ct (sC (aS A)) ≤ 2147483648 := Nat.le_trans h.1.1.2.1 (by decide)
theorem wf_word {A : AA} (hW : WF A) (x y z : Int32) : WF (o_word A x y z).2 := by
  unfold o_word
  refine wf_ci (fun h1 => wf_ci (fun h2 => ?_) (fun _ => hW)) (fun _ => hW)
  have a := ftr_ix h1.1
  have b := ftr_ix h1.2.1
  have c := ftr_ix h1.2.2
  rw [ix_n (by decide)] at a b c
  exact wf_setC hW (wf_addW hW.1.1 h2 (by omega) (by omega) (by omega)) (Nat.le_refl _)
theorem wf_change {A : AA} (hW : WF A) (x y z : Int32) : WF (o_change A x y z).2 := by
  unfold o_change
  exact wf_ci (fun h1 => wf_setC hW (wf_chgW hW.1.1 (ftr_ix h1.2)) (Nat.le_refl _)) (fun _ => hW)
theorem wf_title {A : AA} (hW : WF A) (x : Int32) : WF (o_title A x).2 := by
  unfold o_title
  refine wf_ci (fun h1 => wf_ci (fun h2 => ?_) (fun _ => hW)) (fun _ => hW)
  exact wf_setK (wf_setC hW (wf_addT hW.1.1 h2 (lt_ix h1 (wf_cw hW))) (Nat.le_succ _)) (kb_addT hW.1.2.1)
theorem wf_more {A : AA} (hW : WF A) (x y : Int32) : WF (o_more A x y).2 := by
  unfold o_more
  refine wf_ci (fun h1 => wf_ci (fun h2 => ?_) (fun _ => hW)) (fun _ => hW)
  exact wf_setC hW (wf_morT hW.1.1 (lt_ix h1.1 (wf_ct hW)) h2 (lt_ix h1.2 (wf_cw hW))) (Nat.le_refl _)
theorem wf_know {A : AA} (hW : WF A) (x y : Int32) (v : Bool) : WF (o_know A x y v).2 := by
  unfold o_know
  refine wf_ci (fun h1 => wf_setK hW (fun b hb => ?_)) (fun _ => hW)
  have hk := hW.1.2.1 b hb
  show (if b = ix y then (if v then sK (aS A) b ||| 2 ^ ix x else sd (sK (aS A) b) (2 ^ ix x)) else sK (aS A) b) < 2 ^ ct (sC (aS A))
  split
  · split
    · exact Nat.or_lt_two_pow hk (Nat.pow_lt_pow_right (by decide) (lt_ix h1.1 (wf_ct hW)))
    · exact sd_lt hk
  · exact hk
theorem wf_slip {A : AA} (hW : WF A) (x y : Int32) : WF (o_slip A x y).2 := by
  unfold o_slip
  refine wf_ci (fun h1 => wf_ci (fun h2 => wf_setS hW (fun z hz => ?_)) (fun _ => hW)) (fun _ => hW)
  cases hz
  have hy := lt_ix h1.2 (by decide)
  exact ⟨lt_ix h1.1 (wf_ct hW), hy, Nat.zero_le _, hW.1.2.1 _ hy⟩
theorem wf_shout {A : AA} (hW : WF A) (x : Int32) : WF (o_shout A x).2 := by
  unfold o_shout
  refine wf_ci (fun h1 => ?_) (fun _ => hW)
  cases e : sL (aS A) with
  | none => exact wf_fin hW
  | some y =>
    obtain ⟨a1, a2, a3, a4⟩ := hW.1.2.2.1 y e
    refine wf_ci (fun _ => wf_setS hW (fun z hz => ?_)) (fun _ => hW)
    cases hz
    refine ⟨a1, a2, a3, ?_⟩
    show hrF y.1 y.2.2.2.2 (ix x) < _
    unfold hrF
    split
    · exact Nat.pow_lt_pow_right (by decide) (lt_ix h1 (wf_ct hW))
    · exact sd_lt a4
theorem wf_show {A : AA} (hW : WF A) (x y : Int32) : WF (o_show A x y).2 := by
  unfold o_show
  refine wf_ci (fun h1 => ?_) (fun _ => hW)
  cases e : sL (aS A) with
  | none => exact wf_fin hW
  | some z =>
    obtain ⟨a1, a2, a3, a4⟩ := hW.1.2.2.1 z e
    refine wf_ci (fun h2 => wf_setS hW (fun u hu => ?_)) (fun _ => hW)
    cases hu
    exact ⟨a1, a2, h2, Nat.lt_of_le_of_lt Nat.and_le_left a4⟩
theorem wf_end {A : AA} (hW : WF A) : WF (o_end A).2 := by
  unfold o_end
  cases e : sL (aS A) with
  | none => exact wf_fin hW
  | some z => exact ⟨⟨hW.1.1, hW.1.2.1, fun y hy => (Option.some_ne_none _ hy.symm).elim, hW.1.2.2.2⟩, hW.2⟩
theorem wf_undo {A : AA} (hW : WF A) : WF (o_undo A).2 := by
  unfold o_undo
  cases e : aK A with
  | none => exact wf_fin hW
  | some k => exact ⟨hW.2.1 k e, hW.2⟩
theorem wf_image {A : AA} (hW : WF A) : WF (o_image A).2 := wf_setKp hW (fun k hk => by cases hk; exact hW.1)
theorem wf_tear {A : AA} (hW : WF A) : WF (o_tear A).2 := wf_setKp hW (fun k hk => by cases hk)
theorem wf_seed {A : AA} (hW : WF A) (x : Int32) : WF (o_seed A x).2 := wf_setZS hW
theorem wf_wipe {A : AA} (hW : WF A) : WF (o_wipe A).2 := wf_setT hW ⟨Nat.zero_le _, fun k hk => absurd hk (Nat.not_lt_zero k)⟩
theorem wf_hold {A : AA} (hW : WF A) (x y : Int32) : WF (o_hold A x y).2 := by
  unfold o_hold
  refine wf_ci (fun h1 => wf_setQ hW (fun i hi => ?_)) (fun _ => hW)
  show (if i = ix x then y else sP (aS A) i) = -1 ∨ lt' (if i = ix x then y else sP (aS A) i) 28
  split
  · exact h1.2
  · exact hW.1.2.2.2 i hi
theorem bt4_ix {y : Int32} (h : bt4 y) : ix y = 0 ∨ ix y = 8 ∨ ix y = 16 ∨ ix y = 32 := by
  rcases h with rfl | rfl | rfl | rfl
  · exact Or.inl (ix_n (by decide))
  · exact Or.inr (Or.inl (ix_n (by decide)))
  · exact Or.inr (Or.inr (Or.inl (ix_n (by decide))))
  · exact Or.inr (Or.inr (Or.inr (ix_n (by decide))))
theorem wf_sheet {A : AA} (hW : WF A) (x y z : Int32) : WF (o_sheet A x y z).2 := by
  unfold o_sheet
  refine wf_ci (fun h1 => wf_ci (fun _ => hW) (fun _ => wf_ci (fun h3 => wf_setH hW ⟨?_, bt4_ix h1.2⟩) (fun _ => hW))) (fun _ => hW)
  show (if ix y = 0 then 0 else ix z) ≤ 40
  split
  · exact Nat.zero_le _
  · exact h3
theorem wf_write {A : AA} (hW : WF A) (x y z : Int32) : WF (o_write A x y z).2 := by
  unfold o_write
  exact wf_ci (fun h1 => wf_ci (fun _ => hW) (fun _ => wf_ci (fun _ => wf_setH hW (hW.2.2.2 _ (lt_ix h1 (by decide)))) (fun _ => hW))) (fun _ => hW)
theorem wf_copy {A : AA} (hW : WF A) (x f y t n : Int32) : WF (o_copy A x f y t n).2 := by
  unfold o_copy
  exact wf_ci (fun h1 => wf_ci (fun _ => hW) (fun _ => wf_ci (fun _ => wf_ci (fun _ => wf_setH hW (hW.2.2.2 _ (lt_ix h1.2 (by decide)))) (fun _ => hW)) (fun _ => hW))) (fun _ => hW)
theorem wf_load {A : AA} (hW : WF A) (x : Int32) : WF (o_load A x).2 := by
  unfold o_load
  refine wf_ci (fun h1 => wf_ci (fun _ => hW) (fun _ => ?_)) (fun _ => hW)
  obtain ⟨a, b⟩ := ld_wf (f := (aH A (ix x)).2.2) (N := (aH A (ix x)).2.1) 17 0 (sC (aS A)) hW.1.1
  exact wf_setC hW a (by rw [b]; exact Nat.le_refl _)
theorem wf_judge {A : AA} (hW : WF A) (x : Int32) : WF (o_judge A x).2 := by
  unfold o_judge
  refine wf_ci (fun h1 => wf_ci (fun _ => hW) (fun _ => ?_)) (fun _ => hW)
  unfold jdR
  split
  · exact wf_fin hW
  · exact hW
theorem wf_feed {A : AA} (hW : WF A) (x y : Int32) : WF (o_feed A x y).2 := by
  unfold o_feed
  exact wf_ci (fun h1 => wf_ci (fun h2 => wf_setT hW ⟨by rw [fd_1]; exact h2, fd_lt _ _ hW.2.2.1.2⟩) (fun _ => hW)) (fun _ => hW)
theorem wf_evening {A : AA} (hW : WF A) (x y : Int32) : WF (o_evening A x y).2 := by
  unfold o_evening
  exact wf_ci (fun _ => wf_ci (fun _ => hW) (fun _ => wf_setZS hW)) (fun _ => hW)
theorem tlR_ct {T : Nat × (Nat → Nat)} {t : Nat} : ∀ n x y, tlR T t n x = .inr y → ct x.1.1 ≤ ct y.1.1 := by
  intro n
  induction n with
  | zero => intro x y e; cases e; exact Nat.le_refl _
  | succ n ih =>
    intro x y e
    rw [tlR] at e
    by_cases h1 : x.2.1 = 2
    · rw [ci_t h1] at e
      by_cases h2 : x.2.2.2.2 < cw x.1.1
      · rw [ci_t h2] at e
        exact ih ((morT x.1.1 t x.2.2.2.2, x.1.2), nx T x.2) y e
      · rw [ci_f h2] at e; cases e
    · rw [ci_f h1] at e; cases e; exact Nat.le_refl _
theorem itemR_ct {T : Nat × (Nat → Nat)} {s : PS} {L : Tk} {y : PS × Tk} (e : itemR T s L = .inr y) : ct s.1 ≤ ct y.1.1 := by
  unfold itemR at e
  by_cases h0 : nm T L 0
  · rw [ci_t h0] at e
    unfold wordR at e
    by_cases h1 : cw s.1 < 16
    · rw [ci_t h1] at e
      by_cases h2 : numP (nx T L) 1 7
      · rw [ci_t h2] at e
        cases e3 : chP T (nx T (nx T L)) 3 with
        | inl K => rw [e3] at e; cases e
        | inr a =>
          rw [e3] at e
          dsimp only at e
          cases e4 : chP T a.2 4 with
          | inl K => rw [e4] at e; cases e
          | inr b => rw [e4] at e; cases e; exact Nat.le_refl _
      · rw [ci_f h2] at e; cases e
    · rw [ci_f h1] at e; cases e
  · rw [ci_f h0] at e
    by_cases h1 : nm T L 1
    · rw [ci_t h1] at e
      unfold titleR at e
      by_cases h2 : ct s.1 < 24
      · rw [ci_t h2] at e
        by_cases h3 : numP (nx T L) 0 (cw s.1)
        · rw [ci_t h3] at e
          exact Nat.le_trans (Nat.le_succ _) (tlR_ct _ _ _ e)
        · rw [ci_f h3] at e; cases e
      · rw [ci_f h2] at e; cases e
    · rw [ci_f h1] at e
      by_cases h2 : nm T L 2
      · rw [ci_t h2] at e
        unfold onlyR at e
        by_cases h3 : numP (nx T L) 0 (ct s.1)
        · rw [ci_t h3] at e
          by_cases h4 : numP (nx T (nx T L)) 0 2
          · rw [ci_t h4] at e; cases e; exact Nat.le_refl _
          · rw [ci_f h4] at e; cases e
        · rw [ci_f h3] at e; cases e
      · rw [ci_f h2] at e; cases e
theorem textR_ct {T : Nat × (Nat → Nat)} : ∀ n i x y, textR T n i x = .inr y → ct x.1.1 ≤ ct y.2.1 := by
  intro n
  induction n with
  | zero => intro i x y e; cases e
  | succ n ih =>
    intro i x y e
    rw [textR] at e
    cases e1 : itemR T x.1 x.2 with
    | inl K => rw [e1] at e; cases e
    | inr z =>
      rw [e1] at e
      dsimp only at e
      have hz := itemR_ct e1
      by_cases c0 : z.2.1 = 0
      · rw [ci_t c0] at e; cases e; exact hz
      · rw [ci_f c0] at e
        by_cases c3 : z.2.1 = 3
        · rw [ci_t c3] at e
          exact Nat.le_trans hz (ih (i + 1) (z.1, nx T z.2) y e)
        · rw [ci_f c3] at e; cases e
theorem wf_text {A : AA} (hW : WF A) : WF (o_text A).2 := by
  unfold o_text
  have ho := textR_ok (T := aT A) 121 1 ((sC (aS A), sK (aS A)), tok (aT A) 0) ⟨hW.1.1, hW.1.2.1⟩ (tok_ok (Nat.zero_le _)).1
  have hc := textR_ct (T := aT A) 121 1 ((sC (aS A), sK (aS A)), tok (aT A) 0)
  cases e : textR (aT A) 121 1 ((sC (aS A), sK (aS A)), tok (aT A) 0) with
  | inl K => exact wf_setT hW ⟨Nat.zero_le _, fun k hk => absurd hk (Nat.not_lt_zero k)⟩
  | inr y =>
    obtain ⟨h1, -⟩ := ho.2 y e
    have hk : ct (sC (aS A)) ≤ ct y.2.1 := hc y e
    refine ⟨⟨h1.1, h1.2, fun x hx => ?_, hW.1.2.2.2⟩, hW.2.1, ⟨Nat.zero_le _, fun k hk => absurd hk (Nat.not_lt_zero k)⟩, hW.2.2.2⟩
    obtain ⟨a1, a2, a3, a4⟩ := hW.1.2.2.1 x hx
    exact ⟨Nat.lt_of_lt_of_le a1 hk, a2, a3, pow_mn a4 hk⟩
theorem wf_wordOf {A : AA} (hW : WF A) (x y : Int32) : WF (o_wordOf A x y).2 := by
  unfold o_wordOf
  repeat' first | exact hW | refine wf_ci (fun _ => ?_) (fun _ => ?_)
theorem wf_ith {A : AA} (hW : WF A) (x y : Int32) : WF (o_ith A x y).2 := by
  unfold o_ith
  repeat' first | exact hW | refine wf_ci (fun _ => ?_) (fun _ => ?_)
theorem wf_known {A : AA} (hW : WF A) (x : Int32) : WF (o_known A x).2 := by
  unfold o_known
  repeat' first | exact hW | refine wf_ci (fun _ => ?_) (fun _ => ?_)
theorem wf_tells {A : AA} (hW : WF A) (x y z : Int32) : WF (o_tells A x y z).2 := by
  unfold o_tells
  repeat' first | exact hW | refine wf_ci (fun _ => ?_) (fun _ => ?_)
theorem wf_takes {A : AA} (hW : WF A) (x y : Int32) : WF (o_takes A x y).2 := by
  unfold o_takes
  repeat' first | exact hW | refine wf_ci (fun _ => ?_) (fun _ => ?_)
theorem wf_parts {A : AA} (hW : WF A) (x y z : Int32) : WF (o_parts A x y z).2 := by
  unfold o_parts
  repeat' first | exact hW | refine wf_ci (fun _ => ?_) (fun _ => ?_)
theorem wf_worst {A : AA} (hW : WF A) (x y z : Int32) : WF (o_worst A x y z).2 := by
  unfold o_worst
  repeat' first | exact hW | refine wf_ci (fun _ => ?_) (fun _ => ?_)
theorem wf_sum {A : AA} (hW : WF A) (x y z : Int32) : WF (o_sum A x y z).2 := by
  unfold o_sum
  repeat' first | exact hW | refine wf_ci (fun _ => ?_) (fun _ => ?_)
theorem wf_score {A : AA} (hW : WF A) (x : Int32) : WF (o_score A x).2 := by
  unfold o_score
  repeat' first | exact hW | refine wf_ci (fun _ => ?_) (fun _ => ?_)
theorem wf_two {A : AA} (hW : WF A) (x : Int32) : WF (o_two A x).2 := by
  unfold o_two
  repeat' first | exact hW | refine wf_ci (fun _ => ?_) (fun _ => ?_)
theorem wf_quick {A : AA} (hW : WF A) (x y : Int32) : WF (o_quick A x y).2 := by
  unfold o_quick
  repeat' first | exact hW | refine wf_ci (fun _ => ?_) (fun _ => ?_)
theorem wf_fewest {A : AA} (hW : WF A) (x y : Int32) : WF (o_fewest A x y).2 := by
  unfold o_fewest
  repeat' first | exact hW | refine wf_ci (fun _ => ?_) (fun _ => ?_)
theorem wf_seconds {A : AA} (hW : WF A) (x y : Int32) : WF (o_seconds A x y).2 := by
  unfold o_seconds
  repeat' first | exact hW | refine wf_ci (fun _ => ?_) (fun _ => ?_)
theorem wf_minute {A : AA} (hW : WF A) (x y : Int32) : WF (o_minute A x y).2 := by
  unfold o_minute
  repeat' first | exact hW | refine wf_ci (fun _ => ?_) (fun _ => ?_)
theorem wf_points {A : AA} (hW : WF A) (x y : Int32) : WF (o_points A x y).2 := by
  unfold o_points
  repeat' first | exact hW | refine wf_ci (fun _ => ?_) (fun _ => ?_)
theorem wf_sense {A : AA} (hW : WF A) (x : Int32) : WF (o_sense A x).2 := by
  unfold o_sense
  repeat' first | exact hW | refine wf_ci (fun _ => ?_) (fun _ => ?_)
theorem wf_ofSize {A : AA} (hW : WF A) (x : Int32) : WF (o_ofSize A x).2 := by
  unfold o_ofSize
  repeat' first | exact hW | refine wf_ci (fun _ => ?_) (fun _ => ?_)
theorem wf_length {A : AA} (hW : WF A) (x : Int32) : WF (o_length A x).2 := by
  unfold o_length
  repeat' first | exact hW | refine wf_ci (fun _ => ?_) (fun _ => ?_)
theorem wf_rare {A : AA} (hW : WF A) (x : Int32) : WF (o_rare A x).2 := by
  unfold o_rare
  repeat' first | exact hW | refine wf_ci (fun _ => ?_) (fun _ => ?_)
theorem wf_twoWorst {A : AA} (hW : WF A) (x : Int32) : WF (o_twoWorst A x).2 := by
  unfold o_twoWorst
  repeat' first | exact hW | refine wf_ci (fun _ => ?_) (fun _ => ?_)
theorem wf_status {A : AA} (hW : WF A) (x : Int32) : WF (o_status A x).2 := by
  unfold o_status
  repeat' first | exact hW | refine wf_ci (fun _ => ?_) (fun _ => ?_)
theorem wf_count {A : AA} (hW : WF A) (x : Int32) : WF (o_count A x).2 := by
  unfold o_count
  repeat' first | exact hW | refine wf_ci (fun _ => ?_) (fun _ => ?_)
theorem wf_as {A : AA} (hW : WF A) (x y : Int32) : WF (o_as A x y).2 := by
  unfold o_as
  repeat' first | exact hW | refine wf_ci (fun _ => ?_) (fun _ => ?_)
theorem wf_hardest {A : AA} (hW : WF A) (x : Int32) : WF (o_hardest A x).2 := by
  unfold o_hardest
  repeat' first | exact hW | refine wf_ci (fun _ => ?_) (fun _ => ?_)
theorem wf_like {A : AA} (hW : WF A) (x : Int32) : WF (o_like A x).2 := by
  unfold o_like
  repeat' first | exact hW | refine wf_ci (fun _ => ?_) (fun _ => ?_)
theorem wf_had {A : AA} (hW : WF A) (x : Int32) : WF (o_had A x).2 := by
  unfold o_had
  repeat' first | exact hW | refine wf_ci (fun _ => ?_) (fun _ => ?_)
theorem wf_unfair {A : AA} (hW : WF A) : WF (o_unfair A).2 := by
  unfold o_unfair
  repeat' first | exact hW | refine wf_ci (fun _ => ?_) (fun _ => ?_)
theorem wf_alike {A : AA} (hW : WF A) (x : Int32) : WF (o_alike A x).2 := by
  unfold o_alike
  repeat' first | exact hW | refine wf_ci (fun _ => ?_) (fun _ => ?_)
theorem wf_ahead {A : AA} (hW : WF A) (x y : Int32) : WF (o_ahead A x y).2 := by
  unfold o_ahead
  repeat' first | exact hW | refine wf_ci (fun _ => ?_) (fun _ => ?_)
theorem wf_hat {A : AA} (hW : WF A) (x : Int32) : WF (o_hat A x).2 := by
  unfold o_hat
  repeat' first | exact hW | refine wf_ci (fun _ => ?_) (fun _ => ?_)
theorem wf_best {A : AA} (hW : WF A) (x : Int32) (β : Nat) : WF (o_best A x β).2 := by
  unfold o_best
  repeat' first | exact hW | refine wf_ci (fun _ => ?_) (fun _ => ?_)
theorem wf_now {A : AA} (hW : WF A) (x : Int32) : WF (o_now A x).2 := by
  unfold o_now
  refine wf_ci (fun _ => ?_) (fun _ => hW)
  cases e : sL (aS A) with
  | none => exact wf_fin hW
  | some y => exact hW
