/-! the class: fewest signs, slips, minutes by rule -/
theorem pow_bit {t u : Nat} : (2 ^ t).testBit u = true ↔ u = t := by
  rw [Nat.testBit_two_pow]
  constructor
  · intro h; simpa using (of_decide_eq_true h).symm
  · intro h; simp [h]
theorem eq_bits {a b : Nat} (h : ∀ u, a.testBit u = true ↔ b.testBit u = true) : a = b := by
  apply Nat.eq_of_testBit_eq
  intro u
  have := h u
  cases h1 : a.testBit u <;> cases h2 : b.testBit u <;> simp_all
theorem sm_self {c : CO} {s t : Nat} (ht : t < ct c) : (sm c s t).testBit t = true := sm_bit.mpr ⟨ht, rfl⟩
theorem pAl_one {c : CO} {t S : Nat} (ht : t < ct c) (hS : S.testBit t = true) (h : ∀ u, S.testBit u = true → (∀ s, s < 28 → (sm c s t).testBit u = true) → u = t) : pAl c t S 28 = 2 ^ t := by
  apply eq_bits
  intro u
  rw [pAl_bit, pow_bit]
  constructor
  · rintro ⟨a, b⟩; exact h u a b
  · rintro rfl; exact ⟨hS, fun s _ => sm_self ht⟩
theorem al1_p {c : CO} {t S s : Nat} (ht : t < ct c) (hS : S.testBit t = true) (h : al1 c t S s) : pAl c t S 28 = 2 ^ t := by
  obtain ⟨a, -, h1, h2⟩ := h
  refine pAl_one ht hS (fun u hu hs => pow_bit.mp ?_)
  rw [← h2, Nat.testBit_and, hu, hs a h1]; rfl
theorem al2_p {c : CO} {t S s : Nat} (ht : t < ct c) (hS : S.testBit t = true) (h : al2 c t S s) : pAl c t S 28 = 2 ^ t := by
  obtain ⟨a, -, h1, b, -, h3, h4⟩ := h
  refine pAl_one ht hS (fun u hu hs => pow_bit.mp ?_)
  rw [← h4, Nat.testBit_and, Nat.testBit_and, hu, hs a h1, hs b h3]; rfl
theorem al3_p {c : CO} {t S : Nat} (ht : t < ct c) (hS : S.testBit t = true) (h : al3 c t S) : pAl c t S 28 = 2 ^ t := by
  obtain ⟨d, h0, a, -, h1, b, -, h3, h4⟩ := h
  refine pAl_one ht hS (fun u hu hs => pow_bit.mp ?_)
  rw [← h4, Nat.testBit_and, Nat.testBit_and, Nat.testBit_and, hu, hs d h0, hs a h1, hs b h3]; rfl
theorem fw0 {c : CO} {t S : Nat} (h : S = 2 ^ t) : fwS c t S = 0 := if_pos h
theorem fw1 {c : CO} {t S : Nat} (h : S ≠ 2 ^ t) (h1 : al1 c t S 0) : fwS c t S = 1 := (if_neg h).trans (if_pos h1)
theorem fw2 {c : CO} {t S : Nat} (h : S ≠ 2 ^ t) (h1 : ¬ al1 c t S 0) (h2 : al2 c t S 0) : fwS c t S = 2 := (if_neg h).trans ((if_neg h1).trans (if_pos h2))
theorem fw3 {c : CO} {t S : Nat} (h : S ≠ 2 ^ t) (h1 : ¬ al1 c t S 0) (h2 : ¬ al2 c t S 0) (h3 : al3 c t S) : fwS c t S = 3 := (if_neg h).trans ((if_neg h1).trans ((if_neg h2).trans (if_pos h3)))
theorem fw4 {c : CO} {t S : Nat} (h : S ≠ 2 ^ t) (h1 : ¬ al1 c t S 0) (h2 : ¬ al2 c t S 0) (h3 : ¬ al3 c t S) : fwS c t S = 4 := (if_neg h).trans ((if_neg h1).trans ((if_neg h2).trans (if_neg h3)))
theorem G_X0_fewestSigns {σ : Hp} {c : CO} (hW : WFc c) (hch : ChO c σ) {t S : Nat} (ht : t < ct c) (hS : S < 2 ^ ct c) (hb : S.testBit t = true) : GoodF 4 mX0_fewestSigns [.ref 31, .int (nI t), .int (nI S)] σ (some (.int (nI (fwS c t S)))) σ := by
  have w2 := hW.2.1
  have hS24 := S24 hW hS
  have hp : 2 ^ t ≤ 16777216 := p24 (by omega)
  have hl := pAl_le (c := c) (t := t) (S := S) 28
  refine GoodF.intro (by decide) (cat_ref (cat_int (cat_int cat_nil))) (Nat.le_of_ble_eq_true rfl) (fun X hR => ?_)
  show SW 4 mX0_fewestSigns X 0 [some (.ref 31), some (.int (nI t)), some (.int (nI S)), none] [] _
  repeat' (first | with_reducible refine sX0_fewestSigns_0 ?_ | with_reducible refine sX0_fewestSigns_1 ?_ | with_reducible refine sX0_fewestSigns_2n (by omega) ?_ | with_reducible refine sX0_fewestSigns_2 ?_ | with_reducible refine sX0_fewestSigns_3 ?_ | with_reducible refine sX0_fewestSigns_4 ?_ | with_reducible refine sX0_fewestSigns_5 ?_ | with_reducible refine sX0_fewestSigns_6n (by omega) (by omega) (fun h => ?_) (fun h => ?_) | with_reducible refine sX0_fewestSigns_6 (fun h => ?_) (fun h => ?_) | with_reducible refine sX0_fewestSigns_9 ?_ | with_reducible refine sX0_fewestSigns_10 ?_ | with_reducible refine sX0_fewestSigns_11 ?_ | with_reducible refine sX0_fewestSigns_12 ?_ | with_reducible refine sX0_fewestSigns_13 ?_ | with_reducible refine sX0_fewestSigns_14 (by with_unfolding_all rfl) (by exact G_X0_partOfAll hW hch (by omega)) (by decide) (by with_unfolding_all exact Nat.le_of_ble_eq_true rfl) ?_ | with_reducible refine sX0_fewestSigns_17 ?_ | with_reducible refine sX0_fewestSigns_18n (by omega) (by omega) (fun h => ?_) (fun h => ?_) | with_reducible refine sX0_fewestSigns_18 (fun h => ?_) (fun h => ?_) | with_reducible refine sX0_fewestSigns_21 ?_ | with_reducible refine sX0_fewestSigns_22 ?_ | with_reducible refine sX0_fewestSigns_23 ?_ | with_reducible refine sX0_fewestSigns_24 ?_ | with_reducible refine sX0_fewestSigns_25 ?_ | with_reducible refine sX0_fewestSigns_26 (by with_unfolding_all rfl) (by exact G_X0_isAloneByOne hW hch (by omega) (by assumption)) (by decide) (by with_unfolding_all exact Nat.le_of_ble_eq_true rfl) ?_ | with_reducible refine sX0_fewestSigns_29b (fun h => ?_) (fun h => ?_) | with_reducible refine sX0_fewestSigns_29n (by omega) (fun h => ?_) (fun h => ?_) | with_reducible refine sX0_fewestSigns_29 (fun h => ?_) (fun h => ?_) | with_reducible refine sX0_fewestSigns_32 ?_ | with_reducible refine sX0_fewestSigns_33 ?_ | with_reducible refine sX0_fewestSigns_34 ?_ | with_reducible refine sX0_fewestSigns_35 ?_ | with_reducible refine sX0_fewestSigns_36 ?_ | with_reducible refine sX0_fewestSigns_37 ?_ | with_reducible refine sX0_fewestSigns_38 (by with_unfolding_all rfl) (by exact G_X0_isAloneByTwo hW hch (by omega) (by first | assumption | exact and_lt hS) (by omega)) (by decide) (by with_unfolding_all exact Nat.le_of_ble_eq_true rfl) ?_ | with_reducible refine sX0_fewestSigns_41b (fun h => ?_) (fun h => ?_) | with_reducible refine sX0_fewestSigns_41n (by omega) (fun h => ?_) (fun h => ?_) | with_reducible refine sX0_fewestSigns_41 (fun h => ?_) (fun h => ?_) | with_reducible refine sX0_fewestSigns_44 ?_ | with_reducible refine sX0_fewestSigns_45 ?_ | with_reducible refine sX0_fewestSigns_46 ?_ | with_reducible refine sX0_fewestSigns_47 ?_ | with_reducible refine sX0_fewestSigns_48 ?_ | with_reducible refine sX0_fewestSigns_49 (by with_unfolding_all rfl) (by exact G_X0_isAloneByThree hW hch (by omega) (by assumption)) (by decide) (by with_unfolding_all exact Nat.le_of_ble_eq_true rfl) ?_ | with_reducible refine sX0_fewestSigns_52b (fun h => ?_) (fun h => ?_) | with_reducible refine sX0_fewestSigns_52n (by omega) (fun h => ?_) (fun h => ?_) | with_reducible refine sX0_fewestSigns_52 (fun h => ?_) (fun h => ?_) | with_reducible refine sX0_fewestSigns_55 ?_ | with_reducible refine sX0_fewestSigns_56 ?_ | with_reducible refine sX0_fewestSigns_59 ?_ | with_reducible refine sX0_fewestSigns_60 ?_)
  all_goals first | exact hR.ci (congrArg nI (fw0 (by assumption)).symm) | exact hR.ci (congrArg nI (fw1 (by assumption) (by assumption)).symm) | exact hR.ci (congrArg nI (fw2 (by assumption) (by assumption) (by assumption)).symm) | exact hR.ci (congrArg nI (fw3 (by assumption) (by assumption) (by assumption) (by assumption)).symm) | exact hR.ci (congrArg nI (fw4 (by assumption) (by assumption) (by assumption) (by assumption)).symm) | skip
  all_goals exact hR.ci (congrArg nI (fw4 (by assumption) (fun z => (by assumption : ¬ pAl c t S 28 = 2 ^ t) (al1_p ht hb z)) (fun z => (by assumption : ¬ pAl c t S 28 = 2 ^ t) (al2_p ht hb z)) (fun z => (by assumption : ¬ pAl c t S 28 = 2 ^ t) (al3_p ht hb z))).symm)
/-- slips -/
def slp (p : Nat) (σ : Hp) (F s k : Nat) : Hp := up2 (up2 (up2 σ p 4 (nI F)) p 2 (nI s)) p 3 (nI k)
theorem G_X2_leave35 {σ : Hp} {F s k P tm : Nat} (h4 : σ 35 4 = nI F) (h2 : σ 35 2 = nI s) (h3 : σ 35 3 = nI k) : GoodF 1 mX2_leave [.ref 35, .int (nI P), .int (nI tm)] σ none (slp 35 σ (F &&& P) (s + tm) (k + 1)) := by
  refine GoodF.intro (by decide) (cat_ref (cat_int (cat_int cat_nil))) (Nat.le_of_ble_eq_true rfl) (fun X hR => ?_)
  show SW 1 mX2_leave X 0 [some (.ref 35), some (.int (nI P)), some (.int (nI tm))] [] _
  repeat' (first | with_reducible refine sX2_leave_0 ?_ | with_reducible refine sX2_leave_1 (by with_unfolding_all rfl) ?_ | with_reducible refine sX2_leave_2 (by with_unfolding_all rfl) (by first | exact (up2_ni (by decide)).trans h2 | exact ((up2_ni (by decide)).trans (up2_ni (by decide))).trans h3 | assumption | rfl) ?_ | with_reducible refine sX2_leave_5 ?_ | with_reducible refine sX2_leave_6o ?_ | with_reducible refine sX2_leave_6c ?_ | with_reducible refine sX2_leave_6n ?_ | with_reducible refine sX2_leave_6 ?_ | with_reducible refine sX2_leave_7 (by with_unfolding_all rfl) ?_ | with_reducible refine sX2_leave_10 ?_ | with_reducible refine sX2_leave_11 (by with_unfolding_all rfl) ?_ | with_reducible refine sX2_leave_12 (by with_unfolding_all rfl) (by first | exact (up2_ni (by decide)).trans h2 | exact ((up2_ni (by decide)).trans (up2_ni (by decide))).trans h3 | assumption | rfl) ?_ | with_reducible refine sX2_leave_15 ?_ | with_reducible refine sX2_leave_16n ?_ | with_reducible refine sX2_leave_16 ?_ | with_reducible refine sX2_leave_17 (by with_unfolding_all rfl) ?_ | with_reducible refine sX2_leave_20 ?_ | with_reducible refine sX2_leave_21 (by with_unfolding_all rfl) ?_ | with_reducible refine sX2_leave_22 (by with_unfolding_all rfl) (by first | exact (up2_ni (by decide)).trans h2 | exact ((up2_ni (by decide)).trans (up2_ni (by decide))).trans h3 | assumption | rfl) ?_ | with_reducible refine sX2_leave_25 ?_ | with_reducible refine sX2_leave_26n ?_ | with_reducible refine sX2_leave_26 ?_ | with_reducible refine sX2_leave_27 (by with_unfolding_all rfl) ?_ | with_reducible refine sX2_leave_30 ?_)
  exact hR
theorem G_X2_leave10 {σ : Hp} {F s k P tm : Nat} (h4 : σ 10 4 = nI F) (h2 : σ 10 2 = nI s) (h3 : σ 10 3 = nI k) : GoodF 1 mX2_leave [.ref 10, .int (nI P), .int (nI tm)] σ none (slp 10 σ (F &&& P) (s + tm) (k + 1)) := by
  refine GoodF.intro (by decide) (cat_ref (cat_int (cat_int cat_nil))) (Nat.le_of_ble_eq_true rfl) (fun X hR => ?_)
  show SW 1 mX2_leave X 0 [some (.ref 10), some (.int (nI P)), some (.int (nI tm))] [] _
  repeat' (first | with_reducible refine sX2_leave_0 ?_ | with_reducible refine sX2_leave_1 (by with_unfolding_all rfl) ?_ | with_reducible refine sX2_leave_2 (by with_unfolding_all rfl) (by first | exact (up2_ni (by decide)).trans h2 | exact ((up2_ni (by decide)).trans (up2_ni (by decide))).trans h3 | assumption | rfl) ?_ | with_reducible refine sX2_leave_5 ?_ | with_reducible refine sX2_leave_6o ?_ | with_reducible refine sX2_leave_6c ?_ | with_reducible refine sX2_leave_6n ?_ | with_reducible refine sX2_leave_6 ?_ | with_reducible refine sX2_leave_7 (by with_unfolding_all rfl) ?_ | with_reducible refine sX2_leave_10 ?_ | with_reducible refine sX2_leave_11 (by with_unfolding_all rfl) ?_ | with_reducible refine sX2_leave_12 (by with_unfolding_all rfl) (by first | exact (up2_ni (by decide)).trans h2 | exact ((up2_ni (by decide)).trans (up2_ni (by decide))).trans h3 | assumption | rfl) ?_ | with_reducible refine sX2_leave_15 ?_ | with_reducible refine sX2_leave_16n ?_ | with_reducible refine sX2_leave_16 ?_ | with_reducible refine sX2_leave_17 (by with_unfolding_all rfl) ?_ | with_reducible refine sX2_leave_20 ?_ | with_reducible refine sX2_leave_21 (by with_unfolding_all rfl) ?_ | with_reducible refine sX2_leave_22 (by with_unfolding_all rfl) (by first | exact (up2_ni (by decide)).trans h2 | exact ((up2_ni (by decide)).trans (up2_ni (by decide))).trans h3 | assumption | rfl) ?_ | with_reducible refine sX2_leave_25 ?_ | with_reducible refine sX2_leave_26n ?_ | with_reducible refine sX2_leave_26 ?_ | with_reducible refine sX2_leave_27 (by with_unfolding_all rfl) ?_ | with_reducible refine sX2_leave_30 ?_)
  exact hR
theorem G_X2_isHad35 {σ : Hp} {F : Nat} (hF : F < 16777216) (h4 : σ 35 4 = nI F) : GoodF 2 mX2_isHad [.ref 35] σ (some (.int (bI (pc F = 1)))) σ := by
  have hp : pc F ≤ 32 := pc_le (n := 32) (by omega) (by decide)
  refine GoodF.intro (by decide) (cat_ref cat_nil) (Nat.le_of_ble_eq_true rfl) (fun X hR => ?_)
  show SW 2 mX2_isHad X 0 [some (.ref 35)] [] _
  repeat' (first | with_reducible refine sX2_isHad_0 ?_ | with_reducible refine sX2_isHad_1 (by with_unfolding_all rfl) (by first | assumption | rfl) ?_ | with_reducible refine sX2_isHad_4 (by exact G_J6_bitCount_0f7a4 (by omega)) (by decide) (by with_unfolding_all exact Nat.le_of_ble_eq_true rfl) ?_ | with_reducible refine sX2_isHad_7 ?_ | with_reducible refine sX2_isHad_8n (by omega) (by omega) (fun h => ?_) (fun h => ?_) | with_reducible refine sX2_isHad_8 (fun h => ?_) (fun h => ?_) | with_reducible refine sX2_isHad_11 ?_ | with_reducible refine sX2_isHad_12 ?_ | with_reducible refine sX2_isHad_15 ?_ | with_reducible refine sX2_isHad_16 (by with_unfolding_all rfl) ?_)
  · exact hR.bf (by assumption)
  · exact hR.bt (by assumption)
theorem G_X2_isHad10 {σ : Hp} {F : Nat} (hF : F < 16777216) (h4 : σ 10 4 = nI F) : GoodF 2 mX2_isHad [.ref 10] σ (some (.int (bI (pc F = 1)))) σ := by
  have hp : pc F ≤ 32 := pc_le (n := 32) (by omega) (by decide)
  refine GoodF.intro (by decide) (cat_ref cat_nil) (Nat.le_of_ble_eq_true rfl) (fun X hR => ?_)
  show SW 2 mX2_isHad X 0 [some (.ref 10)] [] _
  repeat' (first | with_reducible refine sX2_isHad_0 ?_ | with_reducible refine sX2_isHad_1 (by with_unfolding_all rfl) (by first | assumption | rfl) ?_ | with_reducible refine sX2_isHad_4 (by exact G_J6_bitCount_0f7a4 (by omega)) (by decide) (by with_unfolding_all exact Nat.le_of_ble_eq_true rfl) ?_ | with_reducible refine sX2_isHad_7 ?_ | with_reducible refine sX2_isHad_8n (by omega) (by omega) (fun h => ?_) (fun h => ?_) | with_reducible refine sX2_isHad_8 (fun h => ?_) (fun h => ?_) | with_reducible refine sX2_isHad_11 ?_ | with_reducible refine sX2_isHad_12 ?_ | with_reducible refine sX2_isHad_15 ?_ | with_reducible refine sX2_isHad_16 (by with_unfolding_all rfl) ?_)
  · exact hR.bf (by assumption)
  · exact hR.bt (by assumption)
/-- the points of a slip -/
def rwd (F s : Nat) : Nat := if pc F = 1 then 60 - s else 0
theorem G_X2_reward35 {σ : Hp} {F s : Nat} (hF : F < 16777216) (h4 : σ 35 4 = nI F) (h2 : σ 35 2 = nI s) (hs : s ≤ 60) : GoodF 3 mX2_reward [.ref 35] σ (some (.int (nI (rwd F s)))) σ := by
  refine GoodF.intro (by decide) (cat_ref cat_nil) (Nat.le_of_ble_eq_true rfl) (fun X hR => ?_)
  show SW 3 mX2_reward X 0 [some (.ref 35)] [] _
  repeat' (first | with_reducible refine sX2_reward_0 ?_ | with_reducible refine sX2_reward_1 (by with_unfolding_all rfl) (by exact G_X2_isHad35 (by assumption) (by assumption)) (by decide) (by with_unfolding_all exact Nat.le_of_ble_eq_true rfl) ?_ | with_reducible refine sX2_reward_4b (fun h => ?_) (fun h => ?_) | with_reducible refine sX2_reward_4n (by omega) (fun h => ?_) (fun h => ?_) | with_reducible refine sX2_reward_4 (fun h => ?_) (fun h => ?_) | with_reducible refine sX2_reward_7 ?_ | with_reducible refine sX2_reward_9 ?_ | with_reducible refine sX2_reward_10 (by with_unfolding_all rfl) (by first | assumption | rfl) ?_ | with_reducible refine sX2_reward_13n (by omega) ?_ | with_reducible refine sX2_reward_13 ?_ | with_reducible refine sX2_reward_14 ?_ | with_reducible refine sX2_reward_17 ?_ | with_reducible refine sX2_reward_18 ?_)
  · exact hR.ci (congrArg nI (if_neg (by assumption)).symm)
  · exact hR.ci (congrArg nI (if_pos (by assumption)).symm)
theorem G_X2_reward10 {σ : Hp} {F s : Nat} (hF : F < 16777216) (h4 : σ 10 4 = nI F) (h2 : σ 10 2 = nI s) (hs : s ≤ 60) : GoodF 3 mX2_reward [.ref 10] σ (some (.int (nI (rwd F s)))) σ := by
  refine GoodF.intro (by decide) (cat_ref cat_nil) (Nat.le_of_ble_eq_true rfl) (fun X hR => ?_)
  show SW 3 mX2_reward X 0 [some (.ref 10)] [] _
  repeat' (first | with_reducible refine sX2_reward_0 ?_ | with_reducible refine sX2_reward_1 (by with_unfolding_all rfl) (by exact G_X2_isHad10 (by assumption) (by assumption)) (by decide) (by with_unfolding_all exact Nat.le_of_ble_eq_true rfl) ?_ | with_reducible refine sX2_reward_4b (fun h => ?_) (fun h => ?_) | with_reducible refine sX2_reward_4n (by omega) (fun h => ?_) (fun h => ?_) | with_reducible refine sX2_reward_4 (fun h => ?_) (fun h => ?_) | with_reducible refine sX2_reward_7 ?_ | with_reducible refine sX2_reward_9 ?_ | with_reducible refine sX2_reward_10 (by with_unfolding_all rfl) (by first | assumption | rfl) ?_ | with_reducible refine sX2_reward_13n (by omega) ?_ | with_reducible refine sX2_reward_13 ?_ | with_reducible refine sX2_reward_14 ?_ | with_reducible refine sX2_reward_17 ?_ | with_reducible refine sX2_reward_18 ?_)
  · exact hR.ci (congrArg nI (if_neg (by assumption)).symm)
  · exact hR.ci (congrArg nI (if_pos (by assumption)).symm)
def bgn (p : Nat) (σ : Hp) (t b F : Int32) : Hp := up2 (up2 (up2 (up2 (up2 σ p 0 t) p 1 b) p 2 (nI 0)) p 3 (nI 0)) p 4 F
theorem G_X2_begin35 {σ : Hp} {t b F : Int32} : GoodF 1 mX2_begin [.ref 35, .int t, .int b, .int F] σ none (bgn 35 σ t b F) := by
  refine GoodF.intro (by decide) (cat_ref (cat_int (cat_int (cat_int cat_nil)))) (Nat.le_of_ble_eq_true rfl) (fun X hR => ?_)
  show SW 1 mX2_begin X 0 [some (.ref 35), some (.int t), some (.int b), some (.int F)] [] _
  repeat' (first | with_reducible refine sX2_begin_0 ?_ | with_reducible refine sX2_begin_1 ?_ | with_reducible refine sX2_begin_2 (by with_unfolding_all rfl) ?_ | with_reducible refine sX2_begin_5 ?_ | with_reducible refine sX2_begin_6 ?_ | with_reducible refine sX2_begin_7 (by with_unfolding_all rfl) ?_ | with_reducible refine sX2_begin_10 ?_ | with_reducible refine sX2_begin_11 ?_ | with_reducible refine sX2_begin_12 (by with_unfolding_all rfl) ?_ | with_reducible refine sX2_begin_15 ?_ | with_reducible refine sX2_begin_16 ?_ | with_reducible refine sX2_begin_17 (by with_unfolding_all rfl) ?_ | with_reducible refine sX2_begin_20 ?_ | with_reducible refine sX2_begin_21 ?_ | with_reducible refine sX2_begin_22 (by with_unfolding_all rfl) ?_ | with_reducible refine sX2_begin_25 ?_)
  exact hR
theorem G_X2_begin10 {σ : Hp} {t b F : Int32} : GoodF 1 mX2_begin [.ref 10, .int t, .int b, .int F] σ none (bgn 10 σ t b F) := by
  refine GoodF.intro (by decide) (cat_ref (cat_int (cat_int (cat_int cat_nil)))) (Nat.le_of_ble_eq_true rfl) (fun X hR => ?_)
  show SW 1 mX2_begin X 0 [some (.ref 10), some (.int t), some (.int b), some (.int F)] [] _
  repeat' (first | with_reducible refine sX2_begin_0 ?_ | with_reducible refine sX2_begin_1 ?_ | with_reducible refine sX2_begin_2 (by with_unfolding_all rfl) ?_ | with_reducible refine sX2_begin_5 ?_ | with_reducible refine sX2_begin_6 ?_ | with_reducible refine sX2_begin_7 (by with_unfolding_all rfl) ?_ | with_reducible refine sX2_begin_10 ?_ | with_reducible refine sX2_begin_11 ?_ | with_reducible refine sX2_begin_12 (by with_unfolding_all rfl) ?_ | with_reducible refine sX2_begin_15 ?_ | with_reducible refine sX2_begin_16 ?_ | with_reducible refine sX2_begin_17 (by with_unfolding_all rfl) ?_ | with_reducible refine sX2_begin_20 ?_ | with_reducible refine sX2_begin_21 ?_ | with_reducible refine sX2_begin_22 (by with_unfolding_all rfl) ?_ | with_reducible refine sX2_begin_25 ?_)
  exact hR
/-- a minute by rule: fitting, seconds, signs -/
def plg (B : Nat → Option (Nat × Nat)) (V : Nat → Nat → Nat) (P : Nat → Nat) : Nat → Nat × Nat × Nat → Nat × Nat × Nat
  | 0, x => x
  | n + 1, x => if pc x.1 ≤ 1 then x else match B x.1 with
    | none => x
    | some q => if pc x.1 ≤ V q.1 x.1 then x else if 60 < x.2.1 + takes q.1 then x else plg B V P n (x.1 &&& P q.1, x.2.1 + takes q.1, x.2.2 + 1)
noncomputable def ply (c : CO) (t : Nat) : Nat → Nat × Nat × Nat → Nat × Nat × Nat := plg (fun F => bst (vl c F 0) 60 28) (fun s F => WS c s s F) (fun s => sm c s t)
section Plg
variable {B : Nat → Option (Nat × Nat)} {V : Nat → Nat → Nat} {P : Nat → Nat} {n : Nat} {x : Nat × Nat × Nat} {q : Nat × Nat}
theorem plg_a (h : pc x.1 ≤ 1) : plg B V P (n + 1) x = x := by rw [plg, if_pos h]
theorem plg_b (hq : B x.1 = some q) (h : pc x.1 ≤ V q.1 x.1) : plg B V P (n + 1) x = x := by
  rw [plg]
  split
  · rfl
  · rw [hq]; exact if_pos h
theorem plg_c (hq : B x.1 = some q) (h : 60 < x.2.1 + takes q.1) : plg B V P (n + 1) x = x := by
  rw [plg]
  split
  · rfl
  · rw [hq]
    by_cases h2 : pc x.1 ≤ V q.1 x.1
    · exact if_pos h2
    · exact (if_neg h2).trans (if_pos h)
theorem plg_d (hq : B x.1 = some q) (h0 : ¬ pc x.1 ≤ 1) (h1 : ¬ pc x.1 ≤ V q.1 x.1) (h : ¬ 60 < x.2.1 + takes q.1) : plg B V P (n + 1) x = plg B V P n (x.1 &&& P q.1, x.2.1 + takes q.1, x.2.2 + 1) := by
  rw [plg, if_neg h0, hq]
  exact (if_neg h1).trans (if_neg h)
end Plg
section Ply
variable {c : CO} {t n : Nat} {x : Nat × Nat × Nat} {q : Nat × Nat}
theorem ply_a (h : pc x.1 ≤ 1) : ply c t (n + 1) x = x := plg_a h
theorem ply_b (hq : bst (vl c x.1 0) 60 28 = some q) (h : pc x.1 ≤ WS c q.1 q.1 x.1) : ply c t (n + 1) x = x := plg_b (q := q) hq h
theorem ply_c (hq : bst (vl c x.1 0) 60 28 = some q) (h : 60 < x.2.1 + takes q.1) : ply c t (n + 1) x = x := plg_c (q := q) hq h
theorem ply_d (hq : bst (vl c x.1 0) 60 28 = some q) (h0 : ¬ pc x.1 ≤ 1) (h1 : ¬ pc x.1 ≤ WS c q.1 q.1 x.1) (h : ¬ 60 < x.2.1 + takes q.1) : ply c t (n + 1) x = ply c t n (x.1 &&& sm c q.1 t, x.2.1 + takes q.1, x.2.2 + 1) := plg_d (q := q) hq h0 h1 h
end Ply
