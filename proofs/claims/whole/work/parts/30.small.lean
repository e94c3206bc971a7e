/-! contracts of small methods: no loop, no heap but a field -/
theorem GoodF.intro {d : Nat} {M : MT} {args : List Value} {σ : Hp} {v : Option Value} {σ1 : Hp} (hy : plainName M.1.cls = true) (hc : ∀ v ∈ args, v.category = 1) (hn : args.length ≤ M.2.2.1) (h : ∀ X, RetOK X v σ1 → SW d M X 0 (entL args M.2.2.1) [] σ) : GoodF d M args σ v σ1 :=
  Good.intro hy hc hn (fun X hR => h X (hR v σ1 ⟨rfl, rfl⟩))
theorem cat_nil : ∀ v ∈ ([] : List Value), v.category = 1 := fun _ h => by cases h
theorem cat_int {x : Int32} {l : List Value} (h : ∀ v ∈ l, v.category = 1) : ∀ v ∈ (.int x :: l), v.category = 1 := fun v hv => by
  rcases List.mem_cons.mp hv with rfl | h1
  · rfl
  · exact h v h1
theorem cat_ref {x : Nat} {l : List Value} (h : ∀ v ∈ l, v.category = 1) : ∀ v ∈ (.ref x :: l), v.category = 1 := fun v hv => by
  rcases List.mem_cons.mp hv with rfl | h1
  · rfl
  · exact h v h1
theorem RetOK.cg {X : CX} {v w : Value} {σ : Hp} (h : RetOK X (some v) σ) (e : w = v) : RetOK X (some w) σ := e ▸ h
theorem RetOK.bt {X : CX} {p : Prop} {σ : Hp} (h : RetOK X (some (.int (bI p))) σ) (e : p) : RetOK X (some (.int (nI 1))) σ := by rw [bI_t e] at h; exact h
theorem RetOK.bf {X : CX} {p : Prop} {σ : Hp} (h : RetOK X (some (.int (bI p))) σ) (e : ¬ p) : RetOK X (some (.int (nI 0))) σ := by rw [bI_f e] at h; exact h
theorem nI2 : nI 2 = 2 := rfl
theorem i_le (x y : Int32) : x ≤ y ↔ x.toInt ≤ y.toInt := Int32.le_iff_toInt_le
theorem i_lt (x y : Int32) : x < y ↔ x.toInt < y.toInt := Int32.lt_iff_toInt_lt
/-- x is a number below n -/
def lt' (x : Int32) (n : Nat) : Prop := ∃ j, j < n ∧ x = nI j
theorem lt'_iff {x : Int32} {n : Nat} (hn : n < 2147483648) : lt' x n ↔ (¬ x < 0 ∧ x < nI n) := by
  constructor
  · rintro ⟨j, h1, rfl⟩
    exact ⟨nI_pos (by omega), nI_lt h1 hn⟩
  · rintro ⟨h1, h2⟩
    obtain ⟨j, hj, rfl⟩ := nI_of h1
    exact ⟨j, (nI_ltI hj hn).mp h2, rfl⟩
theorem G_X5_isBand {σ : Hp} {x : Int32} : GoodF 1 mX5_isBand [.int x] σ (some (.int (bI (lt' x 2)))) σ := by
  refine GoodF.intro (by decide) (cat_int cat_nil) (Nat.le_of_ble_eq_true rfl) (fun X hR => ?_)
  show SW 1 mX5_isBand X 0 [some (.int x)] [] σ
  repeat' (first | with_reducible refine sX5_isBand_0 ?_ | with_reducible refine sX5_isBand_1n (by omega) ?_ | with_reducible refine sX5_isBand_1m ?_ | with_reducible refine sX5_isBand_1 (fun h => ?_) (fun h => ?_) | with_reducible refine sX5_isBand_4 ?_ | with_reducible refine sX5_isBand_5 ?_ | with_reducible refine sX5_isBand_6n (by omega) (by omega) (fun h => ?_) (fun h => ?_) | with_reducible refine sX5_isBand_6 (fun h => ?_) (fun h => ?_) | with_reducible refine sX5_isBand_9 ?_ | with_reducible refine sX5_isBand_10 ?_ | with_reducible refine sX5_isBand_13 ?_ | with_reducible refine sX5_isBand_14 (by with_unfolding_all rfl) ?_)
  all_goals sorry
theorem G_J6_bitCount {σ : Hp} {x : Nat} (hx : x < 4294967296) : GoodF 1 mJ6_bitCount_0f7a4 [.int (nI x)] σ (some (.int (nI (pc x)))) σ := by
  refine GoodF.intro (by decide) (cat_int cat_nil) (Nat.le_of_ble_eq_true rfl) (fun X hR => ?_)
  show SW 1 mJ6_bitCount_0f7a4 X 0 [some (.int (nI x))] [] σ
  repeat' (first | with_reducible refine sJ6_bitCount_0f7a4_0 ?_ | with_reducible refine sJ6_bitCount_0f7a4_1 ?_ | with_reducible refine sJ6_bitCount_0f7a4_2 ?_ | with_reducible refine sJ6_bitCount_0f7a4_3n (by omega) (by omega) ?_ | with_reducible refine sJ6_bitCount_0f7a4_3 ?_ | with_reducible refine sJ6_bitCount_0f7a4_4 ?_ | with_reducible refine sJ6_bitCount_0f7a4_7o ?_ | with_reducible refine sJ6_bitCount_0f7a4_7c ?_ | with_reducible refine sJ6_bitCount_0f7a4_7n ?_ | with_reducible refine sJ6_bitCount_0f7a4_7 ?_ | with_reducible refine sJ6_bitCount_0f7a4_8n (by omega) ?_ | with_reducible refine sJ6_bitCount_0f7a4_8 ?_ | with_reducible refine sJ6_bitCount_0f7a4_9 ?_ | with_reducible refine sJ6_bitCount_0f7a4_10 ?_ | with_reducible refine sJ6_bitCount_0f7a4_11 ?_ | with_reducible refine sJ6_bitCount_0f7a4_14o ?_ | with_reducible refine sJ6_bitCount_0f7a4_14c ?_ | with_reducible refine sJ6_bitCount_0f7a4_14n ?_ | with_reducible refine sJ6_bitCount_0f7a4_14 ?_ | with_reducible refine sJ6_bitCount_0f7a4_15 ?_ | with_reducible refine sJ6_bitCount_0f7a4_16 ?_ | with_reducible refine sJ6_bitCount_0f7a4_17n (by omega) (by omega) ?_ | with_reducible refine sJ6_bitCount_0f7a4_17 ?_ | with_reducible refine sJ6_bitCount_0f7a4_18 ?_ | with_reducible refine sJ6_bitCount_0f7a4_21o ?_ | with_reducible refine sJ6_bitCount_0f7a4_21c ?_ | with_reducible refine sJ6_bitCount_0f7a4_21n ?_ | with_reducible refine sJ6_bitCount_0f7a4_21 ?_ | with_reducible refine sJ6_bitCount_0f7a4_22n ?_ | with_reducible refine sJ6_bitCount_0f7a4_22 ?_ | with_reducible refine sJ6_bitCount_0f7a4_23 ?_ | with_reducible refine sJ6_bitCount_0f7a4_24 ?_ | with_reducible refine sJ6_bitCount_0f7a4_25 ?_ | with_reducible refine sJ6_bitCount_0f7a4_26 ?_ | with_reducible refine sJ6_bitCount_0f7a4_27n (by omega) (by omega) ?_ | with_reducible refine sJ6_bitCount_0f7a4_27 ?_ | with_reducible refine sJ6_bitCount_0f7a4_28n ?_ | with_reducible refine sJ6_bitCount_0f7a4_28 ?_ | with_reducible refine sJ6_bitCount_0f7a4_29 ?_ | with_reducible refine sJ6_bitCount_0f7a4_32o ?_ | with_reducible refine sJ6_bitCount_0f7a4_32c ?_ | with_reducible refine sJ6_bitCount_0f7a4_32n ?_ | with_reducible refine sJ6_bitCount_0f7a4_32 ?_ | with_reducible refine sJ6_bitCount_0f7a4_33 ?_ | with_reducible refine sJ6_bitCount_0f7a4_34 ?_ | with_reducible refine sJ6_bitCount_0f7a4_35 ?_ | with_reducible refine sJ6_bitCount_0f7a4_36 ?_ | with_reducible refine sJ6_bitCount_0f7a4_38n (by omega) (by omega) ?_ | with_reducible refine sJ6_bitCount_0f7a4_38 ?_ | with_reducible refine sJ6_bitCount_0f7a4_39n ?_ | with_reducible refine sJ6_bitCount_0f7a4_39 ?_ | with_reducible refine sJ6_bitCount_0f7a4_40 ?_ | with_reducible refine sJ6_bitCount_0f7a4_41 ?_ | with_reducible refine sJ6_bitCount_0f7a4_42 ?_ | with_reducible refine sJ6_bitCount_0f7a4_43 ?_ | with_reducible refine sJ6_bitCount_0f7a4_45n (by omega) (by omega) ?_ | with_reducible refine sJ6_bitCount_0f7a4_45 ?_ | with_reducible refine sJ6_bitCount_0f7a4_46n ?_ | with_reducible refine sJ6_bitCount_0f7a4_46 ?_ | with_reducible refine sJ6_bitCount_0f7a4_47 ?_ | with_reducible refine sJ6_bitCount_0f7a4_48 ?_ | with_reducible refine sJ6_bitCount_0f7a4_49 ?_ | with_reducible refine sJ6_bitCount_0f7a4_51o ?_ | with_reducible refine sJ6_bitCount_0f7a4_51c ?_ | with_reducible refine sJ6_bitCount_0f7a4_51n ?_ | with_reducible refine sJ6_bitCount_0f7a4_51 ?_ | with_reducible refine sJ6_bitCount_0f7a4_52 ?_)
  all_goals sorry
theorem G_X3_wordAt {σ : Hp} {b : Nat} (hb : b = 1 ∨ b = 11 ∨ b = 21) {t i : Nat} (hti : 4 * t + i < 96) : GoodF 1 mX3_wordAt [.ref b, .int (nI t), .int (nI i)] σ (some (.int (σ (b + 4) (4 * t + i)))) σ := by
  refine GoodF.intro (by decide) (cat_ref (cat_int (cat_int cat_nil))) (Nat.le_of_ble_eq_true rfl) (fun X hR => ?_)
  show SW 1 mX3_wordAt X 0 [some (.ref b), some (.int (nI t)), some (.int (nI i))] [] σ
  rcases hb with rfl | rfl | rfl
  · repeat' (first | with_reducible refine sX3_wordAt_0 ?_ | with_reducible refine sX3_wordAt_1 (q := 1) (p := 5) (by with_unfolding_all rfl) ?_ | with_reducible refine sX3_wordAt_1 (q := 11) (p := 15) (by with_unfolding_all rfl) ?_ | with_reducible refine sX3_wordAt_1 (q := 21) (p := 25) (by with_unfolding_all rfl) ?_ | with_reducible refine sX3_wordAt_4 ?_ | with_reducible refine sX3_wordAt_5 ?_ | with_reducible refine sX3_wordAt_6n ?_ | with_reducible refine sX3_wordAt_6 ?_ | with_reducible refine sX3_wordAt_7 ?_ | with_reducible refine sX3_wordAt_8n ?_ | with_reducible refine sX3_wordAt_8 ?_ | with_reducible refine sX3_wordAt_9n (by with_unfolding_all rfl) (by first | omega | decide) (by first | assumption | rfl) ?_ | with_reducible refine sX3_wordAt_10 ?_)
    all_goals sorry
  · repeat' (first | with_reducible refine sX3_wordAt_0 ?_ | with_reducible refine sX3_wordAt_1 (q := 1) (p := 5) (by with_unfolding_all rfl) ?_ | with_reducible refine sX3_wordAt_1 (q := 11) (p := 15) (by with_unfolding_all rfl) ?_ | with_reducible refine sX3_wordAt_1 (q := 21) (p := 25) (by with_unfolding_all rfl) ?_ | with_reducible refine sX3_wordAt_4 ?_ | with_reducible refine sX3_wordAt_5 ?_ | with_reducible refine sX3_wordAt_6n ?_ | with_reducible refine sX3_wordAt_6 ?_ | with_reducible refine sX3_wordAt_7 ?_ | with_reducible refine sX3_wordAt_8n ?_ | with_reducible refine sX3_wordAt_8 ?_ | with_reducible refine sX3_wordAt_9n (by with_unfolding_all rfl) (by first | omega | decide) (by first | assumption | rfl) ?_ | with_reducible refine sX3_wordAt_10 ?_)
    all_goals sorry
  · repeat' (first | with_reducible refine sX3_wordAt_0 ?_ | with_reducible refine sX3_wordAt_1 (q := 1) (p := 5) (by with_unfolding_all rfl) ?_ | with_reducible refine sX3_wordAt_1 (q := 11) (p := 15) (by with_unfolding_all rfl) ?_ | with_reducible refine sX3_wordAt_1 (q := 21) (p := 25) (by with_unfolding_all rfl) ?_ | with_reducible refine sX3_wordAt_4 ?_ | with_reducible refine sX3_wordAt_5 ?_ | with_reducible refine sX3_wordAt_6n ?_ | with_reducible refine sX3_wordAt_6 ?_ | with_reducible refine sX3_wordAt_7 ?_ | with_reducible refine sX3_wordAt_8n ?_ | with_reducible refine sX3_wordAt_8 ?_ | with_reducible refine sX3_wordAt_9n (by with_unfolding_all rfl) (by first | omega | decide) (by first | assumption | rfl) ?_ | with_reducible refine sX3_wordAt_10 ?_)
    exact hR
