/-! contracts of small methods: no loop, no heap but a field -/
theorem GoodF.intro {d : Nat} {M : MT} {args : List Value} {σ : Hp} {v : Option Value} {σ1 : Hp} (hy : plainName M.1.cls = true) (hc : ∀ v ∈ args, v.category = 1) (hn : args.length ≤ M.2.2.1) (h : ∀ X, RetOK X v σ1 → SW d M X 0 (entL args M.2.2.1) [] σ) : GoodF d M args σ v σ1 :=
  Good.intro hy hc hn (fun X hR => h X (hR v σ1 ⟨rfl, rfl⟩))
theorem cat_nil : ∀ v ∈ ([] : List Value), v.category = 1 := fun _ h => by cases h
theorem cat_int {x : Int32} {l : List Value} (h : ∀ v ∈ l, v.category = 1) : ∀ v ∈ (.int x :: l), v.category = 1 := fun v hv => by
  rcases List.mem_cons.mp hv with rfl | h1
  · rfl
  · exact h v h1
theorem cat_ref {x : Nat} {l : List Value} (h : ∀ v ∈ l, v.category = 1) : ∀ v ∈ (.ref x :: l), v.category = 1 := fun v hv => by
  rcases List.mem_cons.mp hv with rfl | h1
  · rfl
  · exact h v h1
theorem RetOK.cg {X : CX} {v w : Value} {σ : Hp} (h : RetOK X (some v) σ) (e : w = v) : RetOK X (some w) σ := e ▸ h
theorem RetOK.ci {X : CX} {x y : Int32} {σ : Hp} (h : RetOK X (some (.int x)) σ) (e : y = x) : RetOK X (some (.int y)) σ := e ▸ h
theorem RetOK.bt {X : CX} {p : Prop} {σ : Hp} (h : RetOK X (some (.int (bI p))) σ) (e : p) : RetOK X (some (.int (nI 1))) σ := by rw [bI_t e] at h; exact h
theorem RetOK.bf {X : CX} {p : Prop} {σ : Hp} (h : RetOK X (some (.int (bI p))) σ) (e : ¬ p) : RetOK X (some (.int (nI 0))) σ := by rw [bI_f e] at h; exact h
/-- x is a number below n -/
def lt' (x : Int32) (n : Nat) : Prop := ∃ j, j < n ∧ x = nI j
theorem lt'_t {x : Int32} {n : Nat} (hn : n < 2147483648) (h1 : ¬ x < 0) (h2 : ¬ nI n ≤ x) : lt' x n := by
  obtain ⟨j, hj, rfl⟩ := nI_of h1
  exact ⟨j, Nat.not_le.mp (fun z => h2 ((nI_leI hn hj).mpr z)), rfl⟩
theorem lt'_f1 {x : Int32} {n : Nat} (hn : n < 2147483648) (h : x < 0) : ¬ lt' x n := by
  rintro ⟨j, h1, rfl⟩
  exact nI_pos (by omega) h
theorem lt'_f2 {x : Int32} {n : Nat} (hn : n < 2147483648) (h : nI n ≤ x) : ¬ lt' x n := by
  rintro ⟨j, h1, rfl⟩
  exact absurd ((nI_leI hn (by omega)).mp h) (by omega)
theorem i_of (x : Int32) : ∃ n : Nat, n < 4294967296 ∧ x = nI n := ⟨x.toBitVec.toNat, x.toBitVec.isLt, by
  apply Int32.toBitVec_inj.mp
  rw [nI_bv]
  simp⟩
theorem G_X5_isBand {σ : Hp} {x : Int32} : GoodF 1 mX5_isBand [.int x] σ (some (.int (bI (lt' x 2)))) σ := by
  refine GoodF.intro (by decide) (cat_int cat_nil) (Nat.le_of_ble_eq_true rfl) (fun X hR => ?_)
  show SW 1 mX5_isBand X 0 [some (.int x)] [] _
  repeat' (first | with_reducible refine sX5_isBand_0 ?_ | with_reducible refine sX5_isBand_1n (by omega) ?_ | with_reducible refine sX5_isBand_1m ?_ | with_reducible refine sX5_isBand_1 (fun h => ?_) (fun h => ?_) | with_reducible refine sX5_isBand_4 ?_ | with_reducible refine sX5_isBand_5 ?_ | with_reducible refine sX5_isBand_6n (by omega) (by omega) (fun h => ?_) (fun h => ?_) | with_reducible refine sX5_isBand_6 (fun h => ?_) (fun h => ?_) | with_reducible refine sX5_isBand_9 ?_ | with_reducible refine sX5_isBand_10 ?_ | with_reducible refine sX5_isBand_13 ?_ | with_reducible refine sX5_isBand_14 (by with_unfolding_all rfl) ?_)
  · exact hR.bf (lt'_f1 (by decide) (by assumption))
  · exact hR.bf (lt'_f2 (by decide) (by assumption))
  · exact hR.bt (lt'_t (by decide) (by assumption) (by assumption))
theorem G_X5_isKind {σ : Hp} {x : Int32} : GoodF 1 mX5_isKind [.int x] σ (some (.int (bI (lt' x 7)))) σ := by
  refine GoodF.intro (by decide) (cat_int cat_nil) (Nat.le_of_ble_eq_true rfl) (fun X hR => ?_)
  show SW 1 mX5_isKind X 0 [some (.int x)] [] _
  repeat' (first | with_reducible refine sX5_isKind_0 ?_ | with_reducible refine sX5_isKind_1n (by omega) ?_ | with_reducible refine sX5_isKind_1m ?_ | with_reducible refine sX5_isKind_1 (fun h => ?_) (fun h => ?_) | with_reducible refine sX5_isKind_4 ?_ | with_reducible refine sX5_isKind_5 ?_ | with_reducible refine sX5_isKind_7n (by omega) (by omega) (fun h => ?_) (fun h => ?_) | with_reducible refine sX5_isKind_7 (fun h => ?_) (fun h => ?_) | with_reducible refine sX5_isKind_10 ?_ | with_reducible refine sX5_isKind_11 ?_ | with_reducible refine sX5_isKind_14 ?_ | with_reducible refine sX5_isKind_15 (by with_unfolding_all rfl) ?_)
  · exact hR.bf (lt'_f1 (by decide) (by assumption))
  · exact hR.bf (lt'_f2 (by decide) (by assumption))
  · exact hR.bt (lt'_t (by decide) (by assumption) (by assumption))
theorem G_X5_isPlace {σ : Hp} {x : Int32} : GoodF 1 mX5_isPlace [.int x] σ (some (.int (bI (lt' x 4)))) σ := by
  refine GoodF.intro (by decide) (cat_int cat_nil) (Nat.le_of_ble_eq_true rfl) (fun X hR => ?_)
  show SW 1 mX5_isPlace X 0 [some (.int x)] [] _
  repeat' (first | with_reducible refine sX5_isPlace_0 ?_ | with_reducible refine sX5_isPlace_1n (by omega) ?_ | with_reducible refine sX5_isPlace_1m ?_ | with_reducible refine sX5_isPlace_1 (fun h => ?_) (fun h => ?_) | with_reducible refine sX5_isPlace_4 ?_ | with_reducible refine sX5_isPlace_5 ?_ | with_reducible refine sX5_isPlace_6n (by omega) (by omega) (fun h => ?_) (fun h => ?_) | with_reducible refine sX5_isPlace_6 (fun h => ?_) (fun h => ?_) | with_reducible refine sX5_isPlace_9 ?_ | with_reducible refine sX5_isPlace_10 ?_ | with_reducible refine sX5_isPlace_13 ?_ | with_reducible refine sX5_isPlace_14 (by with_unfolding_all rfl) ?_)
  · exact hR.bf (lt'_f1 (by decide) (by assumption))
  · exact hR.bf (lt'_f2 (by decide) (by assumption))
  · exact hR.bt (lt'_t (by decide) (by assumption) (by assumption))
theorem G_X5_isSpot {σ : Hp} {x : Int32} : GoodF 1 mX5_isSpot [.int x] σ (some (.int (bI (lt' x 10)))) σ := by
  refine GoodF.intro (by decide) (cat_int cat_nil) (Nat.le_of_ble_eq_true rfl) (fun X hR => ?_)
  show SW 1 mX5_isSpot X 0 [some (.int x)] [] _
  repeat' (first | with_reducible refine sX5_isSpot_0 ?_ | with_reducible refine sX5_isSpot_1n (by omega) ?_ | with_reducible refine sX5_isSpot_1m ?_ | with_reducible refine sX5_isSpot_1 (fun h => ?_) (fun h => ?_) | with_reducible refine sX5_isSpot_4 ?_ | with_reducible refine sX5_isSpot_5 ?_ | with_reducible refine sX5_isSpot_7n (by omega) (by omega) (fun h => ?_) (fun h => ?_) | with_reducible refine sX5_isSpot_7 (fun h => ?_) (fun h => ?_) | with_reducible refine sX5_isSpot_10 ?_ | with_reducible refine sX5_isSpot_11 ?_ | with_reducible refine sX5_isSpot_14 ?_ | with_reducible refine sX5_isSpot_15 (by with_unfolding_all rfl) ?_)
  · exact hR.bf (lt'_f1 (by decide) (by assumption))
  · exact hR.bf (lt'_f2 (by decide) (by assumption))
  · exact hR.bt (lt'_t (by decide) (by assumption) (by assumption))
theorem G_X5_isSheet {σ : Hp} {x : Int32} : GoodF 1 mX5_isSheet [.int x] σ (some (.int (bI (lt' x 4)))) σ := by
  refine GoodF.intro (by decide) (cat_int cat_nil) (Nat.le_of_ble_eq_true rfl) (fun X hR => ?_)
  show SW 1 mX5_isSheet X 0 [some (.int x)] [] _
  repeat' (first | with_reducible refine sX5_isSheet_0 ?_ | with_reducible refine sX5_isSheet_1n (by omega) ?_ | with_reducible refine sX5_isSheet_1m ?_ | with_reducible refine sX5_isSheet_1 (fun h => ?_) (fun h => ?_) | with_reducible refine sX5_isSheet_4 ?_ | with_reducible refine sX5_isSheet_5 ?_ | with_reducible refine sX5_isSheet_6n (by omega) (by omega) (fun h => ?_) (fun h => ?_) | with_reducible refine sX5_isSheet_6 (fun h => ?_) (fun h => ?_) | with_reducible refine sX5_isSheet_9 ?_ | with_reducible refine sX5_isSheet_10 ?_ | with_reducible refine sX5_isSheet_13 ?_ | with_reducible refine sX5_isSheet_14 (by with_unfolding_all rfl) ?_)
  · exact hR.bf (lt'_f1 (by decide) (by assumption))
  · exact hR.bf (lt'_f2 (by decide) (by assumption))
  · exact hR.bt (lt'_t (by decide) (by assumption) (by assumption))
theorem G_X5_isWord {σ : Hp} {x : Int32} {nw : Nat} (h0 : σ 1 3 = nI nw) (hw : nw ≤ 16) : GoodF 1 mX5_isWord [.ref 0, .int x] σ (some (.int (bI (lt' x nw)))) σ := by
  refine GoodF.intro (by decide) (cat_ref (cat_int cat_nil)) (Nat.le_of_ble_eq_true rfl) (fun X hR => ?_)
  show SW 1 mX5_isWord X 0 [some (.ref 0), some (.int x)] [] _
  repeat' (first | with_reducible refine sX5_isWord_0 ?_ | with_reducible refine sX5_isWord_1n (by omega) ?_ | with_reducible refine sX5_isWord_1m ?_ | with_reducible refine sX5_isWord_1 (fun h => ?_) (fun h => ?_) | with_reducible refine sX5_isWord_4 ?_ | with_reducible refine sX5_isWord_5 ?_ | with_reducible refine sX5_isWord_6 (q := 0) (p := 1) (by with_unfolding_all rfl) ?_ | with_reducible refine sX5_isWord_9 (by with_unfolding_all rfl) (by first | assumption | rfl) ?_ | with_reducible refine sX5_isWord_12n (by omega) (by omega) (fun h => ?_) (fun h => ?_) | with_reducible refine sX5_isWord_12 (fun h => ?_) (fun h => ?_) | with_reducible refine sX5_isWord_15 ?_ | with_reducible refine sX5_isWord_16 ?_ | with_reducible refine sX5_isWord_19 ?_ | with_reducible refine sX5_isWord_20 (by with_unfolding_all rfl) ?_)
  · exact hR.bf (lt'_f1 (by omega) (by assumption))
  · exact hR.bf (lt'_f2 (by omega) (by assumption))
  · exact hR.bt (lt'_t (by omega) (by assumption) (by assumption))
theorem G_X5_isTitle {σ : Hp} {x : Int32} {nt : Nat} (h0 : σ 1 6 = nI nt) (hw : nt ≤ 24) : GoodF 1 mX5_isTitle [.ref 0, .int x] σ (some (.int (bI (lt' x nt)))) σ := by
  refine GoodF.intro (by decide) (cat_ref (cat_int cat_nil)) (Nat.le_of_ble_eq_true rfl) (fun X hR => ?_)
  show SW 1 mX5_isTitle X 0 [some (.ref 0), some (.int x)] [] _
  repeat' (first | with_reducible refine sX5_isTitle_0 ?_ | with_reducible refine sX5_isTitle_1n (by omega) ?_ | with_reducible refine sX5_isTitle_1m ?_ | with_reducible refine sX5_isTitle_1 (fun h => ?_) (fun h => ?_) | with_reducible refine sX5_isTitle_4 ?_ | with_reducible refine sX5_isTitle_5 ?_ | with_reducible refine sX5_isTitle_6 (q := 0) (p := 1) (by with_unfolding_all rfl) ?_ | with_reducible refine sX5_isTitle_9 (by with_unfolding_all rfl) (by first | assumption | rfl) ?_ | with_reducible refine sX5_isTitle_12n (by omega) (by omega) (fun h => ?_) (fun h => ?_) | with_reducible refine sX5_isTitle_12 (fun h => ?_) (fun h => ?_) | with_reducible refine sX5_isTitle_15 ?_ | with_reducible refine sX5_isTitle_16 ?_ | with_reducible refine sX5_isTitle_19 ?_ | with_reducible refine sX5_isTitle_20 (by with_unfolding_all rfl) ?_)
  · exact hR.bf (lt'_f1 (by omega) (by assumption))
  · exact hR.bf (lt'_f2 (by omega) (by assumption))
  · exact hR.bt (lt'_t (by omega) (by assumption) (by assumption))
theorem G_X5_signOf {σ : Hp} {k i : Nat} : GoodF 1 mX5_signOf [.int (nI k), .int (nI i)] σ (some (.int (nI (4 * k + i)))) σ := by
  refine GoodF.intro (by decide) (cat_int (cat_int cat_nil)) (Nat.le_of_ble_eq_true rfl) (fun X hR => ?_)
  show SW 1 mX5_signOf X 0 [some (.int (nI k)), some (.int (nI i))] [] _
  repeat' (first | with_reducible refine sX5_signOf_0 ?_ | with_reducible refine sX5_signOf_1 ?_ | with_reducible refine sX5_signOf_2n ?_ | with_reducible refine sX5_signOf_2 ?_ | with_reducible refine sX5_signOf_3 ?_ | with_reducible refine sX5_signOf_4n ?_ | with_reducible refine sX5_signOf_4 ?_ | with_reducible refine sX5_signOf_5 ?_)
  exact hR
theorem G_X5_kindOf {σ : Hp} {s : Nat} (hs : s < 28) : GoodF 1 mX5_kindOf [.int (nI s)] σ (some (.int (nI (s / 4)))) σ := by
  refine GoodF.intro (by decide) (cat_int cat_nil) (Nat.le_of_ble_eq_true rfl) (fun X hR => ?_)
  show SW 1 mX5_kindOf X 0 [some (.int (nI s))] [] _
  repeat' (first | with_reducible refine sX5_kindOf_0 ?_ | with_reducible refine sX5_kindOf_1 ?_ | with_reducible refine sX5_kindOf_2n (by omega) (by omega) (by omega) ?_ | with_reducible refine sX5_kindOf_2 (by decide) ?_ | with_reducible refine sX5_kindOf_3 ?_)
  exact hR
theorem G_X5_placeOf {σ : Hp} {s : Nat} (hs : s < 28) : GoodF 1 mX5_placeOf [.int (nI s)] σ (some (.int (nI (s % 4)))) σ := by
  refine GoodF.intro (by decide) (cat_int cat_nil) (Nat.le_of_ble_eq_true rfl) (fun X hR => ?_)
  show SW 1 mX5_placeOf X 0 [some (.int (nI s))] [] _
  repeat' (first | with_reducible refine sX5_placeOf_0 ?_ | with_reducible refine sX5_placeOf_1 ?_ | with_reducible refine sX5_placeOf_2n (by omega) (by omega) (by omega) ?_ | with_reducible refine sX5_placeOf_2 (by decide) ?_ | with_reducible refine sX5_placeOf_3 ?_)
  exact hR
def takes (s : Nat) : Nat := if s / 4 = 0 then 3 else if s / 4 = 1 then 5 else if s / 4 = 2 then 8 else if s / 4 = 3 then 12 else if s / 4 = 4 then 4 else if s / 4 = 5 then 2 else 20 + s % 4
theorem takes_le : ∀ s : Fin 28, 2 ≤ takes s.val ∧ takes s.val ≤ 23 := by decide
theorem G_X5_timeOf {σ : Hp} {s : Nat} (hs : s < 28) : GoodF 2 mX5_timeOf [.int (nI s)] σ (some (.int (nI (takes s)))) σ := by
  refine GoodF.intro (by decide) (cat_int cat_nil) (Nat.le_of_ble_eq_true rfl) (fun X hR => ?_)
  show SW 2 mX5_timeOf X 0 [some (.int (nI s))] [] _
  refine sX5_timeOf_0 ?_
  refine sX5_timeOf_1 (G_X5_kindOf hs) (by decide) (Nat.le_of_ble_eq_true rfl) ?_
  have hc : s / 4 = 0 ∨ s / 4 = 1 ∨ s / 4 = 2 ∨ s / 4 = 3 ∨ s / 4 = 4 ∨ s / 4 = 5 ∨ s / 4 = 6 := by omega
  rcases hc with h | h | h | h | h | h | h <;> rw [h] <;> simp only [takes, h] at hR
  · repeat' (first | with_reducible refine sX5_timeOf_0 ?_ | with_reducible refine sX5_timeOf_1 (by apply G_X5_kindOf <;> (first | assumption | omega | rfl | decide)) (by decide) (by with_unfolding_all exact Nat.le_of_ble_eq_true rfl) ?_ | with_reducible refine sX5_timeOf_4_c0 ?_ | with_reducible refine sX5_timeOf_4_c1 ?_ | with_reducible refine sX5_timeOf_4_c2 ?_ | with_reducible refine sX5_timeOf_4_c3 ?_ | with_reducible refine sX5_timeOf_4_c4 ?_ | with_reducible refine sX5_timeOf_4_c5 ?_ | with_reducible refine sX5_timeOf_44 ?_ | with_reducible refine sX5_timeOf_45 ?_ | with_reducible refine sX5_timeOf_46 ?_ | with_reducible refine sX5_timeOf_47 ?_ | with_reducible refine sX5_timeOf_48 ?_ | with_reducible refine sX5_timeOf_50 ?_ | with_reducible refine sX5_timeOf_51 ?_ | with_reducible refine sX5_timeOf_53 ?_ | with_reducible refine sX5_timeOf_54 ?_ | with_reducible refine sX5_timeOf_55 ?_ | with_reducible refine sX5_timeOf_56 ?_ | with_reducible refine sX5_timeOf_57 ?_ | with_reducible refine sX5_timeOf_58 ?_ | with_reducible refine sX5_timeOf_60 ?_ | with_reducible refine sX5_timeOf_61 (by apply G_X5_placeOf <;> (first | assumption | omega | rfl | decide)) (by decide) (by with_unfolding_all exact Nat.le_of_ble_eq_true rfl) ?_ | with_reducible refine sX5_timeOf_64n ?_ | with_reducible refine sX5_timeOf_64 ?_ | with_reducible refine sX5_timeOf_65 ?_)
    exact hR
  · repeat' (first | with_reducible refine sX5_timeOf_0 ?_ | with_reducible refine sX5_timeOf_1 (by apply G_X5_kindOf <;> (first | assumption | omega | rfl | decide)) (by decide) (by with_unfolding_all exact Nat.le_of_ble_eq_true rfl) ?_ | with_reducible refine sX5_timeOf_4_c0 ?_ | with_reducible refine sX5_timeOf_4_c1 ?_ | with_reducible refine sX5_timeOf_4_c2 ?_ | with_reducible refine sX5_timeOf_4_c3 ?_ | with_reducible refine sX5_timeOf_4_c4 ?_ | with_reducible refine sX5_timeOf_4_c5 ?_ | with_reducible refine sX5_timeOf_44 ?_ | with_reducible refine sX5_timeOf_45 ?_ | with_reducible refine sX5_timeOf_46 ?_ | with_reducible refine sX5_timeOf_47 ?_ | with_reducible refine sX5_timeOf_48 ?_ | with_reducible refine sX5_timeOf_50 ?_ | with_reducible refine sX5_timeOf_51 ?_ | with_reducible refine sX5_timeOf_53 ?_ | with_reducible refine sX5_timeOf_54 ?_ | with_reducible refine sX5_timeOf_55 ?_ | with_reducible refine sX5_timeOf_56 ?_ | with_reducible refine sX5_timeOf_57 ?_ | with_reducible refine sX5_timeOf_58 ?_ | with_reducible refine sX5_timeOf_60 ?_ | with_reducible refine sX5_timeOf_61 (by apply G_X5_placeOf <;> (first | assumption | omega | rfl | decide)) (by decide) (by with_unfolding_all exact Nat.le_of_ble_eq_true rfl) ?_ | with_reducible refine sX5_timeOf_64n ?_ | with_reducible refine sX5_timeOf_64 ?_ | with_reducible refine sX5_timeOf_65 ?_)
    exact hR
  · repeat' (first | with_reducible refine sX5_timeOf_0 ?_ | with_reducible refine sX5_timeOf_1 (by apply G_X5_kindOf <;> (first | assumption | omega | rfl | decide)) (by decide) (by with_unfolding_all exact Nat.le_of_ble_eq_true rfl) ?_ | with_reducible refine sX5_timeOf_4_c0 ?_ | with_reducible refine sX5_timeOf_4_c1 ?_ | with_reducible refine sX5_timeOf_4_c2 ?_ | with_reducible refine sX5_timeOf_4_c3 ?_ | with_reducible refine sX5_timeOf_4_c4 ?_ | with_reducible refine sX5_timeOf_4_c5 ?_ | with_reducible refine sX5_timeOf_44 ?_ | with_reducible refine sX5_timeOf_45 ?_ | with_reducible refine sX5_timeOf_46 ?_ | with_reducible refine sX5_timeOf_47 ?_ | with_reducible refine sX5_timeOf_48 ?_ | with_reducible refine sX5_timeOf_50 ?_ | with_reducible refine sX5_timeOf_51 ?_ | with_reducible refine sX5_timeOf_53 ?_ | with_reducible refine sX5_timeOf_54 ?_ | with_reducible refine sX5_timeOf_55 ?_ | with_reducible refine sX5_timeOf_56 ?_ | with_reducible refine sX5_timeOf_57 ?_ | with_reducible refine sX5_timeOf_58 ?_ | with_reducible refine sX5_timeOf_60 ?_ | with_reducible refine sX5_timeOf_61 (by apply G_X5_placeOf <;> (first | assumption | omega | rfl | decide)) (by decide) (by with_unfolding_all exact Nat.le_of_ble_eq_true rfl) ?_ | with_reducible refine sX5_timeOf_64n ?_ | with_reducible refine sX5_timeOf_64 ?_ | with_reducible refine sX5_timeOf_65 ?_)
    exact hR
  · repeat' (first | with_reducible refine sX5_timeOf_0 ?_ | with_reducible refine sX5_timeOf_1 (by apply G_X5_kindOf <;> (first | assumption | omega | rfl | decide)) (by decide) (by with_unfolding_all exact Nat.le_of_ble_eq_true rfl) ?_ | with_reducible refine sX5_timeOf_4_c0 ?_ | with_reducible refine sX5_timeOf_4_c1 ?_ | with_reducible refine sX5_timeOf_4_c2 ?_ | with_reducible refine sX5_timeOf_4_c3 ?_ | with_reducible refine sX5_timeOf_4_c4 ?_ | with_reducible refine sX5_timeOf_4_c5 ?_ | with_reducible refine sX5_timeOf_44 ?_ | with_reducible refine sX5_timeOf_45 ?_ | with_reducible refine sX5_timeOf_46 ?_ | with_reducible refine sX5_timeOf_47 ?_ | with_reducible refine sX5_timeOf_48 ?_ | with_reducible refine sX5_timeOf_50 ?_ | with_reducible refine sX5_timeOf_51 ?_ | with_reducible refine sX5_timeOf_53 ?_ | with_reducible refine sX5_timeOf_54 ?_ | with_reducible refine sX5_timeOf_55 ?_ | with_reducible refine sX5_timeOf_56 ?_ | with_reducible refine sX5_timeOf_57 ?_ | with_reducible refine sX5_timeOf_58 ?_ | with_reducible refine sX5_timeOf_60 ?_ | with_reducible refine sX5_timeOf_61 (by apply G_X5_placeOf <;> (first | assumption | omega | rfl | decide)) (by decide) (by with_unfolding_all exact Nat.le_of_ble_eq_true rfl) ?_ | with_reducible refine sX5_timeOf_64n ?_ | with_reducible refine sX5_timeOf_64 ?_ | with_reducible refine sX5_timeOf_65 ?_)
    exact hR
  · repeat' (first | with_reducible refine sX5_timeOf_0 ?_ | with_reducible refine sX5_timeOf_1 (by apply G_X5_kindOf <;> (first | assumption | omega | rfl | decide)) (by decide) (by with_unfolding_all exact Nat.le_of_ble_eq_true rfl) ?_ | with_reducible refine sX5_timeOf_4_c0 ?_ | with_reducible refine sX5_timeOf_4_c1 ?_ | with_reducible refine sX5_timeOf_4_c2 ?_ | with_reducible refine sX5_timeOf_4_c3 ?_ | with_reducible refine sX5_timeOf_4_c4 ?_ | with_reducible refine sX5_timeOf_4_c5 ?_ | with_reducible refine sX5_timeOf_44 ?_ | with_reducible refine sX5_timeOf_45 ?_ | with_reducible refine sX5_timeOf_46 ?_ | with_reducible refine sX5_timeOf_47 ?_ | with_reducible refine sX5_timeOf_48 ?_ | with_reducible refine sX5_timeOf_50 ?_ | with_reducible refine sX5_timeOf_51 ?_ | with_reducible refine sX5_timeOf_53 ?_ | with_reducible refine sX5_timeOf_54 ?_ | with_reducible refine sX5_timeOf_55 ?_ | with_reducible refine sX5_timeOf_56 ?_ | with_reducible refine sX5_timeOf_57 ?_ | with_reducible refine sX5_timeOf_58 ?_ | with_reducible refine sX5_timeOf_60 ?_ | with_reducible refine sX5_timeOf_61 (by apply G_X5_placeOf <;> (first | assumption | omega | rfl | decide)) (by decide) (by with_unfolding_all exact Nat.le_of_ble_eq_true rfl) ?_ | with_reducible refine sX5_timeOf_64n ?_ | with_reducible refine sX5_timeOf_64 ?_ | with_reducible refine sX5_timeOf_65 ?_)
    exact hR
  · repeat' (first | with_reducible refine sX5_timeOf_0 ?_ | with_reducible refine sX5_timeOf_1 (by apply G_X5_kindOf <;> (first | assumption | omega | rfl | decide)) (by decide) (by with_unfolding_all exact Nat.le_of_ble_eq_true rfl) ?_ | with_reducible refine sX5_timeOf_4_c0 ?_ | with_reducible refine sX5_timeOf_4_c1 ?_ | with_reducible refine sX5_timeOf_4_c2 ?_ | with_reducible refine sX5_timeOf_4_c3 ?_ | with_reducible refine sX5_timeOf_4_c4 ?_ | with_reducible refine sX5_timeOf_4_c5 ?_ | with_reducible refine sX5_timeOf_44 ?_ | with_reducible refine sX5_timeOf_45 ?_ | with_reducible refine sX5_timeOf_46 ?_ | with_reducible refine sX5_timeOf_47 ?_ | with_reducible refine sX5_timeOf_48 ?_ | with_reducible refine sX5_timeOf_50 ?_ | with_reducible refine sX5_timeOf_51 ?_ | with_reducible refine sX5_timeOf_53 ?_ | with_reducible refine sX5_timeOf_54 ?_ | with_reducible refine sX5_timeOf_55 ?_ | with_reducible refine sX5_timeOf_56 ?_ | with_reducible refine sX5_timeOf_57 ?_ | with_reducible refine sX5_timeOf_58 ?_ | with_reducible refine sX5_timeOf_60 ?_ | with_reducible refine sX5_timeOf_61 (by apply G_X5_placeOf <;> (first | assumption | omega | rfl | decide)) (by decide) (by with_unfolding_all exact Nat.le_of_ble_eq_true rfl) ?_ | with_reducible refine sX5_timeOf_64n ?_ | with_reducible refine sX5_timeOf_64 ?_ | with_reducible refine sX5_timeOf_65 ?_)
    exact hR
  · refine sX5_timeOf_4_d (by decide) ?_
    repeat' (first | with_reducible refine sX5_timeOf_0 ?_ | with_reducible refine sX5_timeOf_1 (by apply G_X5_kindOf <;> (first | assumption | omega | rfl | decide)) (by decide) (by with_unfolding_all exact Nat.le_of_ble_eq_true rfl) ?_ | with_reducible refine sX5_timeOf_4_c0 ?_ | with_reducible refine sX5_timeOf_4_c1 ?_ | with_reducible refine sX5_timeOf_4_c2 ?_ | with_reducible refine sX5_timeOf_4_c3 ?_ | with_reducible refine sX5_timeOf_4_c4 ?_ | with_reducible refine sX5_timeOf_4_c5 ?_ | with_reducible refine sX5_timeOf_44 ?_ | with_reducible refine sX5_timeOf_45 ?_ | with_reducible refine sX5_timeOf_46 ?_ | with_reducible refine sX5_timeOf_47 ?_ | with_reducible refine sX5_timeOf_48 ?_ | with_reducible refine sX5_timeOf_50 ?_ | with_reducible refine sX5_timeOf_51 ?_ | with_reducible refine sX5_timeOf_53 ?_ | with_reducible refine sX5_timeOf_54 ?_ | with_reducible refine sX5_timeOf_55 ?_ | with_reducible refine sX5_timeOf_56 ?_ | with_reducible refine sX5_timeOf_57 ?_ | with_reducible refine sX5_timeOf_58 ?_ | with_reducible refine sX5_timeOf_60 ?_ | with_reducible refine sX5_timeOf_61 (by apply G_X5_placeOf <;> (first | assumption | omega | rfl | decide)) (by decide) (by with_unfolding_all exact Nat.le_of_ble_eq_true rfl) ?_ | with_reducible refine sX5_timeOf_64n ?_ | with_reducible refine sX5_timeOf_64 ?_ | with_reducible refine sX5_timeOf_65 ?_)
    exact hR
theorem G_J6_bitCount_0f7a4 {σ : Hp} {x : Nat} (hx : x < 4294967296) : GoodF 1 mJ6_bitCount_0f7a4 [.int (nI x)] σ (some (.int (nI (pc x)))) σ := by
  refine GoodF.intro (by decide) (cat_int cat_nil) (Nat.le_of_ble_eq_true rfl) (fun X hR => ?_)
  show SW 1 mJ6_bitCount_0f7a4 X 0 [some (.int (nI x))] [] _
  repeat' (first | with_reducible refine sJ6_bitCount_0f7a4_0 ?_ | with_reducible refine sJ6_bitCount_0f7a4_1 ?_ | with_reducible refine sJ6_bitCount_0f7a4_2 ?_ | with_reducible refine sJ6_bitCount_0f7a4_3n (by omega) (by omega) ?_ | with_reducible refine sJ6_bitCount_0f7a4_3 ?_ | with_reducible refine sJ6_bitCount_0f7a4_4 ?_ | with_reducible refine sJ6_bitCount_0f7a4_7o ?_ | with_reducible refine sJ6_bitCount_0f7a4_7c ?_ | with_reducible refine sJ6_bitCount_0f7a4_7n ?_ | with_reducible refine sJ6_bitCount_0f7a4_7 ?_ | with_reducible refine sJ6_bitCount_0f7a4_8n (by omega) ?_ | with_reducible refine sJ6_bitCount_0f7a4_8 ?_ | with_reducible refine sJ6_bitCount_0f7a4_9 ?_ | with_reducible refine sJ6_bitCount_0f7a4_10 ?_ | with_reducible refine sJ6_bitCount_0f7a4_11 ?_ | with_reducible refine sJ6_bitCount_0f7a4_14o ?_ | with_reducible refine sJ6_bitCount_0f7a4_14c ?_ | with_reducible refine sJ6_bitCount_0f7a4_14n ?_ | with_reducible refine sJ6_bitCount_0f7a4_14 ?_ | with_reducible refine sJ6_bitCount_0f7a4_15 ?_ | with_reducible refine sJ6_bitCount_0f7a4_16 ?_ | with_reducible refine sJ6_bitCount_0f7a4_17n (by omega) (by omega) ?_ | with_reducible refine sJ6_bitCount_0f7a4_17 ?_ | with_reducible refine sJ6_bitCount_0f7a4_18 ?_ | with_reducible refine sJ6_bitCount_0f7a4_21o ?_ | with_reducible refine sJ6_bitCount_0f7a4_21c ?_ | with_reducible refine sJ6_bitCount_0f7a4_21n ?_ | with_reducible refine sJ6_bitCount_0f7a4_21 ?_ | with_reducible refine sJ6_bitCount_0f7a4_22n ?_ | with_reducible refine sJ6_bitCount_0f7a4_22 ?_ | with_reducible refine sJ6_bitCount_0f7a4_23 ?_ | with_reducible refine sJ6_bitCount_0f7a4_24 ?_ | with_reducible refine sJ6_bitCount_0f7a4_25 ?_ | with_reducible refine sJ6_bitCount_0f7a4_26 ?_ | with_reducible refine sJ6_bitCount_0f7a4_27n (by omega) (by omega) ?_ | with_reducible refine sJ6_bitCount_0f7a4_27 ?_ | with_reducible refine sJ6_bitCount_0f7a4_28n ?_ | with_reducible refine sJ6_bitCount_0f7a4_28 ?_ | with_reducible refine sJ6_bitCount_0f7a4_29 ?_ | with_reducible refine sJ6_bitCount_0f7a4_32o ?_ | with_reducible refine sJ6_bitCount_0f7a4_32c ?_ | with_reducible refine sJ6_bitCount_0f7a4_32n ?_ | with_reducible refine sJ6_bitCount_0f7a4_32 ?_ | with_reducible refine sJ6_bitCount_0f7a4_33 ?_ | with_reducible refine sJ6_bitCount_0f7a4_34 ?_ | with_reducible refine sJ6_bitCount_0f7a4_35 ?_ | with_reducible refine sJ6_bitCount_0f7a4_36 ?_ | with_reducible refine sJ6_bitCount_0f7a4_38n (by omega) (by omega) ?_ | with_reducible refine sJ6_bitCount_0f7a4_38 ?_ | with_reducible refine sJ6_bitCount_0f7a4_39n ?_ | with_reducible refine sJ6_bitCount_0f7a4_39 ?_ | with_reducible refine sJ6_bitCount_0f7a4_40 ?_ | with_reducible refine sJ6_bitCount_0f7a4_41 ?_ | with_reducible refine sJ6_bitCount_0f7a4_42 ?_ | with_reducible refine sJ6_bitCount_0f7a4_43 ?_ | with_reducible refine sJ6_bitCount_0f7a4_45n (by omega) (by omega) ?_ | with_reducible refine sJ6_bitCount_0f7a4_45 ?_ | with_reducible refine sJ6_bitCount_0f7a4_46n ?_ | with_reducible refine sJ6_bitCount_0f7a4_46 ?_ | with_reducible refine sJ6_bitCount_0f7a4_47 ?_ | with_reducible refine sJ6_bitCount_0f7a4_48 ?_ | with_reducible refine sJ6_bitCount_0f7a4_49 ?_ | with_reducible refine sJ6_bitCount_0f7a4_51o ?_ | with_reducible refine sJ6_bitCount_0f7a4_51c ?_ | with_reducible refine sJ6_bitCount_0f7a4_51n ?_ | with_reducible refine sJ6_bitCount_0f7a4_51 ?_ | with_reducible refine sJ6_bitCount_0f7a4_52 ?_)
  refine hR.ci ?_
  have h1 : x / 2 &&& 1431655765 ≤ x / 2 := Nat.and_le_left
  have e1 : nI x - nI (x / 2 ^ 1 &&& 1431655765) = nI (p1 1431655765 x) := pk_sub (by rw [Nat.pow_one]; omega)
  have l1 : p1 1431655765 x ≤ x := by unfold p1; omega
  rw [e1, nI_ushr (by omega) (by decide), nI_and, nI_and, nI_add]
  show _ = _
  have e2 : (p1 1431655765 x &&& 858993459) + (p1 1431655765 x / 2 ^ 2 &&& 858993459) = p2 858993459 (p1 1431655765 x) := rfl
  have l2a : p1 1431655765 x &&& 858993459 ≤ 858993459 := Nat.and_le_right
  have l2b : p1 1431655765 x / 2 ^ 2 &&& 858993459 ≤ 858993459 := Nat.and_le_right
  rw [e2, nI_ushr (by omega) (by decide), nI_add, nI_and]
  obtain ⟨q0, q1, q2, q3, a0, a1, a2, a3, hp, hq⟩ := swar hx
  have e3 : (p2 858993459 (p1 1431655765 x) + p2 858993459 (p1 1431655765 x) / 2 ^ 4) &&& 252645135 = q0 + 256 * q1 + 65536 * q2 + 16777216 * q3 := hq
  rw [e3]
  generalize hi : q0 + 256 * q1 + 65536 * q2 + 16777216 * q3 = i
  rw [nI_ushr (by omega) (by decide), nI_add, nI_ushr (by omega) (by decide), nI_add, nI_and, hp]
  have e4 : (i + i / 2 ^ 8 + (i + i / 2 ^ 8) / 2 ^ 16) &&& 63 = (i + i / 256 + (i + i / 256) / 65536) % 64 := Nat.and_two_pow_sub_one_eq_mod _ 6
  rw [e4, swarJ a0 a1 a2 a3 hi.symm]
theorem G_X3_wordAt {σ : Hp} {t i : Nat} (hti : 4 * t + i < 96) : GoodF 1 mX3_wordAt [.ref 1, .int (nI t), .int (nI i)] σ (some (.int (σ 5 (4 * t + i)))) σ := by
  refine GoodF.intro (by decide) (cat_ref (cat_int (cat_int cat_nil))) (Nat.le_of_ble_eq_true rfl) (fun X hR => ?_)
  show SW 1 mX3_wordAt X 0 [some (.ref 1), some (.int (nI t)), some (.int (nI i))] [] _
  repeat' (first | with_reducible refine sX3_wordAt_0 ?_ | with_reducible refine sX3_wordAt_1 (q := 1) (p := 5) (by with_unfolding_all rfl) ?_ | with_reducible refine sX3_wordAt_1 (q := 11) (p := 15) (by with_unfolding_all rfl) ?_ | with_reducible refine sX3_wordAt_1 (q := 21) (p := 25) (by with_unfolding_all rfl) ?_ | with_reducible refine sX3_wordAt_4 ?_ | with_reducible refine sX3_wordAt_5 ?_ | with_reducible refine sX3_wordAt_6n ?_ | with_reducible refine sX3_wordAt_6 ?_ | with_reducible refine sX3_wordAt_7 ?_ | with_reducible refine sX3_wordAt_8n ?_ | with_reducible refine sX3_wordAt_8 ?_ | with_reducible refine sX3_wordAt_9n (by with_unfolding_all rfl) (by first | omega | decide) (by first | assumption | rfl) ?_ | with_reducible refine sX3_wordAt_10 ?_)
  exact hR
