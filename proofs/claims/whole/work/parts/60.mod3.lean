/-! the model's calls: more -/
theorem G_X6_goesBehind {σ : Hp} {t w n : Nat} (h : σ 50 (58 + 6 * t) = nI n) (hn : n < 4) (ht : t < 24) : GoodF 1 mX6_goesBehind [.ref 49, .int (nI t), .int (nI w)] σ (some (.int (nI (n + 1)))) (up2 (up2 σ 50 (58 + 6 * t + 1 + n) (nI w)) 50 (58 + 6 * t) (nI (n + 1))) := by
  have h2 : (up2 σ 50 (58 + 6 * t + 1 + n) (nI w)) 50 (58 + 6 * t) = nI n := (up2_ni (by omega)).trans h
  refine GoodF.intro (by decide) (cat_ref (cat_int (cat_int cat_nil))) (Nat.le_of_ble_eq_true rfl) (fun X hR => ?_)
  show SW 1 mX6_goesBehind X 0 [some (.ref 49), some (.int (nI t)), some (.int (nI w)), none] [] _
  repeat' (first | with_reducible refine sX6_goesBehind_0 ?_ | with_reducible refine sX6_goesBehind_2 ?_ | with_reducible refine sX6_goesBehind_4 ?_ | with_reducible refine sX6_goesBehind_5n ?_ | with_reducible refine sX6_goesBehind_5 ?_ | with_reducible refine sX6_goesBehind_6n ?_ | with_reducible refine sX6_goesBehind_6 ?_ | with_reducible refine sX6_goesBehind_7 ?_ | with_reducible refine sX6_goesBehind_8 ?_ | with_reducible refine sX6_goesBehind_9 (q := 49) (p := 50) (by first | with_unfolding_all rfl | exact bI_nar) ?_ | with_reducible refine sX6_goesBehind_12 ?_ | with_reducible refine sX6_goesBehind_13 ?_ | with_reducible refine sX6_goesBehind_14n ?_ | with_reducible refine sX6_goesBehind_14 ?_ | with_reducible refine sX6_goesBehind_15 ?_ | with_reducible refine sX6_goesBehind_16 (q := 49) (p := 50) (by first | with_unfolding_all rfl | exact bI_nar) ?_ | with_reducible refine sX6_goesBehind_19 ?_ | with_reducible refine sX6_goesBehind_20n (by first | with_unfolding_all rfl | exact bI_nar) (by first | omega | decide) (by first | exact h | exact h2 | exact up2_eq | assumption | rfl) ?_ | with_reducible refine sX6_goesBehind_21n ?_ | with_reducible refine sX6_goesBehind_21 ?_ | with_reducible refine sX6_goesBehind_22 ?_ | with_reducible refine sX6_goesBehind_23n (by first | with_unfolding_all rfl | exact bI_nar) (by first | omega | decide) ?_ | with_reducible refine sX6_goesBehind_24 ?_ | with_reducible refine sX6_goesBehind_25 (q := 49) (p := 50) (by first | with_unfolding_all rfl | exact bI_nar) ?_ | with_reducible refine sX6_goesBehind_28 ?_ | with_reducible refine sX6_goesBehind_29 (by first | with_unfolding_all rfl | exact bI_nar) (by first | with_unfolding_all rfl | exact bI_nar) ?_ | with_reducible refine sX6_goesBehind_30n (by first | with_unfolding_all rfl | exact bI_nar) (by first | omega | decide) (by first | exact h | exact h2 | exact up2_eq | assumption | rfl) ?_ | with_reducible refine sX6_goesBehind_31 ?_ | with_reducible refine sX6_goesBehind_32n ?_ | with_reducible refine sX6_goesBehind_32 ?_ | with_reducible refine sX6_goesBehind_33n (by first | with_unfolding_all rfl | exact bI_nar) (by first | omega | decide) ?_ | with_reducible refine sX6_goesBehind_34 ?_ | with_reducible refine sX6_goesBehind_35 (q := 49) (p := 50) (by first | with_unfolding_all rfl | exact bI_nar) ?_ | with_reducible refine sX6_goesBehind_38 ?_ | with_reducible refine sX6_goesBehind_39n (by first | with_unfolding_all rfl | exact bI_nar) (by first | omega | decide) (by first | exact h | exact h2 | exact up2_eq | assumption | rfl) ?_ | with_reducible refine sX6_goesBehind_40 ?_)
  exact hR
theorem com_morT {c : CO} {σ : Hp} {t w : Nat} (hW : WFc c) (ht : t < ct c) (hz4 : cz c t < 4) (h : CoMg 50 c σ) : CoMg 50 (morT c t w) (up2 (up2 σ 50 (58 + 6 * t + 1 + cz c t) (nI w)) 50 (58 + 6 * t) (nI (cz c t + 1))) := by
  obtain ⟨h1, h2, h3, h4, h5⟩ := h
  have w1 := hW.1
  have w2 := hW.2.1
  have o : ∀ j, j ≠ 58 + 6 * t + 1 + cz c t → j ≠ 58 + 6 * t → (up2 (up2 σ 50 (58 + 6 * t + 1 + cz c t) (nI w)) 50 (58 + 6 * t) (nI (cz c t + 1))) 50 j = σ 50 j := fun j a b => by rw [up2_ni b, up2_ni a]
  refine ⟨?_, ?_, fun v hv f hf => ?_, fun u hu => ?_, fun u hu i hi => ?_⟩
  · rw [o _ (by omega) (by omega)]; exact h1
  · rw [o _ (by omega) (by omega)]; exact h2
  · rw [cw_morT] at hv
    rw [o _ (by omega) (by omega)]; exact h3 v hv f hf
  · rw [ct_morT] at hu
    by_cases e : u = t
    · subst e; rw [cz_morTs]; exact up2_eq
    · rw [cz_morTo e, o _ (by omega) (by omega)]; exact h4 u hu
  · rw [ct_morT] at hu
    have hzu := (hW.2.2.2 u hu).2.1
    by_cases e : u = t ∧ i = cz c t
    · obtain ⟨rfl, rfl⟩ := e
      rw [cr_morTs, up2_ni (by omega), show 58 + 6 * u + (1 + cz c u) = 58 + 6 * u + 1 + cz c u by omega]; exact up2_eq
    · have hi2 : i < cz c u := by
        by_cases q : u = t
        · subst q; rw [cz_morTs] at hi; omega
        · rw [cz_morTo q] at hi; exact hi
      rw [cr_morTo e, o _ (by omega) (by omega)]; exact h5 u hu i hi2
