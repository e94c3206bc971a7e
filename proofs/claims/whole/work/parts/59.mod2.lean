/-! the model's calls: words and titles -/
theorem M_score {A : AA} (hW : WF A) (x : Int32) : MK 9 mX6_score [.int x] A (o_score A x) := by
  intro σ hσ
  have hσ0 := hσ
  obtain ⟨⟨hco, hkn, hsc, hz, hsl, hsp⟩, hkp, hfd, htp, hsh⟩ := hσ0
  obtain ⟨hnw, hnt, hft, hsz, hrw⟩ := id hco
  have hW0 := hW
  obtain ⟨⟨hWc, hkb, hslw, hspw⟩, -, htw, hhw⟩ := hW0
  have w1 := hWc.1
  have w2 := hWc.2.1
  unfold o_score
  by_cases hN : lt' x 2
  · rw [ci_t hN]
    obtain ⟨b, hb, rfl⟩ := id hN
    rw [ix_n (by omega)]
    have hs1 := hsc b hb
    refine Good.intro (by decide) (cat_ref (cat_int cat_nil)) (Nat.le_of_ble_eq_true rfl) (fun X hR => ?_)
    show SW 9 mX6_score X 0 [some (.ref 49), some (.int (nI b))] [] _
    repeat' (first | with_reducible refine sX6_score_0 ?_ | with_reducible refine sX6_score_1 (by exact G_X6_isBand) (by decide) (by with_unfolding_all exact Nat.le_of_ble_eq_true rfl) ?_ | with_reducible refine sX6_score_4b (fun h => absurd (by assumption) h) (fun h => ?_) | with_reducible refine sX6_score_4b (fun h => absurd h (by assumption)) (fun h => ?_) | with_reducible refine sX6_score_4b (fun h => ?_) (fun h => absurd (by assumption) h) | with_reducible refine sX6_score_4b (fun h => ?_) (fun h => absurd h (by assumption)) | with_reducible refine sX6_score_4b (fun h => ?_) (fun h => ?_) | with_reducible refine sX6_score_4n (by omega) (fun h => absurd h (by omega)) (fun h => ?_) | with_reducible refine sX6_score_4n (by omega) (fun h => ?_) (fun h => absurd h (by omega)) | with_reducible refine sX6_score_4n (by omega) (fun h => ?_) (fun h => ?_) | with_reducible refine sX6_score_4 (fun h => ?_) (fun h => ?_) | with_reducible refine sX6_score_7 ?_ | with_reducible refine sX6_score_8 (q := 49) (p := 50) (by first | with_unfolding_all rfl | exact bI_nar) ?_ | with_reducible refine sX6_score_11 ?_ | with_reducible refine sX6_score_12 ?_ | with_reducible refine sX6_score_13n ?_ | with_reducible refine sX6_score_13 ?_ | with_reducible refine sX6_score_14n (by first | with_unfolding_all rfl | exact bI_nar) (by first | omega | decide) (by first | assumption | rfl) ?_ | with_reducible refine sX6_score_15 ?_ | with_reducible refine sX6_score_18 ?_ | with_reducible refine sX6_score_19 ?_ | with_reducible refine sX6_score_21 (by first | with_unfolding_all rfl | exact bI_nar) (by first | exact G_X6_finds0 | exact G_X6_finds1 | exact G_X6_finds2 | exact G_X6_finds3 | exact G_X6_finds4 | exact G_X6_finds5 | exact G_X6_finds6) (by decide) (by with_unfolding_all exact Nat.le_of_ble_eq_true rfl) ?_ | with_reducible refine sX6_score_24 ?_)
    all_goals first | exact hR _ _ ⟨rfl, hσ, fun _ _ _ => rfl⟩ | contradiction
  · rw [ci_f hN]
    refine Good.intro (by decide) (cat_ref (cat_int cat_nil)) (Nat.le_of_ble_eq_true rfl) (fun X hR => ?_)
    show SW 9 mX6_score X 0 [some (.ref 49), some (.int x)] [] _
    repeat' (first | with_reducible refine sX6_score_0 ?_ | with_reducible refine sX6_score_1 (by exact G_X6_isBand) (by decide) (by with_unfolding_all exact Nat.le_of_ble_eq_true rfl) ?_ | with_reducible refine sX6_score_4b (fun h => absurd (by assumption) h) (fun h => ?_) | with_reducible refine sX6_score_4b (fun h => absurd h (by assumption)) (fun h => ?_) | with_reducible refine sX6_score_4b (fun h => ?_) (fun h => absurd (by assumption) h) | with_reducible refine sX6_score_4b (fun h => ?_) (fun h => absurd h (by assumption)) | with_reducible refine sX6_score_4b (fun h => ?_) (fun h => ?_) | with_reducible refine sX6_score_4n (by omega) (fun h => absurd h (by omega)) (fun h => ?_) | with_reducible refine sX6_score_4n (by omega) (fun h => ?_) (fun h => absurd h (by omega)) | with_reducible refine sX6_score_4n (by omega) (fun h => ?_) (fun h => ?_) | with_reducible refine sX6_score_4 (fun h => ?_) (fun h => ?_) | with_reducible refine sX6_score_8 (q := 49) (p := 50) (by first | with_unfolding_all rfl | exact bI_nar) ?_ | with_reducible refine sX6_score_11 ?_ | with_reducible refine sX6_score_12 ?_ | with_reducible refine sX6_score_13n ?_ | with_reducible refine sX6_score_13 ?_ | with_reducible refine sX6_score_14n (by first | with_unfolding_all rfl | exact bI_nar) (by first | omega | decide) (by first | assumption | rfl) ?_ | with_reducible refine sX6_score_15 ?_ | with_reducible refine sX6_score_18 ?_ | with_reducible refine sX6_score_19 ?_ | with_reducible refine sX6_score_21 (by first | with_unfolding_all rfl | exact bI_nar) (by first | exact G_X6_finds0 | exact G_X6_finds1 | exact G_X6_finds2 | exact G_X6_finds3 | exact G_X6_finds4 | exact G_X6_finds5 | exact G_X6_finds6) (by decide) (by with_unfolding_all exact Nat.le_of_ble_eq_true rfl) ?_ | with_reducible refine sX6_score_24 ?_)
    all_goals first | exact hR _ _ ⟨rfl, M_fin (by decide) hσ⟩ | contradiction
