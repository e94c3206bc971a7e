/-! images: the calls -/
noncomputable def o_image (A : AA) : Int32 × AA := (nI 1, setKp A (some (aS A)))
noncomputable def o_undo (A : AA) : Int32 × AA := match aK A with
  | none => fin A 3
  | some k => (nI (ct (sC k)), setF A k)
theorem C_image {A : AA} (hW : WF A) : CK 9 mX5_image [] A (o_image A) := by
  intro σ hσ
  have hσ0 := hσ
  obtain ⟨⟨hco, hkn, hsc, hz, hsl, hsp⟩, hkp, hfd, htp, hsh, hz34⟩ := hσ0
  obtain ⟨hnw, hnt, hf0, hf1, hf2, hsz, hrw⟩ := id hco
  have hW0 := hW
  obtain ⟨⟨hWc, hkb, hslw, hspw⟩, -, htw, hhw⟩ := hW0
  have w1 := hWc.1
  have w2 := hWc.2.1
  unfold o_image
  refine Good.intro (by decide) (cat_ref cat_nil) (Nat.le_of_ble_eq_true rfl) (fun X hR => ?_)
  show SW 9 mX5_image X 0 [some (.ref 0)] [] _
  repeat' (first | with_reducible refine sX5_image_0 ?_ | with_reducible refine sX5_image_1 (q := 0) (p := 11) (by first | with_unfolding_all rfl | exact bI_nar) ?_ | with_reducible refine sX5_image_4 ?_ | with_reducible refine sX5_image_5 (q := 0) (p := 1) (by first | with_unfolding_all rfl | exact bI_nar) ?_ | with_reducible refine sX5_image_11 ?_ | with_reducible refine sX5_image_12 ?_ | with_reducible refine sX5_image_13 (by first | with_unfolding_all rfl | exact bI_nar) (by first | with_unfolding_all rfl | exact bI_nar) (by first | with_unfolding_all rfl | exact bI_nar) ?_ | with_reducible refine sX5_image_16 ?_ | with_reducible refine sX5_image_17 ?_)
  refine sX5_image_8g rfl G_X3_become11_1 (by decide) (Nat.le_of_ble_eq_true rfl) (fun w τ hq => ?_)
  obtain ⟨rfl, e3, e6, e11, f1, f2, f3, f4, f5, f6, f7, f8, f9, fr⟩ := hq
  show SW 9 mX5_image X 11 _ [] τ
  repeat' (first | with_reducible refine sX5_image_0 ?_ | with_reducible refine sX5_image_1 (q := 0) (p := 11) (by first | with_unfolding_all rfl | exact bI_nar) ?_ | with_reducible refine sX5_image_4 ?_ | with_reducible refine sX5_image_5 (q := 0) (p := 1) (by first | with_unfolding_all rfl | exact bI_nar) ?_ | with_reducible refine sX5_image_8 (by first | with_unfolding_all rfl | exact bI_nar) (by apply G_X3_become <;> (first | assumption | omega | rfl | decide)) (by decide) (by with_unfolding_all exact Nat.le_of_ble_eq_true rfl) ?_ | with_reducible refine sX5_image_11 ?_ | with_reducible refine sX5_image_12 ?_ | with_reducible refine sX5_image_13 (by first | with_unfolding_all rfl | exact bI_nar) (by first | with_unfolding_all rfl | exact bI_nar) (by first | with_unfolding_all rfl | exact bI_nar) ?_ | with_reducible refine sX5_image_16 ?_ | with_reducible refine sX5_image_17 ?_)
  have g : ∀ q j, q ≠ 0 → (up2 τ 0 9 (nI 1)) q j = τ q j := fun q j hq => up2_np hq
  refine hR _ _ ⟨rfl, hσ.kp ⟨fun x => (Option.some_ne_none _ x).elim, fun k hk => ?_⟩ (fun q j hq => (g q j (by omega)).trans (fr q j (by omega))), fun q j hq => (g q j (by omega)).trans (fr q j (by omega))⟩
  cases hk
  exact ⟨up2_eq, (hσ.1.cp hWc e3 e6 e11 f1 f2 f3 f4 f5 f6 f7 f8 f9).keep (fun q hq => funext fun j => g q j (by omega))⟩
theorem C_undo {A : AA} (hW : WF A) : CK 9 mX5_undo [] A (o_undo A) := by
  intro σ hσ
  have hσ0 := hσ
  obtain ⟨⟨hco, hkn, hsc, hz, hsl, hsp⟩, hkp, hfd, htp, hsh, hz34⟩ := hσ0
  obtain ⟨hnw, hnt, hf0, hf1, hf2, hsz, hrw⟩ := id hco
  have hW0 := hW
  obtain ⟨⟨hWc, hkb, hslw, hspw⟩, -, htw, hhw⟩ := hW0
  have w1 := hWc.1
  have w2 := hWc.2.1
  unfold o_undo
  cases hK : aK A with
  | none =>
    have h9 := hkp.1 hK
    refine Good.intro (by decide) (cat_ref cat_nil) (Nat.le_of_ble_eq_true rfl) (fun X hR => ?_)
    show SW 9 mX5_undo X 0 [some (.ref 0)] [] _
    repeat' (first | with_reducible refine sX5_undo_0 ?_ | with_reducible refine sX5_undo_1 (by first | with_unfolding_all rfl | exact bI_nar) (by first | assumption | rfl) ?_ | with_reducible refine sX5_undo_4b (fun h => absurd (by assumption) h) (fun h => ?_) | with_reducible refine sX5_undo_4b (fun h => absurd h (by assumption)) (fun h => ?_) | with_reducible refine sX5_undo_4b (fun h => ?_) (fun h => absurd (by assumption) h) | with_reducible refine sX5_undo_4b (fun h => ?_) (fun h => absurd h (by assumption)) | with_reducible refine sX5_undo_4b (fun h => ?_) (fun h => ?_) | with_reducible refine sX5_undo_4n (by omega) (fun h => absurd h (by omega)) (fun h => ?_) | with_reducible refine sX5_undo_4n (by omega) (fun h => ?_) (fun h => absurd h (by omega)) | with_reducible refine sX5_undo_4n (by omega) (fun h => ?_) (fun h => ?_) | with_reducible refine sX5_undo_4 (fun h => ?_) (fun h => ?_) | with_reducible refine sX5_undo_7 ?_ | with_reducible refine sX5_undo_8 ?_ | with_reducible refine sX5_undo_10 (by first | with_unfolding_all rfl | exact bI_nar) (by first | exact G_X5_finding0 | exact G_X5_finding1 | exact G_X5_finding2 | exact G_X5_finding3 | exact G_X5_finding4 | exact G_X5_finding5 | exact G_X5_finding6) (by decide) (by with_unfolding_all exact Nat.le_of_ble_eq_true rfl) ?_ | with_reducible refine sX5_undo_13 ?_ | with_reducible refine sX5_undo_15 (q := 0) (p := 1) (by first | with_unfolding_all rfl | exact bI_nar) ?_ | with_reducible refine sX5_undo_18 ?_ | with_reducible refine sX5_undo_19 (q := 0) (p := 11) (by first | with_unfolding_all rfl | exact bI_nar) ?_ | with_reducible refine sX5_undo_22 (by first | with_unfolding_all rfl | exact bI_nar) (by apply G_X3_become <;> (first | assumption | omega | rfl | decide)) (by decide) (by with_unfolding_all exact Nat.le_of_ble_eq_true rfl) ?_ | with_reducible refine sX5_undo_25 ?_ | with_reducible refine sX5_undo_26 (q := 0) (p := 1) (by first | with_unfolding_all rfl | exact bI_nar) ?_ | with_reducible refine sX5_undo_29 (by first | with_unfolding_all rfl | exact bI_nar) (by first | assumption | rfl) ?_ | with_reducible refine sX5_undo_32 ?_)
    all_goals first | exact hR _ _ ⟨rfl, C_fin (by decide) hσ⟩ | (exfalso; omega)
  | some k =>
    have h9 := (hkp.2 k hK).1
    have hWk := hW.2.1 k hK
    dsimp only
    refine Good.intro (by decide) (cat_ref cat_nil) (Nat.le_of_ble_eq_true rfl) (fun X hR => ?_)
    show SW 9 mX5_undo X 0 [some (.ref 0)] [] _
    repeat' (first | with_reducible refine sX5_undo_0 ?_ | with_reducible refine sX5_undo_1 (by first | with_unfolding_all rfl | exact bI_nar) (by first | assumption | rfl) ?_ | with_reducible refine sX5_undo_4b (fun h => absurd (by assumption) h) (fun h => ?_) | with_reducible refine sX5_undo_4b (fun h => absurd h (by assumption)) (fun h => ?_) | with_reducible refine sX5_undo_4b (fun h => ?_) (fun h => absurd (by assumption) h) | with_reducible refine sX5_undo_4b (fun h => ?_) (fun h => absurd h (by assumption)) | with_reducible refine sX5_undo_4b (fun h => ?_) (fun h => ?_) | with_reducible refine sX5_undo_4n (by omega) (fun h => absurd h (by omega)) (fun h => ?_) | with_reducible refine sX5_undo_4n (by omega) (fun h => ?_) (fun h => absurd h (by omega)) | with_reducible refine sX5_undo_4n (by omega) (fun h => ?_) (fun h => ?_) | with_reducible refine sX5_undo_4 (fun h => ?_) (fun h => ?_) | with_reducible refine sX5_undo_7 ?_ | with_reducible refine sX5_undo_8 ?_ | with_reducible refine sX5_undo_10 (by first | with_unfolding_all rfl | exact bI_nar) (by first | exact G_X5_finding0 | exact G_X5_finding1 | exact G_X5_finding2 | exact G_X5_finding3 | exact G_X5_finding4 | exact G_X5_finding5 | exact G_X5_finding6) (by decide) (by with_unfolding_all exact Nat.le_of_ble_eq_true rfl) ?_ | with_reducible refine sX5_undo_13 ?_ | with_reducible refine sX5_undo_14 ?_ | with_reducible refine sX5_undo_15 (q := 0) (p := 1) (by first | with_unfolding_all rfl | exact bI_nar) ?_ | with_reducible refine sX5_undo_18 ?_ | with_reducible refine sX5_undo_19 (q := 0) (p := 11) (by first | with_unfolding_all rfl | exact bI_nar) ?_ | with_reducible refine sX5_undo_25 ?_ | with_reducible refine sX5_undo_26 (q := 0) (p := 1) (by first | with_unfolding_all rfl | exact bI_nar) ?_ | with_reducible refine sX5_undo_29 (by first | with_unfolding_all rfl | exact bI_nar) (by first | assumption | rfl) ?_ | with_reducible refine sX5_undo_32 ?_)
    all_goals try (exfalso; omega)
    refine sX5_undo_22g rfl G_X3_become1_11 (by decide) (Nat.le_of_ble_eq_true rfl) (fun w τ hq => ?_)
    obtain ⟨rfl, e3, e6, e11, f1, f2, f3, f4, f5, f6, f7, f8, f9, fr⟩ := hq
    show SW 9 mX5_undo X 25 _ [] τ
    have hS := (hkp.2 k hK).2.cp hWk.1 e3 e6 e11 f1 f2 f3 f4 f5 f6 f7 f8 f9
    have h16 := hS.1.2.1
    repeat' (first | with_reducible refine sX5_undo_0 ?_ | with_reducible refine sX5_undo_1 (by first | with_unfolding_all rfl | exact bI_nar) (by first | assumption | rfl) ?_ | with_reducible refine sX5_undo_4b (fun h => absurd (by assumption) h) (fun h => ?_) | with_reducible refine sX5_undo_4b (fun h => absurd h (by assumption)) (fun h => ?_) | with_reducible refine sX5_undo_4b (fun h => ?_) (fun h => absurd (by assumption) h) | with_reducible refine sX5_undo_4b (fun h => ?_) (fun h => absurd h (by assumption)) | with_reducible refine sX5_undo_4b (fun h => ?_) (fun h => ?_) | with_reducible refine sX5_undo_4n (by omega) (fun h => absurd h (by omega)) (fun h => ?_) | with_reducible refine sX5_undo_4n (by omega) (fun h => ?_) (fun h => absurd h (by omega)) | with_reducible refine sX5_undo_4n (by omega) (fun h => ?_) (fun h => ?_) | with_reducible refine sX5_undo_4 (fun h => ?_) (fun h => ?_) | with_reducible refine sX5_undo_7 ?_ | with_reducible refine sX5_undo_8 ?_ | with_reducible refine sX5_undo_10 (by first | with_unfolding_all rfl | exact bI_nar) (by first | exact G_X5_finding0 | exact G_X5_finding1 | exact G_X5_finding2 | exact G_X5_finding3 | exact G_X5_finding4 | exact G_X5_finding5 | exact G_X5_finding6) (by decide) (by with_unfolding_all exact Nat.le_of_ble_eq_true rfl) ?_ | with_reducible refine sX5_undo_13 ?_ | with_reducible refine sX5_undo_14 ?_ | with_reducible refine sX5_undo_15 (q := 0) (p := 1) (by first | with_unfolding_all rfl | exact bI_nar) ?_ | with_reducible refine sX5_undo_18 ?_ | with_reducible refine sX5_undo_19 (q := 0) (p := 11) (by first | with_unfolding_all rfl | exact bI_nar) ?_ | with_reducible refine sX5_undo_22 (by first | with_unfolding_all rfl | exact bI_nar) (by apply G_X3_become <;> (first | assumption | omega | rfl | decide)) (by decide) (by with_unfolding_all exact Nat.le_of_ble_eq_true rfl) ?_ | with_reducible refine sX5_undo_25 ?_ | with_reducible refine sX5_undo_26 (q := 0) (p := 1) (by first | with_unfolding_all rfl | exact bI_nar) ?_ | with_reducible refine sX5_undo_29 (by first | with_unfolding_all rfl | exact bI_nar) (by first | assumption | rfl) ?_ | with_reducible refine sX5_undo_32 ?_)
    exact hR _ _ ⟨rfl, hσ.st hS (fun q j hq => fr q j (by omega)), fun q j hq => fr q j (by omega)⟩
theorem M_image {A : AA} (hW : WF A) : MK 9 mX6_image [] A (o_image A) := by
  intro σ hσ
  have hσ0 := hσ
  obtain ⟨⟨hco, hkn, hsc, hz, hsl, hsp⟩, hkp, hfd, htp, hsh⟩ := hσ0
  obtain ⟨hnw, hnt, hft, hsz, hrw⟩ := id hco
  have hW0 := hW
  obtain ⟨⟨hWc, hkb, hslw, hspw⟩, -, htw, hhw⟩ := hW0
  have w1 := hWc.1
  have w2 := hWc.2.1
  unfold o_image
  refine Good.intro (by decide) (cat_ref cat_nil) (Nat.le_of_ble_eq_true rfl) (fun X hR => ?_)
  show SW 9 mX6_image X 0 [some (.ref 49)] [] _
  repeat' (first | with_reducible refine sX6_image_0 ?_ | with_reducible refine sX6_image_1 (q := 49) (p := 50) (by first | with_unfolding_all rfl | exact bI_nar) ?_ | with_reducible refine sX6_image_4 ?_ | with_reducible refine sX6_image_5 (q := 49) (p := 51) (by first | with_unfolding_all rfl | exact bI_nar) ?_ | with_reducible refine sX6_image_8 (by first | exact G_X6_row50_51 | exact G_X6_row51_50 | exact G_X6_row50_52 | exact G_X6_row52_50) (by decide) (by with_unfolding_all exact Nat.le_of_ble_eq_true rfl) ?_ | with_reducible refine sX6_image_11 ?_ | with_reducible refine sX6_image_12 ?_ | with_reducible refine sX6_image_13 (by first | with_unfolding_all rfl | exact bI_nar) (by first | with_unfolding_all rfl | exact bI_nar) (by first | with_unfolding_all rfl | exact bI_nar) ?_ | with_reducible refine sX6_image_16 ?_ | with_reducible refine sX6_image_17 ?_)
  have g : ∀ q j, q ≠ 49 → (up2 (cpy2 σ 50 0 51 0 212) 49 3 (nI 1)) q j = (cpy2 σ 50 0 51 0 212) q j := fun q j hq => up2_np hq
  refine hR _ _ ⟨rfl, hσ.kp ⟨fun x => (Option.some_ne_none _ x).elim, fun k hk => ?_⟩ (fun q j hq => ?_), fun q j hq => (g q j (by omega)).trans (cp_np (by omega))⟩
  · cases hk
    exact ⟨up2_eq, (hσ.1.cp hWc (fun j hj => (cp_eq hj))).keep (funext fun j => g 51 j (by decide))⟩
  · by_cases e : q = 49
    · subst e
      rw [up2_ni (by omega), cp_np (by decide)]
    · rw [g q j e, cp_np (by omega)]
theorem M_undo {A : AA} (hW : WF A) : MK 9 mX6_undo [] A (o_undo A) := by
  intro σ hσ
  have hσ0 := hσ
  obtain ⟨⟨hco, hkn, hsc, hz, hsl, hsp⟩, hkp, hfd, htp, hsh⟩ := hσ0
  obtain ⟨hnw, hnt, hft, hsz, hrw⟩ := id hco
  have hW0 := hW
  obtain ⟨⟨hWc, hkb, hslw, hspw⟩, -, htw, hhw⟩ := hW0
  have w1 := hWc.1
  have w2 := hWc.2.1
  unfold o_undo
  cases hK : aK A with
  | none =>
    have h9 := hkp.1 hK
    refine Good.intro (by decide) (cat_ref cat_nil) (Nat.le_of_ble_eq_true rfl) (fun X hR => ?_)
    show SW 9 mX6_undo X 0 [some (.ref 49)] [] _
    repeat' (first | with_reducible refine sX6_undo_0 ?_ | with_reducible refine sX6_undo_1 (by first | with_unfolding_all rfl | exact bI_nar) (by first | assumption | rfl) ?_ | with_reducible refine sX6_undo_4b (fun h => absurd (by assumption) h) (fun h => ?_) | with_reducible refine sX6_undo_4b (fun h => absurd h (by assumption)) (fun h => ?_) | with_reducible refine sX6_undo_4b (fun h => ?_) (fun h => absurd (by assumption) h) | with_reducible refine sX6_undo_4b (fun h => ?_) (fun h => absurd h (by assumption)) | with_reducible refine sX6_undo_4b (fun h => ?_) (fun h => ?_) | with_reducible refine sX6_undo_4n (by omega) (fun h => absurd h (by omega)) (fun h => ?_) | with_reducible refine sX6_undo_4n (by omega) (fun h => ?_) (fun h => absurd h (by omega)) | with_reducible refine sX6_undo_4n (by omega) (fun h => ?_) (fun h => ?_) | with_reducible refine sX6_undo_4 (fun h => ?_) (fun h => ?_) | with_reducible refine sX6_undo_7 ?_ | with_reducible refine sX6_undo_8 ?_ | with_reducible refine sX6_undo_10 (by first | with_unfolding_all rfl | exact bI_nar) (by first | exact G_X6_finds0 | exact G_X6_finds1 | exact G_X6_finds2 | exact G_X6_finds3 | exact G_X6_finds4 | exact G_X6_finds5 | exact G_X6_finds6) (by decide) (by with_unfolding_all exact Nat.le_of_ble_eq_true rfl) ?_ | with_reducible refine sX6_undo_13 ?_ | with_reducible refine sX6_undo_15 (q := 49) (p := 51) (by first | with_unfolding_all rfl | exact bI_nar) ?_ | with_reducible refine sX6_undo_18 ?_ | with_reducible refine sX6_undo_19 (q := 49) (p := 50) (by first | with_unfolding_all rfl | exact bI_nar) ?_ | with_reducible refine sX6_undo_22 (by first | exact G_X6_row50_51 | exact G_X6_row51_50 | exact G_X6_row50_52 | exact G_X6_row52_50) (by decide) (by with_unfolding_all exact Nat.le_of_ble_eq_true rfl) ?_ | with_reducible refine sX6_undo_25 ?_ | with_reducible refine sX6_undo_26 (q := 49) (p := 50) (by first | with_unfolding_all rfl | exact bI_nar) ?_ | with_reducible refine sX6_undo_29 ?_ | with_reducible refine sX6_undo_30n (by first | with_unfolding_all rfl | exact bI_nar) (by first | omega | decide) (by first | assumption | rfl) ?_ | with_reducible refine sX6_undo_31 ?_)
    all_goals first | exact hR _ _ ⟨rfl, M_fin (by decide) hσ⟩ | (exfalso; omega)
  | some k =>
    have h9 := (hkp.2 k hK).1
    have hWk := hW.2.1 k hK
    dsimp only
    have hS : StM 50 k (cpy2 σ 51 0 50 0 212) := (hkp.2 k hK).2.cp hWk.1 (fun j hj => cp_eq hj)
    have h16 := hS.1.2.1
    refine Good.intro (by decide) (cat_ref cat_nil) (Nat.le_of_ble_eq_true rfl) (fun X hR => ?_)
    show SW 9 mX6_undo X 0 [some (.ref 49)] [] _
    repeat' (first | with_reducible refine sX6_undo_0 ?_ | with_reducible refine sX6_undo_1 (by first | with_unfolding_all rfl | exact bI_nar) (by first | assumption | rfl) ?_ | with_reducible refine sX6_undo_4b (fun h => absurd (by assumption) h) (fun h => ?_) | with_reducible refine sX6_undo_4b (fun h => absurd h (by assumption)) (fun h => ?_) | with_reducible refine sX6_undo_4b (fun h => ?_) (fun h => absurd (by assumption) h) | with_reducible refine sX6_undo_4b (fun h => ?_) (fun h => absurd h (by assumption)) | with_reducible refine sX6_undo_4b (fun h => ?_) (fun h => ?_) | with_reducible refine sX6_undo_4n (by omega) (fun h => absurd h (by omega)) (fun h => ?_) | with_reducible refine sX6_undo_4n (by omega) (fun h => ?_) (fun h => absurd h (by omega)) | with_reducible refine sX6_undo_4n (by omega) (fun h => ?_) (fun h => ?_) | with_reducible refine sX6_undo_4 (fun h => ?_) (fun h => ?_) | with_reducible refine sX6_undo_7 ?_ | with_reducible refine sX6_undo_8 ?_ | with_reducible refine sX6_undo_10 (by first | with_unfolding_all rfl | exact bI_nar) (by first | exact G_X6_finds0 | exact G_X6_finds1 | exact G_X6_finds2 | exact G_X6_finds3 | exact G_X6_finds4 | exact G_X6_finds5 | exact G_X6_finds6) (by decide) (by with_unfolding_all exact Nat.le_of_ble_eq_true rfl) ?_ | with_reducible refine sX6_undo_13 ?_ | with_reducible refine sX6_undo_14 ?_ | with_reducible refine sX6_undo_15 (q := 49) (p := 51) (by first | with_unfolding_all rfl | exact bI_nar) ?_ | with_reducible refine sX6_undo_18 ?_ | with_reducible refine sX6_undo_19 (q := 49) (p := 50) (by first | with_unfolding_all rfl | exact bI_nar) ?_ | with_reducible refine sX6_undo_22 (by first | exact G_X6_row50_51 | exact G_X6_row51_50 | exact G_X6_row50_52 | exact G_X6_row52_50) (by decide) (by with_unfolding_all exact Nat.le_of_ble_eq_true rfl) ?_ | with_reducible refine sX6_undo_25 ?_ | with_reducible refine sX6_undo_26 (q := 49) (p := 50) (by first | with_unfolding_all rfl | exact bI_nar) ?_ | with_reducible refine sX6_undo_29 ?_ | with_reducible refine sX6_undo_30n (by first | with_unfolding_all rfl | exact bI_nar) (by first | omega | decide) (by first | assumption | rfl) ?_ | with_reducible refine sX6_undo_31 ?_)
    all_goals try (exfalso; omega)
    exact hR _ _ ⟨rfl, hσ.st hS (fun q j hq => cp_np (by omega)), fun q j hq => cp_np (by omega)⟩
