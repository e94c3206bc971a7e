/-! seed, wipe, tear, hold, status: the class and the model -/
def setZS (A : AA) (f : Nat → Int32) (z : Int32) : AA := ((A.1.1, A.1.2.1, f, z, A.1.2.2.2.2), A.2)
def setQ (A : AA) (p : Nat → Int32) : AA := ((A.1.1, A.1.2.1, A.1.2.2.1, A.1.2.2.2.1, A.1.2.2.2.2.1, p), A.2)
def setT (A : AA) (x : Nat × (Nat → Nat)) : AA := (A.1, A.2.1, A.2.2.1, x, A.2.2.2.2)
def setKp (A : AA) (k : Option SA) : AA := (A.1, k, A.2.2)
def setF (A : AA) (c : SA) : AA := (c, A.2)
theorem CoCg.kx {c : CO} {σ τ : Hp} (h : CoCg 1 2 3 4 5 6 c σ) (e : ∀ q j, (q = 1 ∧ (j = 3 ∨ j = 6)) ∨ (2 ≤ q ∧ q ≤ 6) → τ q j = σ q j) : CoCg 1 2 3 4 5 6 c τ := by
  obtain ⟨h1, h2, h3, h4, h5, h6, h7⟩ := h
  exact ⟨by rw [e _ _ (by omega)]; exact h1, by rw [e _ _ (by omega)]; exact h2, fun w hw => by rw [e _ _ (by omega)]; exact h3 w hw, fun w hw => by rw [e _ _ (by omega)]; exact h4 w hw, fun w hw => by rw [e _ _ (by omega)]; exact h5 w hw, fun w hw => by rw [e _ _ (by omega)]; exact h6 w hw, fun w hw i hi => by rw [e _ _ (by omega)]; exact h7 w hw i hi⟩
theorem SlC.kx {x : Option (Nat × Nat × Nat × Nat × Nat)} {σ τ : Hp} (h : SlC 10 σ x) (e : ∀ j, τ 10 j = σ 10 j) : SlC 10 τ x := by
  unfold SlC
  rw [show τ 10 = σ 10 from funext e]
  exact h
theorem StC.zs {s : SA} {f : Nat → Int32} {z : Int32} {σ τ : Hp} (h : StC 1 2 3 4 5 6 7 8 9 10 s σ) (hf : ∀ b, b < 2 → τ 8 b = f b) (hz : τ 1 11 = z) (e : ∀ q j, (q = 1 ∧ j ≠ 11) ∨ (2 ≤ q ∧ q ≤ 7) ∨ q = 9 ∨ q = 10 → τ q j = σ q j) : StC 1 2 3 4 5 6 7 8 9 10 (s.1, s.2.1, f, z, s.2.2.2.2) τ := by
  obtain ⟨h1, h2, h3, h4, h5, h6⟩ := h
  exact ⟨h1.kx (fun q j hq => e q j (by omega)), fun b hb => by rw [e _ _ (by omega)]; exact h2 b hb, hf, hz, h5.kx (fun j => e _ _ (by omega)), fun i hi => by rw [e _ _ (by omega)]; exact h6 i hi⟩
theorem CoMg.kx {c : CO} {σ τ : Hp} (h : CoMg 50 c σ) (e : ∀ j, j < 2 ∨ (10 ≤ j ∧ j < 202) → τ 50 j = σ 50 j) (hW : WFc c) : CoMg 50 c τ := by
  obtain ⟨h1, h2, h3, h4, h5⟩ := h
  obtain ⟨w1, w2, w3, w4⟩ := hW
  exact ⟨by rw [e _ (by omega)]; exact h1, by rw [e _ (by omega)]; exact h2, fun w hw f hf => by rw [e _ (by omega)]; exact h3 w hw f hf, fun w hw => by rw [e _ (by omega)]; exact h4 w hw, fun w hw i hi => by rw [e _ (by have := (w4 w hw).2.1; omega)]; exact h5 w hw i hi⟩
theorem SlM.kx {x : Option (Nat × Nat × Nat × Nat × Nat)} {σ τ : Hp} (h : SlM 50 σ x) (e : ∀ j, 5 ≤ j ∧ j ≤ 9 → τ 50 j = σ 50 j) : SlM 50 τ x := by
  unfold SlM
  rw [e 5 (by omega), e 6 (by omega), e 7 (by omega), e 8 (by omega), e 9 (by omega)]
  exact h
theorem StM.zs {s : SA} {f : Nat → Int32} {z : Int32} {σ τ : Hp} (hW : WFc (sC s)) (h : StM 50 s σ) (hf : ∀ b, b < 2 → τ 50 (2 + b) = f b) (hz : τ 50 4 = z) (e : ∀ j, j < 2 ∨ 5 ≤ j → τ 50 j = σ 50 j) : StM 50 (s.1, s.2.1, f, z, s.2.2.2.2) τ := by
  obtain ⟨h1, h2, h3, h4, h5, h6⟩ := h
  exact ⟨h1.kx (fun j hj => e j (by omega)) hW, fun t ht => by rw [e _ (by omega)]; exact h2 t ht, hf, hz, h5.kx (fun j hj => e _ (by omega)), fun i hi => by rw [e _ (by omega)]; exact h6 i hi⟩
noncomputable def o_seed (A : AA) (x : Int32) : Int32 × AA := (sZ (aS A), setZS A (sS (aS A)) x)
theorem C_seed {A : AA} (hW : WF A) (x : Int32) : CK 9 mX5_seed [.int x] A (o_seed A x) := by
  intro σ hσ
  have hσ0 := hσ
  obtain ⟨⟨hco, hkn, hsc, hz, hsl, hsp⟩, hkp, hfd, htp, hsh, hz34⟩ := hσ0
  obtain ⟨hnw, hnt, hf0, hf1, hf2, hsz, hrw⟩ := id hco
  have hW0 := hW
  obtain ⟨⟨hWc, hkb, hslw, hspw⟩, -, htw, hhw⟩ := hW0
  have w1 := hWc.1
  have w2 := hWc.2.1
  unfold o_seed
  refine Good.intro (by decide) (cat_ref (cat_int cat_nil)) (Nat.le_of_ble_eq_true rfl) (fun X hR => ?_)
  show SW 9 mX5_seed X 0 [some (.ref 0), some (.int x), none] [] _
  repeat' (first | with_reducible refine sX5_seed_0 ?_ | with_reducible refine sX5_seed_1 (q := 0) (p := 1) (by first | with_unfolding_all rfl | exact bI_nar) ?_ | with_reducible refine sX5_seed_4 (by first | with_unfolding_all rfl | exact bI_nar) (by first | assumption | rfl) ?_ | with_reducible refine sX5_seed_7 ?_ | with_reducible refine sX5_seed_8 ?_ | with_reducible refine sX5_seed_9 (q := 0) (p := 1) (by first | with_unfolding_all rfl | exact bI_nar) ?_ | with_reducible refine sX5_seed_12 ?_ | with_reducible refine sX5_seed_13 (by first | with_unfolding_all rfl | exact bI_nar) ?_ | with_reducible refine sX5_seed_16 ?_ | with_reducible refine sX5_seed_17 ?_)
  exact hR _ _ ⟨rfl, hσ.st (hσ.1.zs (fun b hb => by rw [up2_np (by decide)]; exact hsc b hb) up2_eq (fun q j hq => by
    by_cases e : q = 1
    · subst e; exact up2_ni (by omega)
    · exact up2_np e)) (fun q j hq => up2_np (by omega)), fun q j hq => up2_np (by omega)⟩
theorem M_seed {A : AA} (hW : WF A) (x : Int32) : MK 9 mX6_seed [.int x] A (o_seed A x) := by
  intro σ hσ
  have hσ0 := hσ
  obtain ⟨⟨hco, hkn, hsc, hz, hsl, hsp⟩, hkp, hfd, htp, hsh⟩ := hσ0
  obtain ⟨hnw, hnt, hft, hsz, hrw⟩ := id hco
  have hW0 := hW
  obtain ⟨⟨hWc, hkb, hslw, hspw⟩, -, htw, hhw⟩ := hW0
  have w1 := hWc.1
  have w2 := hWc.2.1
  unfold o_seed
  refine Good.intro (by decide) (cat_ref (cat_int cat_nil)) (Nat.le_of_ble_eq_true rfl) (fun X hR => ?_)
  show SW 9 mX6_seed X 0 [some (.ref 49), some (.int x)] [] _
  repeat' (first | with_reducible refine sX6_seed_0 ?_ | with_reducible refine sX6_seed_1 ?_ | with_reducible refine sX6_seed_2 ?_ | with_reducible refine sX6_seed_3 (by first | with_unfolding_all rfl | exact bI_nar) (by exact G_X6_becomes (by decide) hz) (by decide) (by with_unfolding_all exact Nat.le_of_ble_eq_true rfl) ?_ | with_reducible refine sX6_seed_6 ?_)
  exact hR _ _ ⟨rfl, hσ.st (hσ.1.zs hWc (fun b hb => by rw [up2_ni (by omega)]; exact hsc b hb) up2_eq (fun j hj => up2_ni (by omega))) (fun q j hq => up2_np (by omega)), fun q j hq => up2_np (by omega)⟩
noncomputable def o_wipe (A : AA) : Int32 × AA := (nI (aT A).1, setT A (0, (aT A).2))
theorem CompRep.tp {A : AA} {σ τ : Hp} {x : Nat × (Nat → Nat)} (h : CompRep A σ) (hx : TpC τ x) (e : ∀ q j, q ≠ 36 ∧ q ≠ 37 → τ q j = σ q j) : CompRep (setT A x) τ := by
  obtain ⟨h1, h2, h3, h4, h5, h6⟩ := h
  have er : ∀ q, q ≤ 20 → τ q = σ q := fun q hq => funext fun j => e q j (by omega)
  refine ⟨h1.keep (fun q hq => er q (by omega)), ⟨fun x => by rw [er 0 (by decide)]; exact h2.1 x, fun k hk => ⟨by rw [er 0 (by decide)]; exact (h2.2 k hk).1, (h2.2 k hk).2.keep (fun q hq => er q (by omega))⟩⟩, fun i hi => by rw [e 39 i (by omega)]; exact h3 i hi, hx, fun s hs => ⟨by rw [e _ _ (by omega)]; exact (h5 s hs).1, by rw [e _ _ (by omega)]; exact (h5 s hs).2.1, fun k hk => by rw [e _ _ (by omega)]; exact (h5 s hs).2.2 k hk⟩, fun v hv => by rw [e _ _ (by omega)]; exact h6 v hv⟩
theorem ModRep.tp {A : AA} {σ τ : Hp} {x : Nat × (Nat → Nat)} (h : ModRep A σ) (hx : TpM τ x) (e : ∀ q j, q = 50 ∨ q = 51 ∨ q = 53 ∨ q = 58 ∨ q = 59 ∨ q = 60 ∨ (q = 49 ∧ j = 3) → τ q j = σ q j) : ModRep (setT A x) τ := by
  obtain ⟨h1, h2, h3, h4, h5⟩ := h
  have er : ∀ q, q = 50 ∨ q = 51 → τ q = σ q := fun q hq => funext fun j => e q j (by omega)
  exact ⟨h1.keep (er 50 (by simp)), ⟨fun x => by rw [e 49 3 (by simp)]; exact h2.1 x, fun k hk => ⟨by rw [e 49 3 (by simp)]; exact (h2.2 k hk).1, (h2.2 k hk).2.keep (er 51 (by simp))⟩⟩, fun i hi => by rw [e 53 i (by simp)]; exact h3 i hi, hx, fun s hs => ⟨by rw [e 59 s (by simp)]; exact (h5 s hs).1, by rw [e 58 s (by simp)]; exact (h5 s hs).2.1, fun k hk => by rw [e 60 _ (by simp)]; exact (h5 s hs).2.2 k hk⟩⟩
theorem C_wipe {A : AA} (hW : WF A) : CK 9 mX5_wipe [] A (o_wipe A) := by
  intro σ hσ
  have hσ0 := hσ
  obtain ⟨⟨hco, hkn, hsc, hz, hsl, hsp⟩, hkp, hfd, htp, hsh, hz34⟩ := hσ0
  obtain ⟨hnw, hnt, hf0, hf1, hf2, hsz, hrw⟩ := id hco
  have hW0 := hW
  obtain ⟨⟨hWc, hkb, hslw, hspw⟩, -, htw, hhw⟩ := hW0
  have w1 := hWc.1
  have w2 := hWc.2.1
  have ht1 := htp.1
  unfold o_wipe
  refine Good.intro (by decide) (cat_ref cat_nil) (Nat.le_of_ble_eq_true rfl) (fun X hR => ?_)
  show SW 9 mX5_wipe X 0 [some (.ref 0), none] [] _
  repeat' (first | with_reducible refine sX5_wipe_0 ?_ | with_reducible refine sX5_wipe_1 (q := 0) (p := 36) (by first | with_unfolding_all rfl | exact bI_nar) ?_ | with_reducible refine sX5_wipe_4 (by first | with_unfolding_all rfl | exact bI_nar) (by first | assumption | rfl) ?_ | with_reducible refine sX5_wipe_7 ?_ | with_reducible refine sX5_wipe_8 ?_ | with_reducible refine sX5_wipe_9 (q := 0) (p := 36) (by first | with_unfolding_all rfl | exact bI_nar) ?_ | with_reducible refine sX5_wipe_12 ?_ | with_reducible refine sX5_wipe_13 (by first | with_unfolding_all rfl | exact bI_nar) ?_ | with_reducible refine sX5_wipe_16 ?_ | with_reducible refine sX5_wipe_17 ?_)
  exact hR _ _ ⟨rfl, hσ.tp ⟨up2_eq, fun k hk => by exact absurd hk (Nat.not_lt_zero k)⟩ (fun q j hq => up2_np hq.1), fun q j hq => up2_np (by omega)⟩
theorem M_wipe {A : AA} (hW : WF A) : MK 9 mX6_wipe [] A (o_wipe A) := by
  intro σ hσ
  have hσ0 := hσ
  obtain ⟨⟨hco, hkn, hsc, hz, hsl, hsp⟩, hkp, hfd, htp, hsh⟩ := hσ0
  obtain ⟨hnw, hnt, hft, hsz, hrw⟩ := id hco
  have hW0 := hW
  obtain ⟨⟨hWc, hkb, hslw, hspw⟩, -, htw, hhw⟩ := hW0
  have w1 := hWc.1
  have w2 := hWc.2.1
  have ht1 := htp.1
  unfold o_wipe
  refine Good.intro (by decide) (cat_ref cat_nil) (Nat.le_of_ble_eq_true rfl) (fun X hR => ?_)
  show SW 9 mX6_wipe X 0 [some (.ref 49), none] [] _
  repeat' (first | with_reducible refine sX6_wipe_0 ?_ | with_reducible refine sX6_wipe_1 (by first | with_unfolding_all rfl | exact bI_nar) (by first | assumption | rfl) ?_ | with_reducible refine sX6_wipe_4 ?_ | with_reducible refine sX6_wipe_5 ?_ | with_reducible refine sX6_wipe_6 ?_ | with_reducible refine sX6_wipe_7 (by first | with_unfolding_all rfl | exact bI_nar) ?_ | with_reducible refine sX6_wipe_10 ?_ | with_reducible refine sX6_wipe_11 ?_)
  exact hR _ _ ⟨rfl, hσ.tp ⟨up2_eq, fun k hk => by exact absurd hk (Nat.not_lt_zero k)⟩ (fun q j hq => by
    by_cases e : q = 49
    · subst e; exact up2_ni (by omega)
    · exact up2_np e), fun q j hq => up2_np (by omega)⟩
def isK (k : Option SA) : Nat := match k with
  | none => 0
  | some _ => 1
noncomputable def o_tear (A : AA) : Int32 × AA := (nI (isK (aK A)), setKp A none)
theorem CompRep.kp {A : AA} {σ τ : Hp} {x : Option SA} (h : CompRep A σ) (hx : KpC τ x) (e : ∀ q j, (1 ≤ q ∧ q ≤ 10) ∨ 34 ≤ q → τ q j = σ q j) : CompRep (setKp A x) τ := by
  obtain ⟨h1, h2, h3, h4, h5, h6⟩ := h
  exact ⟨h1.keep (fun q hq => funext fun j => e q j (by omega)), hx, fun i hi => by rw [e 39 i (by omega)]; exact h3 i hi, ⟨by rw [e 36 1 (by omega)]; exact h4.1, fun k hk => by rw [e 37 k (by omega)]; exact h4.2 k hk⟩, fun s hs => ⟨by rw [e _ _ (by omega)]; exact (h5 s hs).1, by rw [e _ _ (by omega)]; exact (h5 s hs).2.1, fun k hk => by rw [e _ _ (by omega)]; exact (h5 s hs).2.2 k hk⟩, fun v hv => by rw [e _ _ (by omega)]; exact h6 v hv⟩
theorem ModRep.kp {A : AA} {σ τ : Hp} {x : Option SA} (h : ModRep A σ) (hx : KpM τ x) (e : ∀ q j, q = 50 ∨ q = 53 ∨ q = 57 ∨ q = 58 ∨ q = 59 ∨ q = 60 ∨ (q = 49 ∧ j = 16) → τ q j = σ q j) : ModRep (setKp A x) τ := by
  obtain ⟨h1, h2, h3, h4, h5⟩ := h
  exact ⟨h1.keep (funext fun j => e 50 j (by simp)), hx, fun i hi => by rw [e 53 i (by simp)]; exact h3 i hi, ⟨by rw [e 49 16 (by simp)]; exact h4.1, fun k hk => by rw [e 57 k (by simp)]; exact h4.2 k hk⟩, fun s hs => ⟨by rw [e 59 s (by simp)]; exact (h5 s hs).1, by rw [e 58 s (by simp)]; exact (h5 s hs).2.1, fun k hk => by rw [e 60 _ (by simp)]; exact (h5 s hs).2.2 k hk⟩⟩
theorem C_tear {A : AA} (hW : WF A) : CK 9 mX5_tear [] A (o_tear A) := by
  intro σ hσ
  have hσ0 := hσ
  obtain ⟨⟨hco, hkn, hsc, hz, hsl, hsp⟩, hkp, hfd, htp, hsh, hz34⟩ := hσ0
  obtain ⟨hnw, hnt, hf0, hf1, hf2, hsz, hrw⟩ := id hco
  have hW0 := hW
  obtain ⟨⟨hWc, hkb, hslw, hspw⟩, -, htw, hhw⟩ := hW0
  have w1 := hWc.1
  have w2 := hWc.2.1
  unfold o_tear
  have hG : CompRep (setKp A none) (up2 σ 0 9 (nI 0)) := hσ.kp ⟨fun _ => up2_eq, fun k hk => (Option.some_ne_none _ hk.symm).elim⟩ (fun q j hq => up2_np (by omega))
  cases hK : aK A with
  | none =>
    have h9 := hkp.1 hK
    refine Good.intro (by decide) (cat_ref cat_nil) (Nat.le_of_ble_eq_true rfl) (fun X hR => ?_)
    show SW 9 mX5_tear X 0 [some (.ref 0), none] [] _
    repeat' (first | with_reducible refine sX5_tear_0 ?_ | with_reducible refine sX5_tear_1 (by first | with_unfolding_all rfl | exact bI_nar) (by first | assumption | rfl) ?_ | with_reducible refine sX5_tear_4b (fun h => absurd (by assumption) h) (fun h => ?_) | with_reducible refine sX5_tear_4b (fun h => absurd h (by assumption)) (fun h => ?_) | with_reducible refine sX5_tear_4b (fun h => ?_) (fun h => absurd (by assumption) h) | with_reducible refine sX5_tear_4b (fun h => ?_) (fun h => absurd h (by assumption)) | with_reducible refine sX5_tear_4b (fun h => ?_) (fun h => ?_) | with_reducible refine sX5_tear_4n (by omega) (fun h => absurd h (by omega)) (fun h => ?_) | with_reducible refine sX5_tear_4n (by omega) (fun h => ?_) (fun h => absurd h (by omega)) | with_reducible refine sX5_tear_4n (by omega) (fun h => ?_) (fun h => ?_) | with_reducible refine sX5_tear_4 (fun h => ?_) (fun h => ?_) | with_reducible refine sX5_tear_7 ?_ | with_reducible refine sX5_tear_8 ?_ | with_reducible refine sX5_tear_11 ?_ | with_reducible refine sX5_tear_12 ?_ | with_reducible refine sX5_tear_13 ?_ | with_reducible refine sX5_tear_14 ?_ | with_reducible refine sX5_tear_15 (by first | with_unfolding_all rfl | exact bI_nar) (by first | with_unfolding_all rfl | exact bI_nar) (by first | with_unfolding_all rfl | exact bI_nar) ?_ | with_reducible refine sX5_tear_18 ?_ | with_reducible refine sX5_tear_19 ?_)
    all_goals first | exact hR _ _ ⟨rfl, hG, fun q j hq => up2_np (by omega)⟩ | (exfalso; omega)
  | some k =>
    have h9 := (hkp.2 k hK).1
    refine Good.intro (by decide) (cat_ref cat_nil) (Nat.le_of_ble_eq_true rfl) (fun X hR => ?_)
    show SW 9 mX5_tear X 0 [some (.ref 0), none] [] _
    repeat' (first | with_reducible refine sX5_tear_0 ?_ | with_reducible refine sX5_tear_1 (by first | with_unfolding_all rfl | exact bI_nar) (by first | assumption | rfl) ?_ | with_reducible refine sX5_tear_4b (fun h => absurd (by assumption) h) (fun h => ?_) | with_reducible refine sX5_tear_4b (fun h => absurd h (by assumption)) (fun h => ?_) | with_reducible refine sX5_tear_4b (fun h => ?_) (fun h => absurd (by assumption) h) | with_reducible refine sX5_tear_4b (fun h => ?_) (fun h => absurd h (by assumption)) | with_reducible refine sX5_tear_4b (fun h => ?_) (fun h => ?_) | with_reducible refine sX5_tear_4n (by omega) (fun h => absurd h (by omega)) (fun h => ?_) | with_reducible refine sX5_tear_4n (by omega) (fun h => ?_) (fun h => absurd h (by omega)) | with_reducible refine sX5_tear_4n (by omega) (fun h => ?_) (fun h => ?_) | with_reducible refine sX5_tear_4 (fun h => ?_) (fun h => ?_) | with_reducible refine sX5_tear_7 ?_ | with_reducible refine sX5_tear_8 ?_ | with_reducible refine sX5_tear_11 ?_ | with_reducible refine sX5_tear_12 ?_ | with_reducible refine sX5_tear_13 ?_ | with_reducible refine sX5_tear_14 ?_ | with_reducible refine sX5_tear_15 (by first | with_unfolding_all rfl | exact bI_nar) (by first | with_unfolding_all rfl | exact bI_nar) (by first | with_unfolding_all rfl | exact bI_nar) ?_ | with_reducible refine sX5_tear_18 ?_ | with_reducible refine sX5_tear_19 ?_)
    all_goals first | exact hR _ _ ⟨rfl, hG, fun q j hq => up2_np (by omega)⟩ | (exfalso; omega)
theorem M_tear {A : AA} (hW : WF A) : MK 9 mX6_tear [] A (o_tear A) := by
  intro σ hσ
  have hσ0 := hσ
  obtain ⟨⟨hco, hkn, hsc, hz, hsl, hsp⟩, hkp, hfd, htp, hsh⟩ := hσ0
  obtain ⟨hnw, hnt, hft, hsz, hrw⟩ := id hco
  have hW0 := hW
  obtain ⟨⟨hWc, hkb, hslw, hspw⟩, -, htw, hhw⟩ := hW0
  have w1 := hWc.1
  have w2 := hWc.2.1
  unfold o_tear
  have hG : ModRep (setKp A none) (up2 σ 49 3 (nI 0)) := hσ.kp ⟨fun _ => up2_eq, fun k hk => (Option.some_ne_none _ hk.symm).elim⟩ (fun q j hq => by
    by_cases e : q = 49
    · subst e; exact up2_ni (by omega)
    · exact up2_np e)
  cases hK : aK A with
  | none =>
    have h9 := hkp.1 hK
    refine Good.intro (by decide) (cat_ref cat_nil) (Nat.le_of_ble_eq_true rfl) (fun X hR => ?_)
    show SW 9 mX6_tear X 0 [some (.ref 49), none] [] _
    repeat' (first | with_reducible refine sX6_tear_0 ?_ | with_reducible refine sX6_tear_1 (by first | with_unfolding_all rfl | exact bI_nar) (by first | assumption | rfl) ?_ | with_reducible refine sX6_tear_4b (fun h => absurd (by assumption) h) (fun h => ?_) | with_reducible refine sX6_tear_4b (fun h => absurd h (by assumption)) (fun h => ?_) | with_reducible refine sX6_tear_4b (fun h => ?_) (fun h => absurd (by assumption) h) | with_reducible refine sX6_tear_4b (fun h => ?_) (fun h => absurd h (by assumption)) | with_reducible refine sX6_tear_4b (fun h => ?_) (fun h => ?_) | with_reducible refine sX6_tear_4n (by omega) (fun h => absurd h (by omega)) (fun h => ?_) | with_reducible refine sX6_tear_4n (by omega) (fun h => ?_) (fun h => absurd h (by omega)) | with_reducible refine sX6_tear_4n (by omega) (fun h => ?_) (fun h => ?_) | with_reducible refine sX6_tear_4 (fun h => ?_) (fun h => ?_) | with_reducible refine sX6_tear_7 ?_ | with_reducible refine sX6_tear_8 ?_ | with_reducible refine sX6_tear_11 ?_ | with_reducible refine sX6_tear_12 ?_ | with_reducible refine sX6_tear_13 ?_ | with_reducible refine sX6_tear_14 ?_ | with_reducible refine sX6_tear_15 (by first | with_unfolding_all rfl | exact bI_nar) (by first | with_unfolding_all rfl | exact bI_nar) (by first | with_unfolding_all rfl | exact bI_nar) ?_ | with_reducible refine sX6_tear_18 ?_ | with_reducible refine sX6_tear_19 ?_)
    all_goals first | exact hR _ _ ⟨rfl, hG, fun q j hq => up2_np (by omega)⟩ | (exfalso; omega)
  | some k =>
    have h9 := (hkp.2 k hK).1
    refine Good.intro (by decide) (cat_ref cat_nil) (Nat.le_of_ble_eq_true rfl) (fun X hR => ?_)
    show SW 9 mX6_tear X 0 [some (.ref 49), none] [] _
    repeat' (first | with_reducible refine sX6_tear_0 ?_ | with_reducible refine sX6_tear_1 (by first | with_unfolding_all rfl | exact bI_nar) (by first | assumption | rfl) ?_ | with_reducible refine sX6_tear_4b (fun h => absurd (by assumption) h) (fun h => ?_) | with_reducible refine sX6_tear_4b (fun h => absurd h (by assumption)) (fun h => ?_) | with_reducible refine sX6_tear_4b (fun h => ?_) (fun h => absurd (by assumption) h) | with_reducible refine sX6_tear_4b (fun h => ?_) (fun h => absurd h (by assumption)) | with_reducible refine sX6_tear_4b (fun h => ?_) (fun h => ?_) | with_reducible refine sX6_tear_4n (by omega) (fun h => absurd h (by omega)) (fun h => ?_) | with_reducible refine sX6_tear_4n (by omega) (fun h => ?_) (fun h => absurd h (by omega)) | with_reducible refine sX6_tear_4n (by omega) (fun h => ?_) (fun h => ?_) | with_reducible refine sX6_tear_4 (fun h => ?_) (fun h => ?_) | with_reducible refine sX6_tear_7 ?_ | with_reducible refine sX6_tear_8 ?_ | with_reducible refine sX6_tear_11 ?_ | with_reducible refine sX6_tear_12 ?_ | with_reducible refine sX6_tear_13 ?_ | with_reducible refine sX6_tear_14 ?_ | with_reducible refine sX6_tear_15 (by first | with_unfolding_all rfl | exact bI_nar) (by first | with_unfolding_all rfl | exact bI_nar) (by first | with_unfolding_all rfl | exact bI_nar) ?_ | with_reducible refine sX6_tear_18 ?_ | with_reducible refine sX6_tear_19 ?_)
    all_goals first | exact hR _ _ ⟨rfl, hG, fun q j hq => up2_np (by omega)⟩ | (exfalso; omega)
theorem lt'_iff {y : Int32} {n : Nat} (hn : n ≤ 2147483647) : lt' y n ↔ (0 ≤ y.toInt ∧ y.toInt < n) := by
  constructor
  · rintro ⟨j, h, rfl⟩
    rw [nI_toInt (by omega)]; omega
  · rintro ⟨h1, h2⟩
    refine ⟨y.toInt.toNat, by omega, Int32.toInt_inj.mp ?_⟩
    rw [nI_toInt (by omega)]; omega
theorem m1_iff {y : Int32} : y = -1 ↔ y.toInt = -1 := ⟨fun h => by rw [h]; decide, fun h => Int32.toInt_inj.mp (by rw [h]; decide)⟩
/-- -1 or below n -/
def ltm (y : Int32) (n : Nat) : Prop := y = -1 ∨ lt' y n
theorem ltm_iff {y : Int32} {n : Nat} (hn : n ≤ 2147483647) : ltm y n ↔ (-1 ≤ y.toInt ∧ y.toInt < n) := by
  unfold ltm
  rw [m1_iff, lt'_iff hn]; omega
theorem ltm_t {y : Int32} {n : Nat} (hn : n ≤ 2147483647) (h1 : ¬ y < -1) (h2 : y < nI n) : ltm y n := by
  rw [ltm_iff hn]
  rw [Int32.lt_iff_toInt_lt, show (-1 : Int32).toInt = -1 from by decide] at h1
  rw [Int32.lt_iff_toInt_lt, nI_toInt (by omega)] at h2
  omega
theorem ltm_f1 {y : Int32} {n : Nat} (hn : n ≤ 2147483647) (h : y < -1) : ¬ ltm y n := by
  rw [ltm_iff hn]
  rw [Int32.lt_iff_toInt_lt, show (-1 : Int32).toInt = -1 from by decide] at h
  omega
theorem ltm_f2 {y : Int32} {n : Nat} (hn : n ≤ 2147483647) (h : ¬ y < nI n) : ¬ ltm y n := by
  rw [ltm_iff hn]
  rw [Int32.lt_iff_toInt_lt, nI_toInt (by omega)] at h
  omega
theorem l_ltm {y : Int32} {n : Nat} (a b : Int64) (hn : n ≤ 2147483647) (ha : a.toInt = -1) (hb : b.toInt = (n : Int) - 1) : (a ≤ y.toInt64 ∧ y.toInt64 ≤ b) ↔ ltm y n := by
  rw [Int64.le_iff_toInt_le, Int64.le_iff_toInt_le, Int32.toInt_toInt64, ha, hb, ltm_iff hn]
  omega
noncomputable def o_hold (A : AA) (x y : Int32) : Int32 × AA := ci (lt' x 10 ∧ ltm y 28) (nI 1, setQ A (fun i => if i = ix x then y else sP (aS A) i)) (fin A 0)
theorem C_hold {A : AA} (hW : WF A) (x y : Int32) : CK 9 mX5_hold [.int x, .int y] A (o_hold A x y) := by
  intro σ hσ
  have hσ0 := hσ
  obtain ⟨⟨hco, hkn, hsc, hz, hsl, hsp⟩, hkp, hfd, htp, hsh, hz34⟩ := hσ0
  obtain ⟨hnw, hnt, hf0, hf1, hf2, hsz, hrw⟩ := id hco
  have hW0 := hW
  obtain ⟨⟨hWc, hkb, hslw, hspw⟩, -, htw, hhw⟩ := hW0
  have w1 := hWc.1
  have w2 := hWc.2.1
  unfold o_hold
  by_cases hN : lt' x 10 ∧ ltm y 28
  · rw [ci_t hN]
    obtain ⟨ha, hb⟩ := id hN
    obtain ⟨i, hi, rfl⟩ := id ha
    rw [ix_n (by omega)]
    refine Good.intro (by decide) (cat_ref (cat_int (cat_int cat_nil))) (Nat.le_of_ble_eq_true rfl) (fun X hR => ?_)
    show SW 9 mX5_hold X 0 [some (.ref 0), some (.int (nI i)), some (.int y)] [] _
    repeat' (first | with_reducible refine sX5_hold_0 ?_ | with_reducible refine sX5_hold_1 (by apply G_X5_isSpot <;> (first | assumption | omega | rfl | decide)) (by decide) (by with_unfolding_all exact Nat.le_of_ble_eq_true rfl) ?_ | with_reducible refine sX5_hold_4b (fun h => absurd (by assumption) h) (fun h => ?_) | with_reducible refine sX5_hold_4b (fun h => absurd h (by assumption)) (fun h => ?_) | with_reducible refine sX5_hold_4b (fun h => ?_) (fun h => absurd (by assumption) h) | with_reducible refine sX5_hold_4b (fun h => ?_) (fun h => absurd h (by assumption)) | with_reducible refine sX5_hold_4b (fun h => ?_) (fun h => ?_) | with_reducible refine sX5_hold_4n (by omega) (fun h => absurd h (by omega)) (fun h => ?_) | with_reducible refine sX5_hold_4n (by omega) (fun h => ?_) (fun h => absurd h (by omega)) | with_reducible refine sX5_hold_4n (by omega) (fun h => ?_) (fun h => ?_) | with_reducible refine sX5_hold_4 (fun h => ?_) (fun h => ?_) | with_reducible refine sX5_hold_7 ?_ | with_reducible refine sX5_hold_8 ?_ | with_reducible refine sX5_hold_9n (by omega) (by omega) (fun h => absurd h (by omega)) (fun h => ?_) | with_reducible refine sX5_hold_9n (by omega) (by omega) (fun h => ?_) (fun h => absurd h (by omega)) | with_reducible refine sX5_hold_9n (by omega) (by omega) (fun h => ?_) (fun h => ?_) | with_reducible refine sX5_hold_9 (fun h => ?_) (fun h => ?_) | with_reducible refine sX5_hold_12 ?_ | with_reducible refine sX5_hold_13 ?_ | with_reducible refine sX5_hold_15n (by omega) (by omega) (fun h => absurd h (by omega)) (fun h => ?_) | with_reducible refine sX5_hold_15n (by omega) (by omega) (fun h => ?_) (fun h => absurd h (by omega)) | with_reducible refine sX5_hold_15n (by omega) (by omega) (fun h => ?_) (fun h => ?_) | with_reducible refine sX5_hold_15 (fun h => ?_) (fun h => ?_) | with_reducible refine sX5_hold_18 ?_ | with_reducible refine sX5_hold_19 ?_ | with_reducible refine sX5_hold_21 (by first | with_unfolding_all rfl | exact bI_nar) (by first | exact G_X5_finding0 | exact G_X5_finding1 | exact G_X5_finding2 | exact G_X5_finding3 | exact G_X5_finding4 | exact G_X5_finding5 | exact G_X5_finding6) (by decide) (by with_unfolding_all exact Nat.le_of_ble_eq_true rfl) ?_ | with_reducible refine sX5_hold_24 ?_ | with_reducible refine sX5_hold_25 ?_ | with_reducible refine sX5_hold_26 (q := 0) (p := 1) (by first | with_unfolding_all rfl | exact bI_nar) ?_ | with_reducible refine sX5_hold_29 (q := 1) (p := 9) (by first | with_unfolding_all rfl | exact bI_nar) ?_ | with_reducible refine sX5_hold_29 (q := 11) (p := 19) (by first | with_unfolding_all rfl | exact bI_nar) ?_ | with_reducible refine sX5_hold_29 (q := 21) (p := 29) (by first | with_unfolding_all rfl | exact bI_nar) ?_ | with_reducible refine sX5_hold_32 ?_ | with_reducible refine sX5_hold_33 ?_ | with_reducible refine sX5_hold_34 ?_ | with_reducible refine sX5_hold_35n ?_ | with_reducible refine sX5_hold_35 ?_ | with_reducible refine sX5_hold_36n (by first | with_unfolding_all rfl | exact bI_nar) (by first | omega | decide) ?_ | with_reducible refine sX5_hold_37 ?_ | with_reducible refine sX5_hold_38 ?_)
    all_goals first | contradiction | exact absurd hb (ltm_f1 (by decide) (by assumption)) | exact absurd hb (ltm_f2 (by decide) (by assumption)) | skip
    refine hR _ _ ⟨rfl, hσ.st (s := ((aS A).1, (aS A).2.1, (aS A).2.2.1, (aS A).2.2.2.1, (aS A).2.2.2.2.1, fun k => if k = i then y else sP (aS A) k)) ⟨hco.kx (fun q j hq => up2_np (by omega)), fun b hb => by rw [up2_np (by decide)]; exact hkn b hb, fun b hb => by rw [up2_np (by decide)]; exact hsc b hb, by rw [up2_np (by decide)]; exact hz, hsl.kx (fun j => up2_np (by decide)), fun k hk => ?_⟩ (fun q j hq => up2_np (by omega)), fun q j hq => up2_np (by omega)⟩
    by_cases e : k = i
    · subst e
      show up2 σ 9 k (y + nI 1) 9 k = (if k = k then y else sP (aS A) k) + nI 1
      rw [if_pos rfl]; exact up2_eq
    · show up2 σ 9 i (y + nI 1) 9 k = (if k = i then y else sP (aS A) k) + nI 1
      rw [if_neg e, up2_ni e]; exact hsp k hk
  · rw [ci_f hN]
    refine Good.intro (by decide) (cat_ref (cat_int (cat_int cat_nil))) (Nat.le_of_ble_eq_true rfl) (fun X hR => ?_)
    show SW 9 mX5_hold X 0 [some (.ref 0), some (.int x), some (.int y)] [] _
    repeat' (first | with_reducible refine sX5_hold_0 ?_ | with_reducible refine sX5_hold_1 (by apply G_X5_isSpot <;> (first | assumption | omega | rfl | decide)) (by decide) (by with_unfolding_all exact Nat.le_of_ble_eq_true rfl) ?_ | with_reducible refine sX5_hold_4b (fun h => absurd (by assumption) h) (fun h => ?_) | with_reducible refine sX5_hold_4b (fun h => absurd h (by assumption)) (fun h => ?_) | with_reducible refine sX5_hold_4b (fun h => ?_) (fun h => absurd (by assumption) h) | with_reducible refine sX5_hold_4b (fun h => ?_) (fun h => absurd h (by assumption)) | with_reducible refine sX5_hold_4b (fun h => ?_) (fun h => ?_) | with_reducible refine sX5_hold_4n (by omega) (fun h => absurd h (by omega)) (fun h => ?_) | with_reducible refine sX5_hold_4n (by omega) (fun h => ?_) (fun h => absurd h (by omega)) | with_reducible refine sX5_hold_4n (by omega) (fun h => ?_) (fun h => ?_) | with_reducible refine sX5_hold_4 (fun h => ?_) (fun h => ?_) | with_reducible refine sX5_hold_7 ?_ | with_reducible refine sX5_hold_8 ?_ | with_reducible refine sX5_hold_9n (by omega) (by omega) (fun h => absurd h (by omega)) (fun h => ?_) | with_reducible refine sX5_hold_9n (by omega) (by omega) (fun h => ?_) (fun h => absurd h (by omega)) | with_reducible refine sX5_hold_9n (by omega) (by omega) (fun h => ?_) (fun h => ?_) | with_reducible refine sX5_hold_9 (fun h => ?_) (fun h => ?_) | with_reducible refine sX5_hold_12 ?_ | with_reducible refine sX5_hold_13 ?_ | with_reducible refine sX5_hold_15n (by omega) (by omega) (fun h => absurd h (by omega)) (fun h => ?_) | with_reducible refine sX5_hold_15n (by omega) (by omega) (fun h => ?_) (fun h => absurd h (by omega)) | with_reducible refine sX5_hold_15n (by omega) (by omega) (fun h => ?_) (fun h => ?_) | with_reducible refine sX5_hold_15 (fun h => ?_) (fun h => ?_) | with_reducible refine sX5_hold_18 ?_ | with_reducible refine sX5_hold_19 ?_ | with_reducible refine sX5_hold_21 (by first | with_unfolding_all rfl | exact bI_nar) (by first | exact G_X5_finding0 | exact G_X5_finding1 | exact G_X5_finding2 | exact G_X5_finding3 | exact G_X5_finding4 | exact G_X5_finding5 | exact G_X5_finding6) (by decide) (by with_unfolding_all exact Nat.le_of_ble_eq_true rfl) ?_ | with_reducible refine sX5_hold_24 ?_ | with_reducible refine sX5_hold_26 (q := 0) (p := 1) (by first | with_unfolding_all rfl | exact bI_nar) ?_ | with_reducible refine sX5_hold_29 (q := 1) (p := 9) (by first | with_unfolding_all rfl | exact bI_nar) ?_ | with_reducible refine sX5_hold_29 (q := 11) (p := 19) (by first | with_unfolding_all rfl | exact bI_nar) ?_ | with_reducible refine sX5_hold_29 (q := 21) (p := 29) (by first | with_unfolding_all rfl | exact bI_nar) ?_ | with_reducible refine sX5_hold_32 ?_ | with_reducible refine sX5_hold_33 ?_ | with_reducible refine sX5_hold_34 ?_ | with_reducible refine sX5_hold_35n ?_ | with_reducible refine sX5_hold_35 ?_ | with_reducible refine sX5_hold_36n (by first | with_unfolding_all rfl | exact bI_nar) (by first | omega | decide) ?_ | with_reducible refine sX5_hold_37 ?_ | with_reducible refine sX5_hold_38 ?_)
    all_goals first | exact hR _ _ ⟨rfl, C_fin (by decide) hσ⟩ | exact absurd ⟨by assumption, ltm_t (by decide) (by assumption) (by assumption)⟩ hN
theorem M_hold {A : AA} (hW : WF A) (x y : Int32) : MK 9 mX6_hold [.int x, .int y] A (o_hold A x y) := by
  intro σ hσ
  have hσ0 := hσ
  obtain ⟨⟨hco, hkn, hsc, hz, hsl, hsp⟩, hkp, hfd, htp, hsh⟩ := hσ0
  obtain ⟨hnw, hnt, hft, hsz, hrw⟩ := id hco
  have hW0 := hW
  obtain ⟨⟨hWc, hkb, hslw, hspw⟩, -, htw, hhw⟩ := hW0
  have w1 := hWc.1
  have w2 := hWc.2.1
  unfold o_hold
  by_cases hN : lt' x 10 ∧ ltm y 28
  · rw [ci_t hN]
    obtain ⟨ha, hb⟩ := id hN
    obtain ⟨i, hi, rfl⟩ := id ha
    rw [ix_n (by omega)]
    refine Good.intro (by decide) (cat_ref (cat_int (cat_int cat_nil))) (Nat.le_of_ble_eq_true rfl) (fun X hR => ?_)
    show SW 9 mX6_hold X 0 [some (.ref 49), some (.int (nI i)), some (.int y)] [] _
    repeat' (first | with_reducible refine sX6_hold_0 ?_ | with_reducible refine sX6_hold_1 ?_ | with_reducible refine sX6_hold_2 ?_ | with_reducible refine sX6_hold_3 ?_ | with_reducible refine sX6_hold_6 (by first | exact in_cg (l_lt'c (n := 10) _ (by decide) (by decide)) | exact in_cg (l_ltm (n := 28) _ _ (by decide) (by decide) (by decide))) (by decide) (by with_unfolding_all exact Nat.le_of_ble_eq_true rfl) ?_ | with_reducible refine sX6_hold_9b (fun h => absurd (by assumption) h) (fun h => ?_) | with_reducible refine sX6_hold_9b (fun h => absurd h (by assumption)) (fun h => ?_) | with_reducible refine sX6_hold_9b (fun h => ?_) (fun h => absurd (by assumption) h) | with_reducible refine sX6_hold_9b (fun h => ?_) (fun h => absurd h (by assumption)) | with_reducible refine sX6_hold_9b (fun h => ?_) (fun h => ?_) | with_reducible refine sX6_hold_9n (by omega) (fun h => absurd h (by omega)) (fun h => ?_) | with_reducible refine sX6_hold_9n (by omega) (fun h => ?_) (fun h => absurd h (by omega)) | with_reducible refine sX6_hold_9n (by omega) (fun h => ?_) (fun h => ?_) | with_reducible refine sX6_hold_9 (fun h => ?_) (fun h => ?_) | with_reducible refine sX6_hold_12 ?_ | with_reducible refine sX6_hold_13 ?_ | with_reducible refine sX6_hold_14 ?_ | with_reducible refine sX6_hold_17 ?_ | with_reducible refine sX6_hold_20 (by first | exact in_cg (l_lt'c (n := 10) _ (by decide) (by decide)) | exact in_cg (l_ltm (n := 28) _ _ (by decide) (by decide) (by decide))) (by decide) (by with_unfolding_all exact Nat.le_of_ble_eq_true rfl) ?_ | with_reducible refine sX6_hold_23b (fun h => absurd (by assumption) h) (fun h => ?_) | with_reducible refine sX6_hold_23b (fun h => absurd h (by assumption)) (fun h => ?_) | with_reducible refine sX6_hold_23b (fun h => ?_) (fun h => absurd (by assumption) h) | with_reducible refine sX6_hold_23b (fun h => ?_) (fun h => absurd h (by assumption)) | with_reducible refine sX6_hold_23b (fun h => ?_) (fun h => ?_) | with_reducible refine sX6_hold_23n (by omega) (fun h => absurd h (by omega)) (fun h => ?_) | with_reducible refine sX6_hold_23n (by omega) (fun h => ?_) (fun h => absurd h (by omega)) | with_reducible refine sX6_hold_23n (by omega) (fun h => ?_) (fun h => ?_) | with_reducible refine sX6_hold_23 (fun h => ?_) (fun h => ?_) | with_reducible refine sX6_hold_26 ?_ | with_reducible refine sX6_hold_27 ?_ | with_reducible refine sX6_hold_29 (by first | with_unfolding_all rfl | exact bI_nar) (by first | exact G_X6_finds0 | exact G_X6_finds1 | exact G_X6_finds2 | exact G_X6_finds3 | exact G_X6_finds4 | exact G_X6_finds5 | exact G_X6_finds6) (by decide) (by with_unfolding_all exact Nat.le_of_ble_eq_true rfl) ?_ | with_reducible refine sX6_hold_32 ?_ | with_reducible refine sX6_hold_33 ?_ | with_reducible refine sX6_hold_34 (q := 49) (p := 50) (by first | with_unfolding_all rfl | exact bI_nar) ?_ | with_reducible refine sX6_hold_37 ?_ | with_reducible refine sX6_hold_40 ?_ | with_reducible refine sX6_hold_41n ?_ | with_reducible refine sX6_hold_41 ?_ | with_reducible refine sX6_hold_42 ?_ | with_reducible refine sX6_hold_43n (by first | with_unfolding_all rfl | exact bI_nar) (by first | omega | decide) ?_ | with_reducible refine sX6_hold_44 ?_ | with_reducible refine sX6_hold_45 ?_)
    all_goals first | contradiction | skip
    refine hR _ _ ⟨rfl, hσ.st (s := ((aS A).1, (aS A).2.1, (aS A).2.2.1, (aS A).2.2.2.1, (aS A).2.2.2.2.1, fun k => if k = i then y else sP (aS A) k)) ⟨hco.kx (fun j hj => up2_ni (by omega)) hWc, fun t ht => by have ht : t < ct (sC (aS A)) := ht; rw [up2_ni (by omega)]; exact hkn t ht, fun b hb => by rw [up2_ni (by omega)]; exact hsc b hb, by rw [up2_ni (by omega)]; exact hz, hsl.kx (fun j hj => up2_ni (by omega)), fun k hk => ?_⟩ (fun q j hq => up2_np (by omega)), fun q j hq => up2_np (by omega)⟩
    by_cases e : k = i
    · subst e
      show up2 σ 50 (202 + k) y 50 (202 + k) = (if k = k then y else sP (aS A) k)
      rw [if_pos rfl]; exact up2_eq
    · show up2 σ 50 (202 + i) y 50 (202 + k) = (if k = i then y else sP (aS A) k)
      rw [if_neg e, up2_ni (by omega)]; exact hsp k hk
  · rw [ci_f hN]
    refine Good.intro (by decide) (cat_ref (cat_int (cat_int cat_nil))) (Nat.le_of_ble_eq_true rfl) (fun X hR => ?_)
    show SW 9 mX6_hold X 0 [some (.ref 49), some (.int x), some (.int y)] [] _
    repeat' (first | with_reducible refine sX6_hold_0 ?_ | with_reducible refine sX6_hold_1 ?_ | with_reducible refine sX6_hold_2 ?_ | with_reducible refine sX6_hold_3 ?_ | with_reducible refine sX6_hold_6 (by first | exact in_cg (l_lt'c (n := 10) _ (by decide) (by decide)) | exact in_cg (l_ltm (n := 28) _ _ (by decide) (by decide) (by decide))) (by decide) (by with_unfolding_all exact Nat.le_of_ble_eq_true rfl) ?_ | with_reducible refine sX6_hold_9b (fun h => absurd (by assumption) h) (fun h => ?_) | with_reducible refine sX6_hold_9b (fun h => absurd h (by assumption)) (fun h => ?_) | with_reducible refine sX6_hold_9b (fun h => ?_) (fun h => absurd (by assumption) h) | with_reducible refine sX6_hold_9b (fun h => ?_) (fun h => absurd h (by assumption)) | with_reducible refine sX6_hold_9b (fun h => ?_) (fun h => ?_) | with_reducible refine sX6_hold_9n (by omega) (fun h => absurd h (by omega)) (fun h => ?_) | with_reducible refine sX6_hold_9n (by omega) (fun h => ?_) (fun h => absurd h (by omega)) | with_reducible refine sX6_hold_9n (by omega) (fun h => ?_) (fun h => ?_) | with_reducible refine sX6_hold_9 (fun h => ?_) (fun h => ?_) | with_reducible refine sX6_hold_12 ?_ | with_reducible refine sX6_hold_13 ?_ | with_reducible refine sX6_hold_14 ?_ | with_reducible refine sX6_hold_17 ?_ | with_reducible refine sX6_hold_20 (by first | exact in_cg (l_lt'c (n := 10) _ (by decide) (by decide)) | exact in_cg (l_ltm (n := 28) _ _ (by decide) (by decide) (by decide))) (by decide) (by with_unfolding_all exact Nat.le_of_ble_eq_true rfl) ?_ | with_reducible refine sX6_hold_23b (fun h => absurd (by assumption) h) (fun h => ?_) | with_reducible refine sX6_hold_23b (fun h => absurd h (by assumption)) (fun h => ?_) | with_reducible refine sX6_hold_23b (fun h => ?_) (fun h => absurd (by assumption) h) | with_reducible refine sX6_hold_23b (fun h => ?_) (fun h => absurd h (by assumption)) | with_reducible refine sX6_hold_23b (fun h => ?_) (fun h => ?_) | with_reducible refine sX6_hold_23n (by omega) (fun h => absurd h (by omega)) (fun h => ?_) | with_reducible refine sX6_hold_23n (by omega) (fun h => ?_) (fun h => absurd h (by omega)) | with_reducible refine sX6_hold_23n (by omega) (fun h => ?_) (fun h => ?_) | with_reducible refine sX6_hold_23 (fun h => ?_) (fun h => ?_) | with_reducible refine sX6_hold_26 ?_ | with_reducible refine sX6_hold_27 ?_ | with_reducible refine sX6_hold_29 (by first | with_unfolding_all rfl | exact bI_nar) (by first | exact G_X6_finds0 | exact G_X6_finds1 | exact G_X6_finds2 | exact G_X6_finds3 | exact G_X6_finds4 | exact G_X6_finds5 | exact G_X6_finds6) (by decide) (by with_unfolding_all exact Nat.le_of_ble_eq_true rfl) ?_ | with_reducible refine sX6_hold_32 ?_ | with_reducible refine sX6_hold_34 (q := 49) (p := 50) (by first | with_unfolding_all rfl | exact bI_nar) ?_ | with_reducible refine sX6_hold_37 ?_ | with_reducible refine sX6_hold_40 ?_ | with_reducible refine sX6_hold_41n ?_ | with_reducible refine sX6_hold_41 ?_ | with_reducible refine sX6_hold_42 ?_ | with_reducible refine sX6_hold_43n (by first | with_unfolding_all rfl | exact bI_nar) (by first | omega | decide) ?_ | with_reducible refine sX6_hold_44 ?_ | with_reducible refine sX6_hold_45 ?_)
    all_goals first | exact hR _ _ ⟨rfl, M_fin (by decide) hσ⟩ | exact absurd ⟨by assumption, by assumption⟩ hN
