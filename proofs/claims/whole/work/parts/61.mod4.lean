/-! the model's calls: the slip -/
theorem StM.sl {s : SA} {x : Option (Nat × Nat × Nat × Nat × Nat)} {σ τ : Hp} (h : StM 50 s σ) (hct : ct (sC s) ≤ 24) (hcw : cw (sC s) ≤ 16) (hz : ∀ t, t < ct (sC s) → cz (sC s) t ≤ 4) (hx : SlM 50 τ x) (e : ∀ j, j < 5 ∨ 9 < j → τ 50 j = σ 50 j) : StM 50 (s.1, s.2.1, s.2.2.1, s.2.2.2.1, x, s.2.2.2.2.2) τ := by
  obtain ⟨⟨a1, a2, a3, a4, a5⟩, h2, h3, h4, -, h6⟩ := h
  refine ⟨⟨?_, ?_, fun w hw f hf => ?_, fun t ht => ?_, fun t ht i hi => ?_⟩, fun t ht => ?_, fun b hb => ?_, ?_, hx, fun i hi => ?_⟩
  · rw [e _ (by omega)]; exact a1
  · rw [e _ (by omega)]; exact a2
  · rw [e _ (by omega)]; exact a3 w hw f hf
  · rw [e _ (by omega)]; exact a4 t ht
  · rw [e _ (by omega)]; exact a5 t ht i hi
  · rw [e _ (by omega)]; exact h2 t ht
  · rw [e _ (by omega)]; exact h3 b hb
  · rw [e _ (by omega)]; exact h4
  · rw [e _ (by omega)]; exact h6 i hi
