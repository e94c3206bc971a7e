/-! the whole state, as the class and as the model hold it -/
abbrev SA : Type := CO × (Nat → Nat) × (Nat → Int32) × Int32 × Option (Nat × Nat × Nat × Nat × Nat) × (Nat → Int32)
def sC (s : SA) : CO := s.1
def sK (s : SA) : Nat → Nat := s.2.1
def sS (s : SA) : Nat → Int32 := s.2.2.1
def sZ (s : SA) : Int32 := s.2.2.2.1
def sL (s : SA) : Option (Nat × Nat × Nat × Nat × Nat) := s.2.2.2.2.1
def sP (s : SA) : Nat → Int32 := s.2.2.2.2.2
abbrev AA : Type := SA × Option SA × (Nat → Int32) × (Nat × (Nat → Nat)) × (Nat → Nat × Nat × (Nat → Int32))
def aS (A : AA) : SA := A.1
def aK (A : AA) : Option SA := A.2.1
def aF (A : AA) : Nat → Int32 := A.2.2.1
def aT (A : AA) : Nat × (Nat → Nat) := A.2.2.2.1
def aH (A : AA) : Nat → Nat × Nat × (Nat → Int32) := A.2.2.2.2
def WFs (s : SA) : Prop := WFc (sC s) ∧ (∀ b, b < 2 → sK s b < 2 ^ ct (sC s)) ∧ (∀ x, sL s = some x → x.1 < ct (sC s) ∧ x.2.1 < 2 ∧ x.2.2.1 ≤ 60 ∧ x.2.2.2.2 < 2 ^ ct (sC s)) ∧ ∀ i, i < 10 → sP s i = -1 ∨ lt' (sP s i) 28
def WF (A : AA) : Prop := WFs (aS A) ∧ (∀ k, aK A = some k → WFs k) ∧ ((aT A).1 ≤ 120 ∧ ∀ k, k < (aT A).1 → (aT A).2 k < 256) ∧ ∀ s, s < 4 → (aH A s).2.1 ≤ 40 ∧ ((aH A s).1 = 0 ∨ (aH A s).1 = 8 ∨ (aH A s).1 = 16 ∨ (aH A s).1 = 32)
def CoCg (o p1 p2 p3 p4 p5 : Nat) (c : CO) (σ : Hp) : Prop := σ o 3 = nI (cw c) ∧ σ o 6 = nI (ct c) ∧ (∀ w, w < cw c → σ p1 w = nI (cf c w 0)) ∧ (∀ w, w < cw c → σ p2 w = nI (cf c w 1)) ∧ (∀ w, w < cw c → σ p3 w = nI (cf c w 2)) ∧ (∀ t, t < ct c → σ p5 t = nI (cz c t)) ∧ ∀ t, t < ct c → ∀ i, i < cz c t → σ p4 (4 * t + i) = nI (cr c t i)
def SlC (p : Nat) (σ : Hp) (x : Option (Nat × Nat × Nat × Nat × Nat)) : Prop := (x = none → σ p 0 = -1) ∧ ∀ y, x = some y → σ p 0 = nI y.1 ∧ σ p 1 = nI y.2.1 ∧ σ p 2 = nI y.2.2.1 ∧ σ p 3 = nI y.2.2.2.1 ∧ σ p 4 = nI y.2.2.2.2
def SlM (r : Nat) (σ : Hp) (x : Option (Nat × Nat × Nat × Nat × Nat)) : Prop := (x = none → σ r 5 = -1) ∧ ∀ y, x = some y → σ r 5 = nI y.1 ∧ σ r 6 = nI y.2.1 ∧ σ r 7 = nI y.2.2.1 ∧ σ r 8 = nI y.2.2.2.1 ∧ σ r 9 = nI y.2.2.2.2
def StC (o p1 p2 p3 p4 p5 p6 p7 p8 p9 : Nat) (s : SA) (σ : Hp) : Prop := CoCg o p1 p2 p3 p4 p5 (sC s) σ ∧ (∀ b, b < 2 → σ p6 b = nI (sK s b)) ∧ (∀ b, b < 2 → σ p7 b = sS s b) ∧ σ o 11 = sZ s ∧ SlC p9 σ (sL s) ∧ ∀ i, i < 10 → σ p8 i = sP s i + nI 1
def CoMg (r : Nat) (c : CO) (σ : Hp) : Prop := σ r 0 = nI (cw c) ∧ σ r 1 = nI (ct c) ∧ (∀ w, w < cw c → ∀ f, f < 3 → σ r (10 + 3 * w + f) = nI (cf c w f)) ∧ (∀ t, t < ct c → σ r (58 + 6 * t + 0) = nI (cz c t)) ∧ ∀ t, t < ct c → ∀ i, i < cz c t → σ r (58 + 6 * t + (1 + i)) = nI (cr c t i)
def StM (r : Nat) (s : SA) (σ : Hp) : Prop := CoMg r (sC s) σ ∧ (∀ t, t < ct (sC s) → σ r (58 + 6 * t + 5) = nI (msk (sK s) t)) ∧ (∀ b, b < 2 → σ r (2 + b) = sS s b) ∧ σ r 4 = sZ s ∧ SlM r σ (sL s) ∧ ∀ i, i < 10 → σ r (202 + i) = sP s i
def KpC (σ : Hp) (x : Option SA) : Prop := (x = none → σ 0 9 = nI 0) ∧ ∀ k, x = some k → σ 0 9 = nI 1 ∧ StC 11 12 13 14 15 16 17 18 19 20 k σ
def KpM (σ : Hp) (x : Option SA) : Prop := (x = none → σ 49 3 = nI 0) ∧ ∀ k, x = some k → σ 49 3 = nI 1 ∧ StM 51 k σ
def TpC (σ : Hp) (x : Nat × (Nat → Nat)) : Prop := σ 36 1 = nI x.1 ∧ ∀ k, k < x.1 → σ 37 k = nI (x.2 k)
def TpM (σ : Hp) (x : Nat × (Nat → Nat)) : Prop := σ 49 16 = nI x.1 ∧ ∀ k, k < x.1 → σ 57 k = nI (x.2 k)
def ShC (σ : Hp) (x : Nat → Nat × Nat × (Nat → Int32)) : Prop := ∀ s, s < 4 → σ (41 + 2 * s) 1 = nI (x s).2.1 ∧ σ (41 + 2 * s) 2 = nI (x s).1 ∧ ∀ k, k < (x s).2.1 → σ (42 + 2 * s) k = (x s).2.2 k
def ShM (σ : Hp) (x : Nat → Nat × Nat × (Nat → Int32)) : Prop := ∀ s, s < 4 → σ 59 s = nI (x s).2.1 ∧ σ 58 s = nI (x s).1 ∧ ∀ k, k < (x s).2.1 → σ 60 (40 * s + k) = (x s).2.2 k
def CompRep (A : AA) (σ : Hp) : Prop := StC 1 2 3 4 5 6 7 8 9 10 (aS A) σ ∧ KpC σ (aK A) ∧ (∀ i, i < 7 → σ 39 i = aF A i) ∧ TpC σ (aT A) ∧ ShC σ (aH A) ∧ ∀ v, v < 97 → σ 34 v = 0
def ModRep (A : AA) (σ : Hp) : Prop := StM 50 (aS A) σ ∧ KpM σ (aK A) ∧ (∀ i, i < 7 → σ 53 i = aF A i) ∧ TpM σ (aT A) ∧ ShM σ (aH A)
/-- a call of the class; of the model -/
def CK (d : Nat) (M : MT) (args : List Value) (A : AA) (R : Int32 × AA) : Prop := ∀ σ, CompRep A σ → Good d M (.ref 0 :: args) σ (fun w τ => w = some (.int R.1) ∧ CompRep R.2 τ ∧ ∀ q j, 49 ≤ q → τ q j = σ q j)
def MK (d : Nat) (M : MT) (args : List Value) (A : AA) (R : Int32 × AA) : Prop := ∀ σ, ModRep A σ → Good d M (.ref 49 :: args) σ (fun w τ => w = some (.int R.1) ∧ ModRep R.2 τ ∧ ∀ q j, q < 49 → τ q j = σ q j)
theorem CoCg.keep {o p1 p2 p3 p4 p5 : Nat} {c : CO} {σ τ : Hp} (h : CoCg o p1 p2 p3 p4 p5 c σ) (e0 : τ o = σ o) (e1 : τ p1 = σ p1) (e2 : τ p2 = σ p2) (e3 : τ p3 = σ p3) (e4 : τ p4 = σ p4) (e5 : τ p5 = σ p5) : CoCg o p1 p2 p3 p4 p5 c τ := by
  unfold CoCg; rw [e0, e1, e2, e3, e4, e5]; exact h
theorem StC.keep {o p1 p2 p3 p4 p5 p6 p7 p8 p9 : Nat} {s : SA} {σ τ : Hp} (h : StC o p1 p2 p3 p4 p5 p6 p7 p8 p9 s σ) (e : ∀ q, q = o ∨ q = p1 ∨ q = p2 ∨ q = p3 ∨ q = p4 ∨ q = p5 ∨ q = p6 ∨ q = p7 ∨ q = p8 ∨ q = p9 → τ q = σ q) : StC o p1 p2 p3 p4 p5 p6 p7 p8 p9 s τ := by
  unfold StC CoCg SlC
  rw [e o (by simp), e p1 (by simp), e p2 (by simp), e p3 (by simp), e p4 (by simp), e p5 (by simp), e p6 (by simp), e p7 (by simp), e p8 (by simp), e p9 (by simp)]
  exact h
theorem CompRep.keep {A : AA} {σ τ : Hp} (h : CompRep A σ) (e : ∀ q j, q ≤ 20 ∨ (q = 36 ∧ j = 1) ∨ q = 37 ∨ q = 39 ∨ (41 ≤ q ∧ q ≤ 48) → τ q j = σ q j) (hz : ∀ v, v < 97 → τ 34 v = 0) : CompRep A τ := by
  obtain ⟨h1, h2, h3, h4, h5, -⟩ := h
  have er : ∀ q, q ≤ 20 → τ q = σ q := fun q hq => funext fun j => e q j (Or.inl hq)
  refine ⟨h1.keep (fun q hq => er q (by omega)), ⟨fun x => by rw [er 0 (by decide)]; exact h2.1 x, fun k hk => ⟨by rw [er 0 (by decide)]; exact (h2.2 k hk).1, (h2.2 k hk).2.keep (fun q hq => er q (by omega))⟩⟩, fun i hi => by rw [e 39 i (by omega)]; exact h3 i hi, ⟨by rw [e 36 1 (by omega)]; exact h4.1, fun k hk => by rw [e 37 k (by omega)]; exact h4.2 k hk⟩, fun s hs => ⟨by rw [e _ _ (by omega)]; exact (h5 s hs).1, by rw [e _ _ (by omega)]; exact (h5 s hs).2.1, fun k hk => by rw [e _ _ (by omega)]; exact (h5 s hs).2.2 k hk⟩, hz⟩
theorem StM.keep {r : Nat} {s : SA} {σ τ : Hp} (h : StM r s σ) (e : τ r = σ r) : StM r s τ := by
  unfold StM CoMg SlM; rw [e]; exact h
theorem ModRep.keep {A : AA} {σ τ : Hp} (h : ModRep A σ) (e : ∀ q j, q = 50 ∨ q = 51 ∨ q = 53 ∨ q = 57 ∨ q = 58 ∨ q = 59 ∨ q = 60 ∨ (q = 49 ∧ (j = 3 ∨ j = 16)) → τ q j = σ q j) : ModRep A τ := by
  obtain ⟨h1, h2, h3, h4, h5⟩ := h
  have er : ∀ q, q = 50 ∨ q = 51 → τ q = σ q := fun q hq => funext fun j => e q j (by omega)
  refine ⟨h1.keep (er 50 (by simp)), ⟨fun x => by rw [e 49 3 (by simp)]; exact h2.1 x, fun k hk => ⟨by rw [e 49 3 (by simp)]; exact (h2.2 k hk).1, (h2.2 k hk).2.keep (er 51 (by simp))⟩⟩, fun i hi => by rw [e 53 i (by simp)]; exact h3 i hi, ⟨by rw [e 49 16 (by simp)]; exact h4.1, fun k hk => by rw [e 57 k (by simp)]; exact h4.2 k hk⟩, fun s hs => ⟨by rw [e 59 s (by simp)]; exact (h5 s hs).1, by rw [e 58 s (by simp)]; exact (h5 s hs).2.1, fun k hk => by rw [e 60 _ (by simp)]; exact (h5 s hs).2.2 k hk⟩⟩
/-- finding i is counted -/
def fA (A : AA) (i : Nat) : AA := (A.1, A.2.1, (fun j => if j = i then A.2.2.1 j + nI 1 else A.2.2.1 j), A.2.2.2.1, A.2.2.2.2)
theorem CompRep.fin {A : AA} {σ : Hp} (h : CompRep A σ) {i : Nat} (hi : i < 7) : CompRep (fA A i) (up2 σ 39 i (σ 39 i + nI 1)) := by
  obtain ⟨h1, h2, h3, h4, h5, h6⟩ := h
  have h0 : CompRep A (up2 (up2 σ 39 i (σ 39 i + nI 1)) 39 i (σ 39 i)) := by
    have e : up2 (up2 σ 39 i (σ 39 i + nI 1)) 39 i (σ 39 i) = σ := by
      funext q j
      by_cases q1 : q = 39 ∧ j = i
      · obtain ⟨rfl, rfl⟩ := q1; simp [up2]
      · simp only [up2, if_neg q1]
    rw [e]
    exact ⟨h1, h2, h3, h4, h5, h6⟩
  have er : ∀ q, q ≠ 39 → up2 σ 39 i (σ 39 i + nI 1) q = σ q := fun q hq => up2_other hq
  refine ⟨h1.keep (fun q hq => er q (by omega)), ⟨fun x => by rw [er 0 (by decide)]; exact h2.1 x, fun k hk => ⟨by rw [er 0 (by decide)]; exact (h2.2 k hk).1, (h2.2 k hk).2.keep (fun q hq => er q (by omega))⟩⟩, fun j hj => ?_, ⟨by rw [er 36 (by decide)]; exact h4.1, fun k hk => by rw [er 37 (by decide)]; exact h4.2 k hk⟩, fun s hs => ⟨by rw [er _ (by omega)]; exact (h5 s hs).1, by rw [er _ (by omega)]; exact (h5 s hs).2.1, fun k hk => by rw [er _ (by omega)]; exact (h5 s hs).2.2 k hk⟩, fun v hv => by rw [er 34 (by decide)]; exact h6 v hv⟩
  show up2 σ 39 i (σ 39 i + nI 1) 39 j = if j = i then aF A j + nI 1 else aF A j
  by_cases e : j = i
  · subst e; rw [if_pos rfl, up2_eq, h3 j hj]
  · rw [if_neg e, up2_ni e, h3 j hj]
theorem ModRep.fin {A : AA} {σ : Hp} (h : ModRep A σ) {i : Nat} (hi : i < 7) : ModRep (fA A i) (up2 σ 53 i (σ 53 i + nI 1)) := by
  obtain ⟨h1, h2, h3, h4, h5⟩ := h
  have er : ∀ q, q ≠ 53 → up2 σ 53 i (σ 53 i + nI 1) q = σ q := fun q hq => up2_other hq
  refine ⟨h1.keep (er 50 (by decide)), ⟨fun x => by rw [er 49 (by decide)]; exact h2.1 x, fun k hk => ⟨by rw [er 49 (by decide)]; exact (h2.2 k hk).1, (h2.2 k hk).2.keep (er 51 (by decide))⟩⟩, fun j hj => ?_, ⟨by rw [er 49 (by decide)]; exact h4.1, fun k hk => by rw [er 57 (by decide)]; exact h4.2 k hk⟩, fun s hs => ⟨by rw [er 59 (by decide)]; exact (h5 s hs).1, by rw [er 58 (by decide)]; exact (h5 s hs).2.1, fun k hk => by rw [er 60 (by decide)]; exact (h5 s hs).2.2 k hk⟩⟩
  show up2 σ 53 i (σ 53 i + nI 1) 53 j = if j = i then aF A j + nI 1 else aF A j
  by_cases e : j = i
  · subst e; rw [if_pos rfl, up2_eq, h3 j hj]
  · rw [if_neg e, up2_ni e, h3 j hj]
theorem WF.fin {A : AA} (h : WF A) (i : Nat) : WF (fA A i) := h
theorem sh_o {τ σ : Hp} {p i : Nat} {v : Int32} (h : τ = up2 σ p i v) (hp : p < 49) : ∀ q j, 49 ≤ q → τ q j = σ q j := fun q j hq => by rw [h]; exact up2_np (by omega)
theorem mo_o {τ σ : Hp} {p i : Nat} {v : Int32} (h : τ = up2 σ p i v) (hp : 49 ≤ p) : ∀ q j, q < 49 → τ q j = σ q j := fun q j hq => by rw [h]; exact up2_np (by omega)
/-- the numbers of the findings -/
def fN (i : Nat) : Int32 := ([-1000001, -1000002, -1000003, -1000004, -1000005, -1000006, -1000007] : List Int32).getD i 0
noncomputable def fin (A : AA) (i : Nat) : Int32 × AA := (fN i, fA A i)
