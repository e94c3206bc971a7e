/-! the start: both objects made, then the law -/
theorem oMimes_cg {cI cS : ClassId} {h0 : Nat} {ad ad' : Nat → Nat} (h : ∀ k, k < 48 → ad k = ad' k) : oMimes cI cS h0 ad = oMimes cI cS h0 ad' := by
  unfold oMimes
  rw [h 0 (by decide), h 1 (by decide), h 2 (by decide), h 3 (by decide), h 4 (by decide), h 5 (by decide), h 6 (by decide), h 7 (by decide), h 8 (by decide), h 9 (by decide), h 10 (by decide), h 11 (by decide), h 12 (by decide), h 13 (by decide), h 14 (by decide), h 15 (by decide), h 16 (by decide), h 17 (by decide), h 18 (by decide), h 19 (by decide), h 20 (by decide), h 21 (by decide), h 22 (by decide), h 23 (by decide), h 24 (by decide), h 25 (by decide), h 26 (by decide), h 27 (by decide), h 28 (by decide), h 29 (by decide), h 30 (by decide), h 31 (by decide), h 32 (by decide), h 33 (by decide), h 34 (by decide), h 35 (by decide), h 36 (by decide), h 37 (by decide), h 38 (by decide), h 39 (by decide), h 40 (by decide), h 41 (by decide), h 42 (by decide), h 43 (by decide), h 44 (by decide), h 45 (by decide), h 46 (by decide), h 47 (by decide)]
theorem oModel_cg {cI : ClassId} {h0 : Nat} {ad ad' : Nat → Nat} (h : ∀ k, k < 11 → ad k = ad' k) : oModel cI h0 ad = oModel cI h0 ad' := by
  unfold oModel
  rw [h 0 (by decide), h 1 (by decide), h 2 (by decide), h 3 (by decide), h 4 (by decide), h 5 (by decide), h 6 (by decide), h 7 (by decide), h 8 (by decide), h 9 (by decide), h 10 (by decide)]
theorem ce_row {E : Ev} {k n : Nat} {f : Nat → Int32} (hl : lay k = .inl n) (hz : hp0 k = f) : cellO E hp0 k = .inl (E.2.2.2.1, n, .inl f) := by simp only [cellO, hl, hz]
theorem ce_obj {E : Ev} {k ci : Nat} {fs : List (Option Nat)} {vs : List Value} (hl : lay k = .inr (.inl (ci, fs))) (hv : fsO E.1 hp0 k fs = vs) : cellO E hp0 k = .inr (ci, vs) := by simp only [cellO, hl, hv]
theorem hp_z {k : Nat} (h1 : ¬ (k = 1 ∨ k = 11 ∨ k = 21)) (h2 : ¬ (k = 10 ∨ k = 20 ∨ k = 30 ∨ k = 35)) (h3 : ¬ k = 50) : hp0 k = fun _ => nI 0 := by
  funext j
  exact hp0_z (fun h => h1 h.1) (fun h => h2 h.1) (fun h => h3 h.1) (fun h => h3 h.1)
theorem hp_50 : hp0 50 = f6 10 := by
  funext j
  unfold hp0 f6
  by_cases h4 : j = 4
  · rw [if_neg (by omega), if_neg (by omega), if_pos (by omega), if_pos h4]
  · by_cases h5 : j = 5 ∨ (202 ≤ j ∧ j < 212)
    · rw [if_neg (by omega), if_neg (by omega), if_neg (by omega), if_pos (by omega), if_neg h4, if_pos (by omega)]
    · rw [if_neg (by omega), if_neg (by omega), if_neg (by omega), if_neg (by omega), if_neg h4, if_neg (by omega)]
theorem hp_1 {k : Nat} (h : k = 1 ∨ k = 11 ∨ k = 21) : hp0 k 11 = nI 1 := by
  unfold hp0
  rw [if_pos ⟨h, rfl⟩]
theorem hp_m {k : Nat} (h : k = 10 ∨ k = 20 ∨ k = 30 ∨ k = 35) : hp0 k 0 = -1 := by
  unfold hp0
  rw [if_neg (by omega), if_pos ⟨h, rfl⟩]
theorem rn_up (E : Ev) : (fun j => (([41, 43, 45, 47] : List Nat)[j]?).map E.1) = va_up (va_up (va_up (va_up (fun _ => none) (nI 0).toNatClampNeg (some (E.1 41))) (nI 1).toNatClampNeg (some (E.1 43))) (nI 2).toNatClampNeg (some (E.1 45))) (nI 3).toNatClampNeg (some (E.1 47)) := by
  rw [nI_clamp (n := 0) (by decide), nI_clamp (n := 1) (by decide), nI_clamp (n := 2) (by decide), nI_clamp (n := 3) (by decide)]
  funext j
  rcases j with _ | _ | _ | _ | j
  · rfl
  · rfl
  · rfl
  · rfl
  · simp only [va_up]
    rw [if_neg (by omega), if_neg (by omega), if_neg (by omega), if_neg (by omega)]
    rfl
theorem ce_38 (E : Ev) : cellO E hp0 38 = .inl (E.2.2.2.2.1, 4, .inr (.inr (.inr (.inr (va_up (va_up (va_up (va_up (fun _ => none) (nI 0).toNatClampNeg (some (E.1 41))) (nI 1).toNatClampNeg (some (E.1 43))) (nI 2).toNatClampNeg (some (E.1 45))) (nI 3).toNatClampNeg (some (E.1 47))))))) := by
  have h1 : lay 38 = .inr (.inr [41, 43, 45, 47]) := by decide
  rw [← rn_up E]
  simp only [cellO, h1] <;> rfl
theorem ce_0 (E : Ev) : cellO E hp0 0 = .inr (5, [.ref (E.1 1), .ref (E.1 11), .ref (E.1 21), .ref (E.1 31), .ref (E.1 35), .ref (E.1 36), .ref (E.1 38), .ref (E.1 39), .ref (E.1 40), .int (nI 0)]) := ce_obj (fs := [some 1, some 11, some 21, some 31, some 35, some 36, some 38, some 39, some 40, none]) (by decide +kernel) (by
  show ([.ref (E.1 1), .ref (E.1 11), .ref (E.1 21), .ref (E.1 31), .ref (E.1 35), .ref (E.1 36), .ref (E.1 38), .ref (E.1 39), .ref (E.1 40), .int (hp0 0 9)] : List Value) = _
  rw [hp0_z (q := 0) (j := 9) (by omega) (by omega) (by omega) (by omega)])
theorem ce_1 (E : Ev) : cellO E hp0 1 = .inr (3, [.ref (E.1 2), .ref (E.1 3), .ref (E.1 4), .int (nI 0), .ref (E.1 5), .ref (E.1 6), .int (nI 0), .ref (E.1 7), .ref (E.1 8), .ref (E.1 9), .ref (E.1 10), .int (nI 1)]) := ce_obj (fs := [some 2, some 3, some 4, none, some 5, some 6, none, some 7, some 8, some 9, some 10, none]) (by decide +kernel) (by
  show ([.ref (E.1 2), .ref (E.1 3), .ref (E.1 4), .int (hp0 1 3), .ref (E.1 5), .ref (E.1 6), .int (hp0 1 6), .ref (E.1 7), .ref (E.1 8), .ref (E.1 9), .ref (E.1 10), .int (hp0 1 11)] : List Value) = _
  rw [hp0_z (q := 1) (j := 3) (by omega) (by omega) (by omega) (by omega), hp0_z (q := 1) (j := 6) (by omega) (by omega) (by omega) (by omega), hp_1 (k := 1) (by omega)])
theorem ce_10 (E : Ev) : cellO E hp0 10 = .inr (2, [.int (-1), .int (nI 0), .int (nI 0), .int (nI 0), .int (nI 0)]) := ce_obj (fs := [none, none, none, none, none]) (by decide +kernel) (by
  show ([.int (hp0 10 0), .int (hp0 10 1), .int (hp0 10 2), .int (hp0 10 3), .int (hp0 10 4)] : List Value) = _
  rw [hp_m (k := 10) (by omega), hp0_z (q := 10) (j := 1) (by omega) (by omega) (by omega) (by omega), hp0_z (q := 10) (j := 2) (by omega) (by omega) (by omega) (by omega), hp0_z (q := 10) (j := 3) (by omega) (by omega) (by omega) (by omega), hp0_z (q := 10) (j := 4) (by omega) (by omega) (by omega) (by omega)])
theorem ce_11 (E : Ev) : cellO E hp0 11 = .inr (3, [.ref (E.1 12), .ref (E.1 13), .ref (E.1 14), .int (nI 0), .ref (E.1 15), .ref (E.1 16), .int (nI 0), .ref (E.1 17), .ref (E.1 18), .ref (E.1 19), .ref (E.1 20), .int (nI 1)]) := ce_obj (fs := [some 12, some 13, some 14, none, some 15, some 16, none, some 17, some 18, some 19, some 20, none]) (by decide +kernel) (by
  show ([.ref (E.1 12), .ref (E.1 13), .ref (E.1 14), .int (hp0 11 3), .ref (E.1 15), .ref (E.1 16), .int (hp0 11 6), .ref (E.1 17), .ref (E.1 18), .ref (E.1 19), .ref (E.1 20), .int (hp0 11 11)] : List Value) = _
  rw [hp0_z (q := 11) (j := 3) (by omega) (by omega) (by omega) (by omega), hp0_z (q := 11) (j := 6) (by omega) (by omega) (by omega) (by omega), hp_1 (k := 11) (by omega)])
theorem ce_20 (E : Ev) : cellO E hp0 20 = .inr (2, [.int (-1), .int (nI 0), .int (nI 0), .int (nI 0), .int (nI 0)]) := ce_obj (fs := [none, none, none, none, none]) (by decide +kernel) (by
  show ([.int (hp0 20 0), .int (hp0 20 1), .int (hp0 20 2), .int (hp0 20 3), .int (hp0 20 4)] : List Value) = _
  rw [hp_m (k := 20) (by omega), hp0_z (q := 20) (j := 1) (by omega) (by omega) (by omega) (by omega), hp0_z (q := 20) (j := 2) (by omega) (by omega) (by omega) (by omega), hp0_z (q := 20) (j := 3) (by omega) (by omega) (by omega) (by omega), hp0_z (q := 20) (j := 4) (by omega) (by omega) (by omega) (by omega)])
theorem ce_21 (E : Ev) : cellO E hp0 21 = .inr (3, [.ref (E.1 22), .ref (E.1 23), .ref (E.1 24), .int (nI 0), .ref (E.1 25), .ref (E.1 26), .int (nI 0), .ref (E.1 27), .ref (E.1 28), .ref (E.1 29), .ref (E.1 30), .int (nI 1)]) := ce_obj (fs := [some 22, some 23, some 24, none, some 25, some 26, none, some 27, some 28, some 29, some 30, none]) (by decide +kernel) (by
  show ([.ref (E.1 22), .ref (E.1 23), .ref (E.1 24), .int (hp0 21 3), .ref (E.1 25), .ref (E.1 26), .int (hp0 21 6), .ref (E.1 27), .ref (E.1 28), .ref (E.1 29), .ref (E.1 30), .int (hp0 21 11)] : List Value) = _
  rw [hp0_z (q := 21) (j := 3) (by omega) (by omega) (by omega) (by omega), hp0_z (q := 21) (j := 6) (by omega) (by omega) (by omega) (by omega), hp_1 (k := 21) (by omega)])
theorem ce_30 (E : Ev) : cellO E hp0 30 = .inr (2, [.int (-1), .int (nI 0), .int (nI 0), .int (nI 0), .int (nI 0)]) := ce_obj (fs := [none, none, none, none, none]) (by decide +kernel) (by
  show ([.int (hp0 30 0), .int (hp0 30 1), .int (hp0 30 2), .int (hp0 30 3), .int (hp0 30 4)] : List Value) = _
  rw [hp_m (k := 30) (by omega), hp0_z (q := 30) (j := 1) (by omega) (by omega) (by omega) (by omega), hp0_z (q := 30) (j := 2) (by omega) (by omega) (by omega) (by omega), hp0_z (q := 30) (j := 3) (by omega) (by omega) (by omega) (by omega), hp0_z (q := 30) (j := 4) (by omega) (by omega) (by omega) (by omega)])
theorem ce_31 (E : Ev) : cellO E hp0 31 = .inr (0, [.ref (E.1 32), .ref (E.1 33), .ref (E.1 34), .int (nI 0)]) := ce_obj (fs := [some 32, some 33, some 34, none]) (by decide +kernel) (by
  show ([.ref (E.1 32), .ref (E.1 33), .ref (E.1 34), .int (hp0 31 3)] : List Value) = _
  rw [hp0_z (q := 31) (j := 3) (by omega) (by omega) (by omega) (by omega)])
theorem ce_35 (E : Ev) : cellO E hp0 35 = .inr (2, [.int (-1), .int (nI 0), .int (nI 0), .int (nI 0), .int (nI 0)]) := ce_obj (fs := [none, none, none, none, none]) (by decide +kernel) (by
  show ([.int (hp0 35 0), .int (hp0 35 1), .int (hp0 35 2), .int (hp0 35 3), .int (hp0 35 4)] : List Value) = _
  rw [hp_m (k := 35) (by omega), hp0_z (q := 35) (j := 1) (by omega) (by omega) (by omega) (by omega), hp0_z (q := 35) (j := 2) (by omega) (by omega) (by omega) (by omega), hp0_z (q := 35) (j := 3) (by omega) (by omega) (by omega) (by omega), hp0_z (q := 35) (j := 4) (by omega) (by omega) (by omega) (by omega)])
theorem ce_36 (E : Ev) : cellO E hp0 36 = .inr (4, [.ref (E.1 37), .int (nI 0), .int (nI 0), .int (nI 0), .int (nI 0), .int (nI 0)]) := ce_obj (fs := [some 37, none, none, none, none, none]) (by decide +kernel) (by
  show ([.ref (E.1 37), .int (hp0 36 1), .int (hp0 36 2), .int (hp0 36 3), .int (hp0 36 4), .int (hp0 36 5)] : List Value) = _
  rw [hp0_z (q := 36) (j := 1) (by omega) (by omega) (by omega) (by omega), hp0_z (q := 36) (j := 2) (by omega) (by omega) (by omega) (by omega), hp0_z (q := 36) (j := 3) (by omega) (by omega) (by omega) (by omega), hp0_z (q := 36) (j := 4) (by omega) (by omega) (by omega) (by omega), hp0_z (q := 36) (j := 5) (by omega) (by omega) (by omega) (by omega)])
theorem ce_41 (E : Ev) : cellO E hp0 41 = .inr (1, [.ref (E.1 42), .int (nI 0), .int (nI 0)]) := ce_obj (fs := [some 42, none, none]) (by decide +kernel) (by
  show ([.ref (E.1 42), .int (hp0 41 1), .int (hp0 41 2)] : List Value) = _
  rw [hp0_z (q := 41) (j := 1) (by omega) (by omega) (by omega) (by omega), hp0_z (q := 41) (j := 2) (by omega) (by omega) (by omega) (by omega)])
theorem ce_43 (E : Ev) : cellO E hp0 43 = .inr (1, [.ref (E.1 44), .int (nI 0), .int (nI 0)]) := ce_obj (fs := [some 44, none, none]) (by decide +kernel) (by
  show ([.ref (E.1 44), .int (hp0 43 1), .int (hp0 43 2)] : List Value) = _
  rw [hp0_z (q := 43) (j := 1) (by omega) (by omega) (by omega) (by omega), hp0_z (q := 43) (j := 2) (by omega) (by omega) (by omega) (by omega)])
theorem ce_45 (E : Ev) : cellO E hp0 45 = .inr (1, [.ref (E.1 46), .int (nI 0), .int (nI 0)]) := ce_obj (fs := [some 46, none, none]) (by decide +kernel) (by
  show ([.ref (E.1 46), .int (hp0 45 1), .int (hp0 45 2)] : List Value) = _
  rw [hp0_z (q := 45) (j := 1) (by omega) (by omega) (by omega) (by omega), hp0_z (q := 45) (j := 2) (by omega) (by omega) (by omega) (by omega)])
theorem ce_47 (E : Ev) : cellO E hp0 47 = .inr (1, [.ref (E.1 48), .int (nI 0), .int (nI 0)]) := ce_obj (fs := [some 48, none, none]) (by decide +kernel) (by
  show ([.ref (E.1 48), .int (hp0 47 1), .int (hp0 47 2)] : List Value) = _
  rw [hp0_z (q := 47) (j := 1) (by omega) (by omega) (by omega) (by omega), hp0_z (q := 47) (j := 2) (by omega) (by omega) (by omega) (by omega)])
theorem ce_49 (E : Ev) : cellO E hp0 49 = .inr (6, [.ref (E.1 50), .ref (E.1 51), .ref (E.1 52), .int (nI 0), .ref (E.1 53), .ref (E.1 54), .ref (E.1 55), .int (nI 0), .int (nI 0), .int (nI 0), .int (nI 0), .int (nI 0), .ref (E.1 56), .int (nI 0), .int (nI 0), .ref (E.1 57), .int (nI 0), .int (nI 0), .int (nI 0), .int (nI 0), .int (nI 0), .int (nI 0), .ref (E.1 58), .ref (E.1 59), .ref (E.1 60)]) := ce_obj (fs := [some 50, some 51, some 52, none, some 53, some 54, some 55, none, none, none, none, none, some 56, none, none, some 57, none, none, none, none, none, none, some 58, some 59, some 60]) (by decide +kernel) (by
  show ([.ref (E.1 50), .ref (E.1 51), .ref (E.1 52), .int (hp0 49 3), .ref (E.1 53), .ref (E.1 54), .ref (E.1 55), .int (hp0 49 7), .int (hp0 49 8), .int (hp0 49 9), .int (hp0 49 10), .int (hp0 49 11), .ref (E.1 56), .int (hp0 49 13), .int (hp0 49 14), .ref (E.1 57), .int (hp0 49 16), .int (hp0 49 17), .int (hp0 49 18), .int (hp0 49 19), .int (hp0 49 20), .int (hp0 49 21), .ref (E.1 58), .ref (E.1 59), .ref (E.1 60)] : List Value) = _
  rw [hp0_z (q := 49) (j := 3) (by omega) (by omega) (by omega) (by omega), hp0_z (q := 49) (j := 7) (by omega) (by omega) (by omega) (by omega), hp0_z (q := 49) (j := 8) (by omega) (by omega) (by omega) (by omega), hp0_z (q := 49) (j := 9) (by omega) (by omega) (by omega) (by omega), hp0_z (q := 49) (j := 10) (by omega) (by omega) (by omega) (by omega), hp0_z (q := 49) (j := 11) (by omega) (by omega) (by omega) (by omega), hp0_z (q := 49) (j := 13) (by omega) (by omega) (by omega) (by omega), hp0_z (q := 49) (j := 14) (by omega) (by omega) (by omega) (by omega), hp0_z (q := 49) (j := 16) (by omega) (by omega) (by omega) (by omega), hp0_z (q := 49) (j := 17) (by omega) (by omega) (by omega) (by omega), hp0_z (q := 49) (j := 18) (by omega) (by omega) (by omega) (by omega), hp0_z (q := 49) (j := 19) (by omega) (by omega) (by omega) (by omega), hp0_z (q := 49) (j := 20) (by omega) (by omega) (by omega) (by omega), hp0_z (q := 49) (j := 21) (by omega) (by omega) (by omega) (by omega)])
set_option maxRecDepth 100000 in
set_option maxHeartbeats 4000000 in
theorem st_eq (E : Ev) : oMimes E.2.2.2.1 E.2.2.2.2.1 (E.1 0) (fun k => E.1 (k + 1)) ++ oModel E.2.2.2.1 (E.1 49) (fun k => E.1 (k + 50)) = wsO E hp0 := by
  have e0 := ce_0 E
  have e1 := ce_1 E
  have e2 := ce_row (E := E) (k := 2) (n := 16) (by decide +kernel) (hp_z (by omega) (by omega) (by omega))
  have e3 := ce_row (E := E) (k := 3) (n := 16) (by decide +kernel) (hp_z (by omega) (by omega) (by omega))
  have e4 := ce_row (E := E) (k := 4) (n := 16) (by decide +kernel) (hp_z (by omega) (by omega) (by omega))
  have e5 := ce_row (E := E) (k := 5) (n := 96) (by decide +kernel) (hp_z (by omega) (by omega) (by omega))
  have e6 := ce_row (E := E) (k := 6) (n := 24) (by decide +kernel) (hp_z (by omega) (by omega) (by omega))
  have e7 := ce_row (E := E) (k := 7) (n := 2) (by decide +kernel) (hp_z (by omega) (by omega) (by omega))
  have e8 := ce_row (E := E) (k := 8) (n := 2) (by decide +kernel) (hp_z (by omega) (by omega) (by omega))
  have e9 := ce_row (E := E) (k := 9) (n := 10) (by decide +kernel) (hp_z (by omega) (by omega) (by omega))
  have e10 := ce_10 E
  have e11 := ce_11 E
  have e12 := ce_row (E := E) (k := 12) (n := 16) (by decide +kernel) (hp_z (by omega) (by omega) (by omega))
  have e13 := ce_row (E := E) (k := 13) (n := 16) (by decide +kernel) (hp_z (by omega) (by omega) (by omega))
  have e14 := ce_row (E := E) (k := 14) (n := 16) (by decide +kernel) (hp_z (by omega) (by omega) (by omega))
  have e15 := ce_row (E := E) (k := 15) (n := 96) (by decide +kernel) (hp_z (by omega) (by omega) (by omega))
  have e16 := ce_row (E := E) (k := 16) (n := 24) (by decide +kernel) (hp_z (by omega) (by omega) (by omega))
  have e17 := ce_row (E := E) (k := 17) (n := 2) (by decide +kernel) (hp_z (by omega) (by omega) (by omega))
  have e18 := ce_row (E := E) (k := 18) (n := 2) (by decide +kernel) (hp_z (by omega) (by omega) (by omega))
  have e19 := ce_row (E := E) (k := 19) (n := 10) (by decide +kernel) (hp_z (by omega) (by omega) (by omega))
  have e20 := ce_20 E
  have e21 := ce_21 E
  have e22 := ce_row (E := E) (k := 22) (n := 16) (by decide +kernel) (hp_z (by omega) (by omega) (by omega))
  have e23 := ce_row (E := E) (k := 23) (n := 16) (by decide +kernel) (hp_z (by omega) (by omega) (by omega))
  have e24 := ce_row (E := E) (k := 24) (n := 16) (by decide +kernel) (hp_z (by omega) (by omega) (by omega))
  have e25 := ce_row (E := E) (k := 25) (n := 96) (by decide +kernel) (hp_z (by omega) (by omega) (by omega))
  have e26 := ce_row (E := E) (k := 26) (n := 24) (by decide +kernel) (hp_z (by omega) (by omega) (by omega))
  have e27 := ce_row (E := E) (k := 27) (n := 2) (by decide +kernel) (hp_z (by omega) (by omega) (by omega))
  have e28 := ce_row (E := E) (k := 28) (n := 2) (by decide +kernel) (hp_z (by omega) (by omega) (by omega))
  have e29 := ce_row (E := E) (k := 29) (n := 10) (by decide +kernel) (hp_z (by omega) (by omega) (by omega))
  have e30 := ce_30 E
  have e31 := ce_31 E
  have e32 := ce_row (E := E) (k := 32) (n := 672) (by decide +kernel) (hp_z (by omega) (by omega) (by omega))
  have e33 := ce_row (E := E) (k := 33) (n := 24) (by decide +kernel) (hp_z (by omega) (by omega) (by omega))
  have e34 := ce_row (E := E) (k := 34) (n := 97) (by decide +kernel) (hp_z (by omega) (by omega) (by omega))
  have e35 := ce_35 E
  have e36 := ce_36 E
  have e37 := ce_row (E := E) (k := 37) (n := 120) (by decide +kernel) (hp_z (by omega) (by omega) (by omega))
  have e38 := ce_38 E
  have e39 := ce_row (E := E) (k := 39) (n := 7) (by decide +kernel) (hp_z (by omega) (by omega) (by omega))
  have e40 := ce_row (E := E) (k := 40) (n := 24) (by decide +kernel) (hp_z (by omega) (by omega) (by omega))
  have e41 := ce_41 E
  have e42 := ce_row (E := E) (k := 42) (n := 40) (by decide +kernel) (hp_z (by omega) (by omega) (by omega))
  have e43 := ce_43 E
  have e44 := ce_row (E := E) (k := 44) (n := 40) (by decide +kernel) (hp_z (by omega) (by omega) (by omega))
  have e45 := ce_45 E
  have e46 := ce_row (E := E) (k := 46) (n := 40) (by decide +kernel) (hp_z (by omega) (by omega) (by omega))
  have e47 := ce_47 E
  have e48 := ce_row (E := E) (k := 48) (n := 40) (by decide +kernel) (hp_z (by omega) (by omega) (by omega))
  have e49 := ce_49 E
  have e50 := ce_row (E := E) (k := 50) (n := 212) (by decide +kernel) (hp_50)
  have e51 := ce_row (E := E) (k := 51) (n := 212) (by decide +kernel) (hp_z (by omega) (by omega) (by omega))
  have e52 := ce_row (E := E) (k := 52) (n := 212) (by decide +kernel) (hp_z (by omega) (by omega) (by omega))
  have e53 := ce_row (E := E) (k := 53) (n := 7) (by decide +kernel) (hp_z (by omega) (by omega) (by omega))
  have e54 := ce_row (E := E) (k := 54) (n := 672) (by decide +kernel) (hp_z (by omega) (by omega) (by omega))
  have e55 := ce_row (E := E) (k := 55) (n := 24) (by decide +kernel) (hp_z (by omega) (by omega) (by omega))
  have e56 := ce_row (E := E) (k := 56) (n := 24) (by decide +kernel) (hp_z (by omega) (by omega) (by omega))
  have e57 := ce_row (E := E) (k := 57) (n := 120) (by decide +kernel) (hp_z (by omega) (by omega) (by omega))
  have e58 := ce_row (E := E) (k := 58) (n := 4) (by decide +kernel) (hp_z (by omega) (by omega) (by omega))
  have e59 := ce_row (E := E) (k := 59) (n := 4) (by decide +kernel) (hp_z (by omega) (by omega) (by omega))
  have e60 := ce_row (E := E) (k := 60) (n := 160) (by decide +kernel) (hp_z (by omega) (by omega) (by omega))
  have er : List.range 61 = [0, 1, 2, 3, 4, 5, 6, 7, 8, 9, 10, 11, 12, 13, 14, 15, 16, 17, 18, 19, 20, 21, 22, 23, 24, 25, 26, 27, 28, 29, 30, 31, 32, 33, 34, 35, 36, 37, 38, 39, 40, 41, 42, 43, 44, 45, 46, 47, 48, 49, 50, 51, 52, 53, 54, 55, 56, 57, 58, 59, 60] := by decide
  unfold wsO
  rw [er]
  simp only [List.map_cons, List.map_nil, e0, e1, e2, e3, e4, e5, e6, e7, e8, e9, e10, e11, e12, e13, e14, e15, e16, e17, e18, e19, e20, e21, e22, e23, e24, e25, e26, e27, e28, e29, e30, e31, e32, e33, e34, e35, e36, e37, e38, e39, e40, e41, e42, e43, e44, e45, e46, e47, e48, e49, e50, e51, e52, e53, e54, e55, e56, e57, e58, e59, e60]
  rfl
theorem ad_ex (q0 q1 b : Nat) (a0 a1 sp : Nat → Nat) : ∃ ad : Nat → Nat, ad 0 = q0 ∧ (∀ k, k < 48 → a0 k = ad (k + 1)) ∧ ad 49 = q1 ∧ (∀ k, k < 11 → a1 k = ad (k + 50)) ∧ ad 101 = b ∧ ad 100 = sp 100 ∧ (∀ i, i < 10 → ad (110 + i) = sp (110 + i)) ∧ (∀ i, i < 10 → ad (130 + i) = sp (130 + i)) := by
  refine ⟨fun k => if k = 0 then q0 else if k < 49 then a0 (k - 1) else if k = 49 then q1 else if k < 61 then a1 (k - 50) else if k = 101 then b else sp k, if_pos rfl, fun k hk => ?_, ?_, fun k hk => ?_, ?_, ?_, fun i hi => ?_, fun i hi => ?_⟩
  · show a0 k = if k + 1 = 0 then q0 else if k + 1 < 49 then a0 (k + 1 - 1) else if k + 1 = 49 then q1 else if k + 1 < 61 then a1 (k + 1 - 50) else if k + 1 = 101 then b else sp (k + 1)
    rw [if_neg (by omega), if_pos (by omega), Nat.add_sub_cancel]
  · show (if 49 = 0 then q0 else if 49 < 49 then a0 (49 - 1) else if 49 = 49 then q1 else if 49 < 61 then a1 (49 - 50) else if 49 = 101 then b else sp 49) = q1
    rw [if_neg (by omega), if_neg (by omega), if_pos rfl]
  · show a1 k = if k + 50 = 0 then q0 else if k + 50 < 49 then a0 (k + 50 - 1) else if k + 50 = 49 then q1 else if k + 50 < 61 then a1 (k + 50 - 50) else if k + 50 = 101 then b else sp (k + 50)
    rw [if_neg (by omega), if_neg (by omega), if_neg (by omega), if_pos (by omega), Nat.add_sub_cancel]
  · show (if 101 = 0 then q0 else if 101 < 49 then a0 (101 - 1) else if 101 = 49 then q1 else if 101 < 61 then a1 (101 - 50) else if 101 = 101 then b else sp 101) = b
    rw [if_neg (by omega), if_neg (by omega), if_neg (by omega), if_neg (by omega), if_pos rfl]
  · show (if 100 = 0 then q0 else if 100 < 49 then a0 (100 - 1) else if 100 = 49 then q1 else if 100 < 61 then a1 (100 - 50) else if 100 = 101 then b else sp 100) = sp 100
    rw [if_neg (by omega), if_neg (by omega), if_neg (by omega), if_neg (by omega), if_neg (by omega)]
  · show (if 110 + i = 0 then q0 else if 110 + i < 49 then a0 (110 + i - 1) else if 110 + i = 49 then q1 else if 110 + i < 61 then a1 (110 + i - 50) else if 110 + i = 101 then b else sp (110 + i)) = sp (110 + i)
    rw [if_neg (by omega), if_neg (by omega), if_neg (by omega), if_neg (by omega), if_neg (by omega)]
  · show (if 130 + i = 0 then q0 else if 130 + i < 49 then a0 (130 + i - 1) else if 130 + i = 49 then q1 else if 130 + i < 61 then a1 (130 + i - 50) else if 130 + i = 101 then b else sp (130 + i)) = sp (130 + i)
    rw [if_neg (by omega), if_neg (by omega), if_neg (by omega), if_neg (by omega), if_neg (by omega)]
set_option maxHeartbeats 4000000 in
set_option maxRecDepth 100000 in
theorem whole_start {p : Program} {e : Env} {s : State} {m : MethodId} {below : List Frame} {meth : Method} {c : Code} (l : Launch) (hflags : l.flags = flags0) {b L : Nat} {xs : Nat → Int32} (hL : L ≤ 3072) (C0 : lw_At p s m meth c b L xs) : W p l e room_1 s m #[Value.ref b] below meth c s.heap [] 0 0 (lw_Z below #[Value.ref b] s) (entryFrame m ([Value.ref b] : List Value).toArray 4) := by
  obtain ⟨hx, hb0, hr, hml, hown, hts, hX, hbl, hlocks, hgv⟩ := id C0
  have hb : c.code = mL_law.2.1 := hb0
  obtain ⟨D, cI, cS, hK⟩ := st_K hts
  obtain ⟨sp, hsp⟩ := st_RO hts hgv
  have htG : ∀ w ∈ tblG, w.before #[Value.ref b] s = true := fun w hw => hts w (List.mem_filter.mp hw).1
  have Y : CY mL_law p s m #[Value.ref b] meth c D (A_ge s) [(cI, .int), (cS, .object "TitleMimes$Sheet")] := ⟨hx, hb, hown, htG, hK, fun q h => h, fun h => absurd h (by decide +kernel), st_NX hts⟩
  have hP : va_P D vwCl [] s.heap := fun k q h => by simp at h
  have hD : va_D (A_ge s) [] := ⟨fun i j p q h => by simp at h, fun k q h => by simp at h⟩
  have hS : va_S (A_ge s) s.heap s.heap [] := va_S.rf
  have hl := lv_entry ([.ref b]) (n := 4) (Nat.le_of_ble_eq_true rfl)
  rw [lg_entry_eq]
  generalize (lg_sl ([.ref b]) ++ List.replicate (4 - (lg_sl ([.ref b])).length) Slot.unset).toArray = ls at hl ⊢
  have hl : lv_has ls 4 [(0, .ref b)] := hl
  refine cw_new Y (ci := 5) (N := 10) (C := RX5) (T := TX5) (fs := [.null, .null, .null, .null, .null, .null, .null, .null, .null, .int 0]) dL_law_0 (by decide +kernel) (by decide +kernel) (by decide +kernel) inC5 tyX5 tyX5_ok rfl (fun j hj => by rcases (show j = 0 ∨ j = 1 ∨ j = 2 ∨ j = 3 ∨ j = 4 ∨ j = 5 ∨ j = 6 ∨ j = 7 ∨ j = 8 ∨ j = 9 by omega) with rfl | rfl | rfl | rfl | rfl | rfl | rfl | rfl | rfl | rfl <;> rfl) (Nat.le_of_ble_eq_true rfl) (Nat.le_of_ble_eq_true rfl) (fun q0 H locs hP hD hS => ?_) _ _ hP hD hS
  have hP : va_P D vwCl [(q0, .inr (5, [.null, .null, .null, .null, .null, .null, .null, .null, .null, .int 0]))] H := hP
  have hD : va_D (A_ge s) [(q0, .inr (5, [.null, .null, .null, .null, .null, .null, .null, .null, .null, .int 0]))] := hD
  refine lv_dup hx hb dL_law_3 rfl ?_
  refine cw_call (wr := []) Y hml hl.1 K_X5_init dL_law_4 cbX5_init (by decide +kernel) (by decide +kernel) (by decide +kernel) rfl rfl (Nat.le_of_ble_eq_true rfl) (Nat.le_of_ble_eq_true rfl) (Nat.le_of_ble_eq_true rfl) (Nat.le_of_ble_eq_true rfl) (Nat.le_of_ble_eq_true rfl) (fun a0 H locs hP hD hS => ?_) _ _ hP hD hS
  have hP : va_P D vwCl (oMimes cI cS q0 a0) H := hP
  have hD : va_D (A_ge s) (oMimes cI cS q0 a0) := hD
  refine lv_astore_n hx hb dL_law_7 rfl hl (by decide) rfl (fun ls hl => ?_)
  have hl : lv_has ls 4 [(1, .ref q0), (0, .ref b)] := hl
  refine cw_new Y (ci := 6) (N := 25) (C := RX6) (T := TX6) (fs := [.null, .null, .null, .int 0, .null, .null, .null, .int 0, .int 0, .int 0, .int 0, .int 0, .null, .int 0, .int 0, .null, .int 0, .int 0, .int 0, .int 0, .int 0, .int 0, .null, .null, .null]) dL_law_8 (by decide +kernel) (by decide +kernel) (by decide +kernel) inC6 tyX6 tyX6_ok rfl (fun j hj => by rcases (show j = 0 ∨ j = 1 ∨ j = 2 ∨ j = 3 ∨ j = 4 ∨ j = 5 ∨ j = 6 ∨ j = 7 ∨ j = 8 ∨ j = 9 ∨ j = 10 ∨ j = 11 ∨ j = 12 ∨ j = 13 ∨ j = 14 ∨ j = 15 ∨ j = 16 ∨ j = 17 ∨ j = 18 ∨ j = 19 ∨ j = 20 ∨ j = 21 ∨ j = 22 ∨ j = 23 ∨ j = 24 by omega) with rfl | rfl | rfl | rfl | rfl | rfl | rfl | rfl | rfl | rfl | rfl | rfl | rfl | rfl | rfl | rfl | rfl | rfl | rfl | rfl | rfl | rfl | rfl | rfl | rfl <;> rfl) (Nat.le_of_ble_eq_true rfl) (Nat.le_of_ble_eq_true rfl) (fun q1 H locs hP hD hS => ?_) _ _ hP hD hS
  refine lv_dup hx hb dL_law_11 rfl ?_
  refine cw_call (wr := oMimes cI cS q0 a0) Y hml hl.1 K_X6_init dL_law_12 cbX6_init (by decide +kernel) (by decide +kernel) (by decide +kernel) rfl rfl (Nat.le_of_ble_eq_true rfl) (Nat.le_of_ble_eq_true rfl) (Nat.le_of_ble_eq_true rfl) (Nat.le_of_ble_eq_true rfl) (Nat.le_of_ble_eq_true rfl) (fun a1 H locs hP hD hS => ?_) _ _ hP hD hS
  have hP : va_P D vwCl (oMimes cI cS q0 a0 ++ oModel cI q1 a1) H := hP
  have hD : va_D (A_ge s) (oMimes cI cS q0 a0 ++ oModel cI q1 a1) := hD
  refine lv_astore_n hx hb dL_law_15 rfl hl (by decide) rfl (fun ls hl => ?_)
  have hl : lv_has ls 4 [(2, .ref q1), (1, .ref q0), (0, .ref b)] := hl
  refine va_forget (fun q hq => hS.2.2 q hq) ?_
  obtain ⟨ad, g1, g2, g3, g4, g5, g6, g7, g8⟩ := ad_ex q0 q1 b a0 a1 sp
  have heq : oMimes cI cS q0 a0 ++ oModel cI q1 a1 = wsO ((ad, D.1, D.2, cI, cS, fun _ => 0) : Ev) hp0 := by
    rw [← st_eq, oMimes_cg (ad' := fun k => ad (k + 1)) g2, oModel_cg (ad' := fun k => ad (k + 50)) g4, ← g1, ← g3]
    try rfl
  rw [heq] at hP hD
  have hfr : ∀ k, k < 61 → s.heap.size ≤ ad k := fun k hk => hD.2 k _ (wsO_at (E := (ad, D.1, D.2, cI, cS, fun _ => 0)) (σ := hp0) hk)
  have hD' : va_D (AE (ad, D.1, D.2, cI, cS, fun _ => 0)) (wsO ((ad, D.1, D.2, cI, cS, fun _ => 0) : Ev) hp0) := ⟨hD.1, fun k q hq => by
    have hk : k < 61 := by
      have := (List.getElem?_eq_some_iff.mp hq).1
      simp [wsO] at this
      exact this
    rw [wsO_at hk] at hq
    cases hq
    exact ⟨k, hk, rfl⟩⟩
  have hS' : va_S (AE (ad, D.1, D.2, cI, cS, fun _ => 0)) s.heap H [] := ⟨hS.1, fun q h1 _ => hS.2.1 q h1 (A_geN q h1), fun l h => absurd h List.not_mem_nil⟩
  have hRO : RO (ad, D.1, D.2, cI, cS, fun _ => 0) s s.heap := hsp _ (fun q hq => by
    obtain ⟨k, hk, e1⟩ := hq
    rw [e1]
    exact hfr k hk) g6 g7 g8
  have hl' : lv_has ls 4 [(0, .ref (ad 101)), (1, .ref (ad 0)), (2, .ref (ad 49))] := by
    rw [g5, g1, g3]
    exact lv_sub hl [2, 1, 0] rfl
  exact law_run hL C0 (ad, D.1, D.2, cI, cS, fun _ => 0) g5 hfr hK hRO (Nat.le_of_ble_eq_true rfl) (Nat.le_of_ble_eq_true rfl) hP hD' hS' hl'
