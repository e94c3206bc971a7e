/-! changes of the stock: what they are, and that the class's stock holds them -/
def addW (c : CO) (x y z : Nat) : CO := (cw c + 1, ct c, (fun w f => if w = cw c then (if f = 0 then x else if f = 1 then y else z) else cf c w f), cz c, cr c)
def chgW (c : CO) (w0 f0 v : Nat) : CO := (cw c, ct c, (fun w f => if w = w0 ∧ f = f0 then v else cf c w f), cz c, cr c)
def addT (c : CO) (w : Nat) : CO := (cw c, ct c + 1, cf c, (fun t => if t = ct c then 1 else cz c t), (fun t i => if t = ct c then w else cr c t i))
def morT (c : CO) (t0 w : Nat) : CO := (cw c, ct c, cf c, (fun t => if t = t0 then cz c t + 1 else cz c t), (fun t i => if t = t0 ∧ i = cz c t0 then w else cr c t i))
section CoLemmas
variable {c : CO} {x y z w t f v : Nat}
theorem cw_addW : cw (addW c x y z) = cw c + 1 := rfl
theorem ct_addW : ct (addW c x y z) = ct c := rfl
theorem cz_addW : cz (addW c x y z) = cz c := rfl
theorem cr_addW : cr (addW c x y z) = cr c := rfl
theorem cf_addW0 : cf (addW c x y z) (cw c) 0 = x := by simp [cf, addW]
theorem cf_addW1 : cf (addW c x y z) (cw c) 1 = y := by simp [cf, addW]
theorem cf_addW2 : cf (addW c x y z) (cw c) 2 = z := by simp [cf, addW]
theorem cf_addWo (h : w ≠ cw c) : cf (addW c x y z) w f = cf c w f := by simp [cf, addW, h]
theorem cw_chgW : cw (chgW c w f v) = cw c := rfl
theorem ct_chgW : ct (chgW c w f v) = ct c := rfl
theorem cz_chgW : cz (chgW c w f v) = cz c := rfl
theorem cr_chgW : cr (chgW c w f v) = cr c := rfl
theorem cf_chgWs : cf (chgW c w f v) w f = v := by simp [cf, chgW]
theorem cf_chgWo {w' f' : Nat} (h : ¬ (w' = w ∧ f' = f)) : cf (chgW c w f v) w' f' = cf c w' f' := if_neg h
theorem cw_addT : cw (addT c w) = cw c := rfl
theorem ct_addT : ct (addT c w) = ct c + 1 := rfl
theorem cf_addT : cf (addT c w) = cf c := rfl
theorem cz_addTs : cz (addT c w) (ct c) = 1 := by simp [cz, addT]
theorem cz_addTo {t : Nat} (h : t ≠ ct c) : cz (addT c w) t = cz c t := by simp [cz, addT, h]
theorem cr_addTs {i : Nat} : cr (addT c w) (ct c) i = w := by simp [cr, addT]
theorem cr_addTo {t i : Nat} (h : t ≠ ct c) : cr (addT c w) t i = cr c t i := by simp [cr, addT, h]
theorem cw_morT : cw (morT c t w) = cw c := rfl
theorem ct_morT : ct (morT c t w) = ct c := rfl
theorem cf_morT : cf (morT c t w) = cf c := rfl
theorem cz_morTs : cz (morT c t w) t = cz c t + 1 := by simp [cz, morT]
theorem cz_morTo {u : Nat} (h : u ≠ t) : cz (morT c t w) u = cz c u := by simp [cz, morT, h]
theorem cr_morTs : cr (morT c t w) t (cz c t) = w := by simp [cr, morT]
theorem cr_morTo {u i : Nat} (h : ¬ (u = t ∧ i = cz c t)) : cr (morT c t w) u i = cr c u i := if_neg h
theorem wf_addW (h : WFc c) (h1 : cw c < 16) (hx : 1 ≤ x ∧ x ≤ 6) (hy : y ≤ 9) (hz : z ≤ 9) : WFc (addW c x y z) := by
  obtain ⟨a1, a2, a3, a4⟩ := h
  refine ⟨by rw [cw_addW]; omega, a2, fun w hw => ?_, fun t ht => ⟨(a4 t ht).1, (a4 t ht).2.1, fun i hi => Nat.lt_succ_of_lt ((a4 t ht).2.2 i hi)⟩⟩
  rw [cw_addW] at hw
  by_cases e : w = cw c
  · subst e
    rw [cf_addW0, cf_addW1, cf_addW2]
    omega
  · rw [cf_addWo e, cf_addWo e, cf_addWo e]
    exact a3 w (by omega)
theorem wf_chgW (h : WFc c) (hv : (f = 0 ∧ 1 ≤ v ∧ v ≤ 6) ∨ ((f = 1 ∨ f = 2) ∧ v ≤ 9)) : WFc (chgW c w f v) := by
  obtain ⟨a1, a2, a3, a4⟩ := h
  refine ⟨a1, a2, fun u hu => ?_, a4⟩
  have h0 := a3 u hu
  have g : ∀ i, cf (chgW c w f v) u i = (if u = w ∧ i = f then v else cf c u i) := fun i => rfl
  rw [g, g, g]
  by_cases e : u = w
  · rcases hv with ⟨rfl, h1, h2⟩ | ⟨rfl | rfl, h1⟩
    · simp [e]; rw [e] at h0; omega
    · simp [e]; rw [e] at h0; omega
    · simp [e]; rw [e] at h0; omega
  · simp only [e, false_and, if_false]; exact h0
theorem wf_addT (h : WFc c) (h1 : ct c < 24) (hw : w < cw c) : WFc (addT c w) := by
  obtain ⟨a1, a2, a3, a4⟩ := h
  refine ⟨a1, by rw [ct_addT]; omega, a3, fun t ht => ?_⟩
  rw [ct_addT] at ht
  by_cases e : t = ct c
  · subst e
    rw [cz_addTs]
    exact ⟨by decide, by decide, fun i hi => by rw [cr_addTs]; exact hw⟩
  · rw [cz_addTo e]
    have h0 := a4 t (by omega)
    exact ⟨h0.1, h0.2.1, fun i hi => by rw [cr_addTo e]; exact h0.2.2 i hi⟩
theorem wf_morT (h : WFc c) (ht : t < ct c) (hz : cz c t < 4) (hw : w < cw c) : WFc (morT c t w) := by
  obtain ⟨a1, a2, a3, a4⟩ := h
  refine ⟨a1, a2, a3, fun u hu => ?_⟩
  have h0 := a4 u hu
  by_cases e : u = t
  · subst e
    rw [cz_morTs]
    refine ⟨by omega, by omega, fun i hi => ?_⟩
    by_cases e2 : i = cz c u
    · subst e2; rw [cr_morTs]; exact hw
    · rw [cr_morTo (fun q => e2 q.2)]; exact h0.2.2 i (by omega)
  · rw [cz_morTo e]
    exact ⟨h0.1, h0.2.1, fun i hi => by rw [cr_morTo (fun q => e q.1)]; exact h0.2.2 i hi⟩
end CoLemmas
theorem co_addW_1 {c : CO} {σ : Hp} {x y z : Nat} (h : CoCg 1 2 3 4 5 6 c σ) : CoCg 1 2 3 4 5 6 (addW c x y z) (up2 (up2 (up2 (up2 σ 2 (cw c) (nI x)) 3 (cw c) (nI y)) 4 (cw c) (nI z)) 1 3 (nI (cw c + 1))) := by
  obtain ⟨h1, h2, h3, h4, h5, h6, h7⟩ := h
  refine ⟨by simp [up2, cw_addW], by simp [up2, ct_addW, h2], fun w hw => ?_, fun w hw => ?_, fun w hw => ?_, fun t ht => ?_, fun t ht i hi => ?_⟩
  · rw [cw_addW] at hw
    by_cases e : w = cw c
    · subst e; rw [cf_addW0]; simp [up2]
    · rw [cf_addWo e, ← h3 w (by omega)]; simp [up2, e]
  · rw [cw_addW] at hw
    by_cases e : w = cw c
    · subst e; rw [cf_addW1]; simp [up2]
    · rw [cf_addWo e, ← h4 w (by omega)]; simp [up2, e]
  · rw [cw_addW] at hw
    by_cases e : w = cw c
    · subst e; rw [cf_addW2]; simp [up2]
    · rw [cf_addWo e, ← h5 w (by omega)]; simp [up2, e]
  · rw [cz_addW, ← h6 t ht]; simp [up2]
  · rw [cr_addW, ← h7 t ht i hi]; simp [up2]
theorem co_addT_1 {c : CO} {σ : Hp} {w : Nat} {u v : Int32} (h : CoCg 1 2 3 4 5 6 c σ) (hz : ∀ t, t < ct c → cz c t ≤ 4) : CoCg 1 2 3 4 5 6 (addT c w) (up2 (up2 (up2 (up2 (up2 (up2 σ 1 6 (nI (ct c + 1))) 6 (ct c) (nI 0)) 5 (4 * ct c + 0) (nI w)) 6 (ct c) (nI (0 + 1))) 7 0 u) 7 1 v) := by
  obtain ⟨h1, h2, h3, h4, h5, h6, h7⟩ := h
  refine ⟨by simp [up2, cw_addT, h1], by simp [up2, ct_addT], fun w hw => ?_, fun w hw => ?_, fun w hw => ?_, fun t ht => ?_, fun t ht i hi => ?_⟩
  · rw [cf_addT, ← h3 w hw]; simp [up2]
  · rw [cf_addT, ← h4 w hw]; simp [up2]
  · rw [cf_addT, ← h5 w hw]; simp [up2]
  · rw [ct_addT] at ht
    by_cases e : t = ct c
    · subst e; rw [cz_addTs]; simp [up2]
    · rw [cz_addTo e, ← h6 t (by omega)]; simp [up2, e]
  · rw [ct_addT] at ht
    by_cases e : t = ct c
    · subst e
      rw [cz_addTs] at hi
      have e0 : i = 0 := by omega
      subst e0
      rw [cr_addTs]; simp [up2]
    · rw [cz_addTo e] at hi
      have hz4 := hz t (by omega)
      rw [cr_addTo e, ← h7 t (by omega) i hi]
      have e2 : ¬ (4 * t + i = 4 * ct c) := by omega
      simp [up2, e2]
theorem co_morT_1 {c : CO} {σ : Hp} {t w : Nat} (h : CoCg 1 2 3 4 5 6 c σ) (hz : ∀ t, t < ct c → cz c t ≤ 4) (ht : t < ct c) (hz4 : cz c t < 4) : CoCg 1 2 3 4 5 6 (morT c t w) (up2 (up2 σ 5 (4 * t + cz c t) (nI w)) 6 t (nI (cz c t + 1))) := by
  obtain ⟨h1, h2, h3, h4, h5, h6, h7⟩ := h
  refine ⟨by simp [up2, cw_morT, h1], by simp [up2, ct_morT, h2], fun w hw => ?_, fun w hw => ?_, fun w hw => ?_, fun u hu => ?_, fun u hu i hi => ?_⟩
  · rw [cf_morT, ← h3 w hw]; simp [up2]
  · rw [cf_morT, ← h4 w hw]; simp [up2]
  · rw [cf_morT, ← h5 w hw]; simp [up2]
  · rw [ct_morT] at hu
    by_cases e : u = t
    · subst e; rw [cz_morTs]; simp [up2]
    · rw [cz_morTo e, ← h6 u hu]; simp [up2, e]
  · rw [ct_morT] at hu
    by_cases e : u = t ∧ i = cz c t
    · obtain ⟨rfl, rfl⟩ := e
      rw [cr_morTs]; simp [up2]
    · rw [cr_morTo e]
      have hi2 : i < cz c u := by
        by_cases q : u = t
        · subst q; rw [cz_morTs] at hi; omega
        · rw [cz_morTo q] at hi; exact hi
      have hzu := hz u hu
      rw [← h7 u hu i hi2]
      have e2 : ¬ (4 * u + i = 4 * t + cz c t) := by omega
      simp [up2, e2]
theorem G_X3_addTitle_1 {σ : Hp} {w nt F0 F1 : Nat} (h6 : σ 1 6 = nI nt) (hn : nt < 24) (hk0 : σ 7 0 = nI F0) (hk1 : σ 7 1 = nI F1) : GoodF 2 mX3_addTitle [.ref 1, .int (nI w)] σ (some (.int (nI nt))) (up2 (up2 (up2 (up2 (up2 (up2 σ 1 6 (nI (nt + 1))) 6 nt (nI 0)) 5 (4 * nt + 0) (nI w)) 6 nt (nI (0 + 1))) 7 0 (nI (F0 ||| 2 ^ nt))) 7 1 (nI (F1 ||| 2 ^ nt))) := by
  refine GoodF.intro (by decide) (cat_ref (cat_int cat_nil)) (Nat.le_of_ble_eq_true rfl) (fun X hR => ?_)
  show SW 2 mX3_addTitle X 0 [some (.ref 1), some (.int (nI w)), none] [] _
  repeat' (first | with_reducible refine sX3_addTitle_0 ?_ | with_reducible refine sX3_addTitle_1 (by first | with_unfolding_all rfl | exact bI_nar) (by first | assumption | rfl) ?_ | with_reducible refine sX3_addTitle_4 ?_ | with_reducible refine sX3_addTitle_5 ?_ | with_reducible refine sX3_addTitle_6 (by first | with_unfolding_all rfl | exact bI_nar) ?_ | with_reducible refine sX3_addTitle_7 (by first | with_unfolding_all rfl | exact bI_nar) (by first | assumption | rfl) ?_ | with_reducible refine sX3_addTitle_10 ?_ | with_reducible refine sX3_addTitle_11n ?_ | with_reducible refine sX3_addTitle_11 ?_ | with_reducible refine sX3_addTitle_12 (by first | with_unfolding_all rfl | exact bI_nar) ?_ | with_reducible refine sX3_addTitle_15 ?_ | with_reducible refine sX3_addTitle_16 (q := 1) (p := 6) (by first | with_unfolding_all rfl | exact bI_nar) ?_ | with_reducible refine sX3_addTitle_16 (q := 11) (p := 16) (by first | with_unfolding_all rfl | exact bI_nar) ?_ | with_reducible refine sX3_addTitle_16 (q := 21) (p := 26) (by first | with_unfolding_all rfl | exact bI_nar) ?_ | with_reducible refine sX3_addTitle_19 ?_ | with_reducible refine sX3_addTitle_20 ?_ | with_reducible refine sX3_addTitle_21n (by first | with_unfolding_all rfl | exact bI_nar) (by first | omega | decide) ?_ | with_reducible refine sX3_addTitle_22 ?_ | with_reducible refine sX3_addTitle_23 ?_ | with_reducible refine sX3_addTitle_24 ?_ | with_reducible refine sX3_addTitle_25 (by first | with_unfolding_all rfl | exact bI_nar) (by exact G_X3_lengthen_1 up2_eq (by decide) hn) (by decide) (by with_unfolding_all exact Nat.le_of_ble_eq_true rfl) ?_ | with_reducible refine sX3_addTitle_28 (by first | with_unfolding_all rfl | exact bI_nar) ?_ | with_reducible refine sX3_addTitle_29 ?_ | with_reducible refine sX3_addTitle_30 ?_ | with_reducible refine sX3_addTitle_31 ?_ | with_reducible refine sX3_addTitle_32 ?_ | with_reducible refine sX3_addTitle_33 (by first | with_unfolding_all rfl | exact bI_nar) (by first | exact G_X3_setKnownT_1 (b := 0) (F := F0) (by simp [up2]; exact hk0) (by decide) hn | exact G_X3_setKnownT_1 (b := 1) (F := F1) (by simp [up2]; exact hk1) (by decide) hn) (by decide) (by with_unfolding_all exact Nat.le_of_ble_eq_true rfl) ?_ | with_reducible refine sX3_addTitle_36 ?_ | with_reducible refine sX3_addTitle_37 ?_ | with_reducible refine sX3_addTitle_38 ?_ | with_reducible refine sX3_addTitle_39 ?_ | with_reducible refine sX3_addTitle_40 (by first | with_unfolding_all rfl | exact bI_nar) (by first | exact G_X3_setKnownT_1 (b := 0) (F := F0) (by simp [up2]; exact hk0) (by decide) hn | exact G_X3_setKnownT_1 (b := 1) (F := F1) (by simp [up2]; exact hk1) (by decide) hn) (by decide) (by with_unfolding_all exact Nat.le_of_ble_eq_true rfl) ?_ | with_reducible refine sX3_addTitle_43 ?_ | with_reducible refine sX3_addTitle_44 ?_)
  exact hR
theorem co_addW_21 {c : CO} {σ : Hp} {x y z : Nat} (h : CoCg 21 22 23 24 25 26 c σ) : CoCg 21 22 23 24 25 26 (addW c x y z) (up2 (up2 (up2 (up2 σ 22 (cw c) (nI x)) 23 (cw c) (nI y)) 24 (cw c) (nI z)) 21 3 (nI (cw c + 1))) := by
  obtain ⟨h1, h2, h3, h4, h5, h6, h7⟩ := h
  refine ⟨by simp [up2, cw_addW], by simp [up2, ct_addW, h2], fun w hw => ?_, fun w hw => ?_, fun w hw => ?_, fun t ht => ?_, fun t ht i hi => ?_⟩
  · rw [cw_addW] at hw
    by_cases e : w = cw c
    · subst e; rw [cf_addW0]; simp [up2]
    · rw [cf_addWo e, ← h3 w (by omega)]; simp [up2, e]
  · rw [cw_addW] at hw
    by_cases e : w = cw c
    · subst e; rw [cf_addW1]; simp [up2]
    · rw [cf_addWo e, ← h4 w (by omega)]; simp [up2, e]
  · rw [cw_addW] at hw
    by_cases e : w = cw c
    · subst e; rw [cf_addW2]; simp [up2]
    · rw [cf_addWo e, ← h5 w (by omega)]; simp [up2, e]
  · rw [cz_addW, ← h6 t ht]; simp [up2]
  · rw [cr_addW, ← h7 t ht i hi]; simp [up2]
theorem co_addT_21 {c : CO} {σ : Hp} {w : Nat} {u v : Int32} (h : CoCg 21 22 23 24 25 26 c σ) (hz : ∀ t, t < ct c → cz c t ≤ 4) : CoCg 21 22 23 24 25 26 (addT c w) (up2 (up2 (up2 (up2 (up2 (up2 σ 21 6 (nI (ct c + 1))) 26 (ct c) (nI 0)) 25 (4 * ct c + 0) (nI w)) 26 (ct c) (nI (0 + 1))) 27 0 u) 27 1 v) := by
  obtain ⟨h1, h2, h3, h4, h5, h6, h7⟩ := h
  refine ⟨by simp [up2, cw_addT, h1], by simp [up2, ct_addT], fun w hw => ?_, fun w hw => ?_, fun w hw => ?_, fun t ht => ?_, fun t ht i hi => ?_⟩
  · rw [cf_addT, ← h3 w hw]; simp [up2]
  · rw [cf_addT, ← h4 w hw]; simp [up2]
  · rw [cf_addT, ← h5 w hw]; simp [up2]
  · rw [ct_addT] at ht
    by_cases e : t = ct c
    · subst e; rw [cz_addTs]; simp [up2]
    · rw [cz_addTo e, ← h6 t (by omega)]; simp [up2, e]
  · rw [ct_addT] at ht
    by_cases e : t = ct c
    · subst e
      rw [cz_addTs] at hi
      have e0 : i = 0 := by omega
      subst e0
      rw [cr_addTs]; simp [up2]
    · rw [cz_addTo e] at hi
      have hz4 := hz t (by omega)
      rw [cr_addTo e, ← h7 t (by omega) i hi]
      have e2 : ¬ (4 * t + i = 4 * ct c) := by omega
      simp [up2, e2]
theorem co_morT_21 {c : CO} {σ : Hp} {t w : Nat} (h : CoCg 21 22 23 24 25 26 c σ) (hz : ∀ t, t < ct c → cz c t ≤ 4) (ht : t < ct c) (hz4 : cz c t < 4) : CoCg 21 22 23 24 25 26 (morT c t w) (up2 (up2 σ 25 (4 * t + cz c t) (nI w)) 26 t (nI (cz c t + 1))) := by
  obtain ⟨h1, h2, h3, h4, h5, h6, h7⟩ := h
  refine ⟨by simp [up2, cw_morT, h1], by simp [up2, ct_morT, h2], fun w hw => ?_, fun w hw => ?_, fun w hw => ?_, fun u hu => ?_, fun u hu i hi => ?_⟩
  · rw [cf_morT, ← h3 w hw]; simp [up2]
  · rw [cf_morT, ← h4 w hw]; simp [up2]
  · rw [cf_morT, ← h5 w hw]; simp [up2]
  · rw [ct_morT] at hu
    by_cases e : u = t
    · subst e; rw [cz_morTs]; simp [up2]
    · rw [cz_morTo e, ← h6 u hu]; simp [up2, e]
  · rw [ct_morT] at hu
    by_cases e : u = t ∧ i = cz c t
    · obtain ⟨rfl, rfl⟩ := e
      rw [cr_morTs]; simp [up2]
    · rw [cr_morTo e]
      have hi2 : i < cz c u := by
        by_cases q : u = t
        · subst q; rw [cz_morTs] at hi; omega
        · rw [cz_morTo q] at hi; exact hi
      have hzu := hz u hu
      rw [← h7 u hu i hi2]
      have e2 : ¬ (4 * u + i = 4 * t + cz c t) := by omega
      simp [up2, e2]
theorem G_X3_addTitle_21 {σ : Hp} {w nt F0 F1 : Nat} (h6 : σ 21 6 = nI nt) (hn : nt < 24) (hk0 : σ 27 0 = nI F0) (hk1 : σ 27 1 = nI F1) : GoodF 2 mX3_addTitle [.ref 21, .int (nI w)] σ (some (.int (nI nt))) (up2 (up2 (up2 (up2 (up2 (up2 σ 21 6 (nI (nt + 1))) 26 nt (nI 0)) 25 (4 * nt + 0) (nI w)) 26 nt (nI (0 + 1))) 27 0 (nI (F0 ||| 2 ^ nt))) 27 1 (nI (F1 ||| 2 ^ nt))) := by
  refine GoodF.intro (by decide) (cat_ref (cat_int cat_nil)) (Nat.le_of_ble_eq_true rfl) (fun X hR => ?_)
  show SW 2 mX3_addTitle X 0 [some (.ref 21), some (.int (nI w)), none] [] _
  repeat' (first | with_reducible refine sX3_addTitle_0 ?_ | with_reducible refine sX3_addTitle_1 (by first | with_unfolding_all rfl | exact bI_nar) (by first | assumption | rfl) ?_ | with_reducible refine sX3_addTitle_4 ?_ | with_reducible refine sX3_addTitle_5 ?_ | with_reducible refine sX3_addTitle_6 (by first | with_unfolding_all rfl | exact bI_nar) ?_ | with_reducible refine sX3_addTitle_7 (by first | with_unfolding_all rfl | exact bI_nar) (by first | assumption | rfl) ?_ | with_reducible refine sX3_addTitle_10 ?_ | with_reducible refine sX3_addTitle_11n ?_ | with_reducible refine sX3_addTitle_11 ?_ | with_reducible refine sX3_addTitle_12 (by first | with_unfolding_all rfl | exact bI_nar) ?_ | with_reducible refine sX3_addTitle_15 ?_ | with_reducible refine sX3_addTitle_16 (q := 1) (p := 6) (by first | with_unfolding_all rfl | exact bI_nar) ?_ | with_reducible refine sX3_addTitle_16 (q := 11) (p := 16) (by first | with_unfolding_all rfl | exact bI_nar) ?_ | with_reducible refine sX3_addTitle_16 (q := 21) (p := 26) (by first | with_unfolding_all rfl | exact bI_nar) ?_ | with_reducible refine sX3_addTitle_19 ?_ | with_reducible refine sX3_addTitle_20 ?_ | with_reducible refine sX3_addTitle_21n (by first | with_unfolding_all rfl | exact bI_nar) (by first | omega | decide) ?_ | with_reducible refine sX3_addTitle_22 ?_ | with_reducible refine sX3_addTitle_23 ?_ | with_reducible refine sX3_addTitle_24 ?_ | with_reducible refine sX3_addTitle_25 (by first | with_unfolding_all rfl | exact bI_nar) (by exact G_X3_lengthen_21 up2_eq (by decide) hn) (by decide) (by with_unfolding_all exact Nat.le_of_ble_eq_true rfl) ?_ | with_reducible refine sX3_addTitle_28 (by first | with_unfolding_all rfl | exact bI_nar) ?_ | with_reducible refine sX3_addTitle_29 ?_ | with_reducible refine sX3_addTitle_30 ?_ | with_reducible refine sX3_addTitle_31 ?_ | with_reducible refine sX3_addTitle_32 ?_ | with_reducible refine sX3_addTitle_33 (by first | with_unfolding_all rfl | exact bI_nar) (by first | exact G_X3_setKnownT_21 (b := 0) (F := F0) (by simp [up2]; exact hk0) (by decide) hn | exact G_X3_setKnownT_21 (b := 1) (F := F1) (by simp [up2]; exact hk1) (by decide) hn) (by decide) (by with_unfolding_all exact Nat.le_of_ble_eq_true rfl) ?_ | with_reducible refine sX3_addTitle_36 ?_ | with_reducible refine sX3_addTitle_37 ?_ | with_reducible refine sX3_addTitle_38 ?_ | with_reducible refine sX3_addTitle_39 ?_ | with_reducible refine sX3_addTitle_40 (by first | with_unfolding_all rfl | exact bI_nar) (by first | exact G_X3_setKnownT_21 (b := 0) (F := F0) (by simp [up2]; exact hk0) (by decide) hn | exact G_X3_setKnownT_21 (b := 1) (F := F1) (by simp [up2]; exact hk1) (by decide) hn) (by decide) (by with_unfolding_all exact Nat.le_of_ble_eq_true rfl) ?_ | with_reducible refine sX3_addTitle_43 ?_ | with_reducible refine sX3_addTitle_44 ?_)
  exact hR
