/-! the law, from where both are made -/
theorem law_run {p : Program} {l : Launch} {e : Env} {s : State} {m : MethodId} {below : List Frame} {meth : Method} {c : Code} {b L : Nat} {xs : Nat → Int32} (hL : L ≤ 3072) (C0 : lw_At p s m meth c b L xs) (E : Ev) (h101 : E.1 101 = b) (hfr : ∀ k, k < 61 → s.heap.size ≤ E.1 k) (hK : va_K (DE E) vwCl (tyE E) s) (hRO : RO E s s.heap) {H : Heap} {locs : List Loc} {ls : Array Slot} {cells slots : Nat} (hc : cells ≤ 600000) (hs : slots ≤ 7302250) (hP : va_P (DE E) vwCl (wsO E hp0) H) (hD : va_D (AE E) (wsO E hp0)) (hS : va_S (AE E) s.heap H locs) (hl : lv_has ls 4 (kn E.1 0 [some (.ref 101), some (.ref 0), some (.ref 49), none])) : W p l e room_1 s m #[Value.ref b] below meth c H locs cells slots (lw_Z below #[Value.ref b] s) (F0 m 16 ls []) := by
  obtain ⟨hx, hb, hr, hml, hown, hts, hX, hbl, hlocks, hgv⟩ := id C0
  refine W.widen (k := 600000) (n := 7302250) hc hs ?_
  have hXS : XS L xs (p, l, e, room_1, s, m, #[Value.ref b], below, meth, c, 600000, 7302250, lw_Z below #[Value.ref b] s, E) := by
    refine ⟨by rw [h101]; exact hX, by rw [h101]; exact hbl, ?_⟩
    rintro ⟨k, hk, e1⟩
    have := hfr k hk
    rw [h101] at e1
    omega
  have hend : ∀ (ls : List (Option Value)) (σ : Hp), SW 11 mL_law (p, l, e, room_1, s, m, #[Value.ref b], below, meth, c, 600000, 7302250, lw_Z below #[Value.ref b] s, E) 1892 ls [] σ := by
    intro ls2 σ
    refine w_iconst 1 dL_law_1892 (by decide) ?_
    intro ok hc0 H2 locs2 L2 hP2 hD2 hS2 hL2
    refine va_forget (fun q hq => ?_) (lw_ret hx hb hr hlocks dL_law_1893)
    obtain ⟨k, hk, e1⟩ := hS2.2.2 q hq
    rw [e1]; exact hfr k hk
  have hSW : SW 11 mL_law (p, l, e, room_1, s, m, #[Value.ref b], below, meth, c, 600000, 7302250, lw_Z below #[Value.ref b] s, E) 16 [some (.ref 101), some (.ref 0), some (.ref 49), none] [] hp0 := by
    refine w_iconst (nI 0) dL_law_16 (by decide) ?_
    refine w_istore_n dL_law_17 (by decide) (by decide) ?_
    exact L_law hXS hL hend L 0 (by omega) (by omega) A0 hp0 wf_A0 comp0 mod0
  refine hSW ⟨hx, hb, hr, hml, hown, fun w hw => hts w (List.mem_filter.mp hw).1, hlocks, hK, hRO, Nat.le_of_ble_eq_true rfl, Nat.le_of_ble_eq_true rfl, Nat.le_of_ble_eq_true rfl, Nat.le_of_ble_eq_true rfl⟩ ?_ H locs ls hP hD hS hl
  intro w hw
  rcases List.mem_cons.mp hw with h | hw
  · cases h; rfl
  · rcases List.mem_cons.mp hw with h | hw
    · cases h; rfl
    · rcases List.mem_cons.mp hw with h | hw
      · cases h; rfl
      · rcases List.mem_cons.mp hw with h | hw
        · cases h
        · cases hw
