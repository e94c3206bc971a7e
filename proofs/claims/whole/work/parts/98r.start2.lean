/-! the start: what the tables and the Statement give of classes, arrays and constants -/
def tmS (i : Nat) : Term := Term.string (strOwn i) (strIdx i)
def L_g : List Cond := flatC (Jvm.Cond.and given_1 narrow_1)
def posS (i : Nat) : Nat := ([19, 48, 60, 27, 37, 72, 116, 133, 85, 100] : List Nat).getD i 0
def posR (i : Nat) : Nat := ([711, 779, 786, 772, 777, 1315, 1336, 1341, 1330, 1335] : List Nat).getD i 0
theorem lt_ {w : Cond} (i : Nat) (h : lw_tbl[i]? = some w) : w ∈ lw_tbl := List.mem_of_getElem? h
theorem st_w : ∀ i, i < 10 → (L_g[posS i]? = some (Cond.exactly (tmS i) "java/lang/String") ∧ L_g[posS i + 1]? = some (Cond.eq (.field (tmS i) "java/lang/String" "coder" "B") (.int 0)) ∧ L_g[posS i + 2]? = some (Cond.arrayOf (.field (tmS i) "java/lang/String" "value" "[B") .byte) ∧ L_g[posS i + 3]? = some (Cond.eq (.length (.field (tmS i) "java/lang/String" "value" "[B")) (.int (Int32.ofNat (strLen.getD (i % 5) 0)))) ∧ ∀ j, j < strLen.getD (i % 5) 0 → L_g[posS i + 4 + j]? = some (Cond.eq (.elem (.field (tmS i) "java/lang/String" "value" "[B") (.int (Int32.ofNat j))) (.int ((strByt.getD (i % 5) []).getD j 0)))) := by decide +kernel
theorem st_len : ∀ i, i < 10 → strLen.getD (i % 5) 0 < 2 ^ 31 := by decide +kernel
theorem st_r : ∀ i, i < 10 → lw_tbl[posR i]? = some (Cond.stringRef (strOwn i) (strIdx i) (strX i)) := by decide +kernel
theorem st_u : L_g[10]? = some (Cond.arrayOf (.static "TitleMimes" "UNDER" "[I") .int) ∧ L_g[11]? = some (Cond.eq (.length (.static "TitleMimes" "UNDER" "[I")) (.int (Int32.ofNat 7))) ∧ ∀ j, j < 7 → L_g[12 + j]? = some (Cond.eq (.elem (.static "TitleMimes" "UNDER" "[I") (.int (Int32.ofNat j))) (.int (under j))) := by decide +kernel
section Start
variable {b : Nat} {s : State}
def A_ge (s : State) : Nat → Prop := fun q => s.heap.size ≤ q
theorem A_geN {s : State} : ∀ a : Nat, a < s.heap.size → ¬ A_ge s a := fun _ h1 h2 => absurd h1 (Nat.not_lt.mpr h2)
theorem st_strs (hts : ∀ w ∈ lw_tbl, w.before #[Value.ref b] s = true) (hgv : (Jvm.Cond.and given_1 narrow_1).before #[Value.ref b] s = true) (i : Nat) (hi : i < 10) : ∃ q : Nat × Nat, vk_R (strOwn i) (strIdx i) (strX i) q.1 s ∧ va_O "java/lang/String" q.1 (A_ge s) s s.heap ∧ va_OF "java/lang/String" "coder" "B" (.int 0) q.1 (A_ge s) s s.heap ∧ va_OF "java/lang/String" "value" "[B" (.ref q.2) q.1 (A_ge s) s s.heap ∧ va_T .byte q.2 (strLen.getD (i % 5) 0) (fun j => .int ((strByt.getD (i % 5) []).getD j 0)) (A_ge s) s s.heap := by
  have hs : ∀ w ∈ L_g, w.before #[Value.ref b] s = true := flat_of_before _ hgv
  obtain ⟨w1, w2, w3, w4, w5⟩ := st_w i hi
  obtain ⟨a, c, cA, kA, q1, q2, q3, q4, q5, q6, -⟩ := Cond.exactly_spec (args := #[Value.ref b]) (first := s) (o := none) (s := s) (idx := []) (t := tmS i) (cls := "java/lang/String") (hs _ (List.mem_of_getElem? w1))
  obtain ⟨t, ht, hT⟩ := va_Tof (f := fun j => .int ((strByt.getD (i % 5) []).getD j 0)) (A := A_ge s) (st_len i hi) (hs _ (List.mem_of_getElem? w3)) (va_eqt (hs _ (List.mem_of_getElem? w4))) (fun j hj => va_eqt (hs _ (List.mem_of_getElem? (w5 j hj)))) A_geN
  exact ⟨(a, t), vk_R.of (hts _ (List.mem_of_getElem? (st_r i hi))) q1, ⟨cA, q3, q5, by rw [q6]; exact q2, A_geN a (Array.getElem?_eq_some_iff.mp q3).1⟩, vk_OFof q1 (va_eqt (hs _ (List.mem_of_getElem? w2))) A_geN, vk_OFof q1 ht A_geN, hT⟩
theorem st_under (hts : ∀ w ∈ lw_tbl, w.before #[Value.ref b] s = true) (hgv : (Jvm.Cond.and given_1 narrow_1).before #[Value.ref b] s = true) : ∃ t : Nat, va_Z "TitleMimes" "UNDER" "[I" (.ref t) (A_ge s) s s.heap ∧ va_T .int t 7 (fun j => .int (under j)) (A_ge s) s s.heap := by
  have hs : ∀ w ∈ L_g, w.before #[Value.ref b] s = true := flat_of_before _ hgv
  obtain ⟨w1, w2, w3⟩ := st_u
  obtain ⟨t, ht, hT⟩ := va_Tof (N := 7) (f := fun j => .int (under j)) (A := A_ge s) (by decide) (hs _ (List.mem_of_getElem? w1)) (va_eqt (hs _ (List.mem_of_getElem? w2))) (fun j hj => va_eqt (hs _ (List.mem_of_getElem? (w3 j hj)))) A_geN
  exact ⟨t, va_Zref (hts _ (lt_ 809 (by decide +kernel))) (hts _ (lt_ 65 (by decide +kernel))) ht A_geN, hT⟩
theorem st_comp (hts : ∀ w ∈ lw_tbl, w.before #[Value.ref b] s = true) (hgv : (Jvm.Cond.and given_1 narrow_1).before #[Value.ref b] s = true) : va_Z "java/lang/String" "COMPACT_STRINGS" "Z" (.int 1) (A_ge s) s s.heap :=
  va_Zof (hts _ (lt_ 725 (by decide +kernel))) (hts _ (lt_ 75 (by decide +kernel))) (va_eqi (flat_of_before _ hgv _ (List.mem_of_getElem? (show L_g[4]? = some (Cond.eq (.static "java/lang/String" "COMPACT_STRINGS" "Z") (.int 1)) by decide +kernel)))) A_geN
theorem st_form (hts : ∀ w ∈ lw_tbl, w.before #[Value.ref b] s = true) (hgv : (Jvm.Cond.and given_1 narrow_1).before #[Value.ref b] s = true) : va_Zq "jdk/internal/util/Preconditions" "SIOOBE_FORMATTER" "Ljava/util/function/BiFunction;" (A_ge s) s s.heap :=
  va_Zqof (hts _ (lt_ 741 (by decide +kernel))) (hts _ (lt_ 77 (by decide +kernel))) (flat_of_before _ hgv _ (List.mem_of_getElem? (show L_g[5]? = some (Cond.isRef (.static "jdk/internal/util/Preconditions" "SIOOBE_FORMATTER" "Ljava/util/function/BiFunction;")) by decide +kernel))) A_geN
theorem st_nest (hts : ∀ w ∈ lw_tbl, w.before #[Value.ref b] s = true) : ∀ w ∈ nestL, va_Nw w s := by
  intro w hw
  have h1 := hts w (List.mem_filter.mp hw).1
  have h2 := (List.mem_filter.mp hw).2
  cases w <;> first | exact va_Nw.of rfl h1 | (simp at h2)
theorem st_NX (hts : ∀ w ∈ lw_tbl, w.before #[Value.ref b] s = true) : NX s := ⟨st_nest hts, va_AO.of (hts _ (lt_ 222 (by decide +kernel)))⟩
theorem st_K (hts : ∀ w ∈ lw_tbl, w.before #[Value.ref b] s = true) : ∃ (D : va_G) (cI cS : ClassId), va_K D vwCl [(cI, .int), (cS, .object "TitleMimes$Sheet")] s := by
  have htG : ∀ w ∈ tblG, w.before #[Value.ref b] s = true := fun w hw => hts w (List.mem_filter.mp hw).1
  obtain ⟨c0, i0, k0⟩ := u_known (n := 4) htG inC0 (hts _ (lt_ 175 (by decide +kernel)))
  obtain ⟨c1, i1, k1⟩ := u_known (n := 3) htG inC1 (hts _ (lt_ 223 (by decide +kernel)))
  obtain ⟨c2, i2, k2⟩ := u_known (n := 5) htG inC2 (hts _ (lt_ 94 (by decide +kernel)))
  obtain ⟨c3, i3, k3⟩ := u_known (n := 12) htG inC3 (hts _ (lt_ 88 (by decide +kernel)))
  obtain ⟨c4, i4, k4⟩ := u_known (n := 6) htG inC4 (hts _ (lt_ 196 (by decide +kernel)))
  obtain ⟨c5, i5, k5⟩ := u_known (n := 10) htG inC5 (hts _ (lt_ 80 (by decide +kernel)))
  obtain ⟨c6, i6, k6⟩ := u_known (n := 25) htG inC6 (hts _ (lt_ 888 (by decide +kernel)))
  obtain ⟨cI, kI, compI, a1, a2, a3⟩ := Cond.arrayClass_spec (type := .int) (args := #[Value.ref b]) (first := s) (o := none) (s := s) (idx := []) (hts _ (lt_ 122 (by decide +kernel)))
  obtain ⟨compS, cS, kS, b1, b2, b3, b4, b5⟩ := Cond.arrayOver_spec (args := #[Value.ref b]) (first := s) (o := none) (s := s) (idx := []) (n := "TitleMimes$Sheet") (hts _ (lt_ 222 (by decide +kernel)))
  refine ⟨(fun c => ([c0, c1, c2, c3, c4, c5, c6] : List ClassId).getD c c0, fun c => ([i0, i1, i2, i3, i4, i5, i6] : List (Nat → Nat)).getD c i0), cI, cS, fun c q hq => ?_, fun k q hq => ?_⟩
  · have hc : c < 7 := (List.getElem?_eq_some_iff.mp hq).1
    rcases (show c = 0 ∨ c = 1 ∨ c = 2 ∨ c = 3 ∨ c = 4 ∨ c = 5 ∨ c = 6 by omega) with rfl | rfl | rfl | rfl | rfl | rfl | rfl
    · cases hq; exact k0
    · cases hq; exact k1
    · cases hq; exact k2
    · cases hq; exact k3
    · cases hq; exact k4
    · cases hq; exact k5
    · cases hq; exact k6
  · have hk : k < 2 := (List.getElem?_eq_some_iff.mp hq).1
    rcases (show k = 0 ∨ k = 1 by omega) with rfl | rfl
    · cases hq; exact ⟨fun n z => ⟨fun k h => (by cases h), kI, a2, compI, a3⟩, a1⟩
    · cases hq; exact ⟨fun n z => ⟨fun k h => (by cases h), kS, b3, compS, b4⟩, kS, compS, b3, b4, b1, b5⟩
/-- the constants' places, whatever the cells' addresses -/
theorem st_RO (hts : ∀ w ∈ lw_tbl, w.before #[Value.ref b] s = true) (hgv : (Jvm.Cond.and given_1 narrow_1).before #[Value.ref b] s = true) : ∃ sp : Nat → Nat, ∀ E : Ev, (∀ q, AE E q → s.heap.size ≤ q) → E.1 100 = sp 100 → (∀ i, i < 10 → E.1 (110 + i) = sp (110 + i)) → (∀ i, i < 10 → E.1 (130 + i) = sp (130 + i)) → RO E s s.heap := by
  have h0 : ∀ i : Nat, ∃ q : Nat × Nat, i < 10 → vk_R (strOwn i) (strIdx i) (strX i) q.1 s ∧ va_O "java/lang/String" q.1 (A_ge s) s s.heap ∧ va_OF "java/lang/String" "coder" "B" (.int 0) q.1 (A_ge s) s s.heap ∧ va_OF "java/lang/String" "value" "[B" (.ref q.2) q.1 (A_ge s) s s.heap ∧ va_T .byte q.2 (strLen.getD (i % 5) 0) (fun j => .int ((strByt.getD (i % 5) []).getD j 0)) (A_ge s) s s.heap := by
    intro i
    by_cases hi : i < 10
    · obtain ⟨q, hq⟩ := st_strs hts hgv i hi
      exact ⟨q, fun _ => hq⟩
    · exact ⟨(0, 0), fun h => absurd h hi⟩
  obtain ⟨ad, had⟩ := Classical.axiomOfChoice h0
  obtain ⟨t, hZ, hT⟩ := st_under hts hgv
  refine ⟨fun k => if k < 110 then t else if k < 130 then (ad (k - 110)).1 else (ad (k - 130)).2, fun E hE e1 e2 e3 => ?_⟩
  have f1 : E.1 100 = t := by rw [e1]; exact if_pos (by decide)
  have f2 : ∀ i, i < 10 → E.1 (110 + i) = (ad i).1 := fun i hi => by
    rw [e2 i hi]
    show (if 110 + i < 110 then t else if 110 + i < 130 then (ad (110 + i - 110)).1 else (ad (110 + i - 130)).2) = _
    rw [if_neg (by omega), if_pos (by omega), Nat.add_sub_cancel_left]
  have f3 : ∀ i, i < 10 → E.1 (130 + i) = (ad i).2 := fun i hi => by
    rw [e3 i hi]
    show (if 130 + i < 110 then t else if 130 + i < 130 then (ad (130 + i - 110)).1 else (ad (130 + i - 130)).2) = _
    rw [if_neg (by omega), if_neg (by omega), Nat.add_sub_cancel_left]
  have hn : ∀ q, AE E q → A_ge s q := hE
  refine ⟨st_nest hts, by rw [f1]; exact hZ.narrow hn, by rw [f1]; exact hT.narrow hn, fun i hi => by rw [f2 i hi]; exact (had i hi).1, fun i hi => ?_, (st_comp hts hgv).narrow hn, (st_form hts hgv).narrow hn⟩
  obtain ⟨-, g1, g2, g3, g4⟩ := had i hi
  unfold ROs
  rw [f2 i hi, f3 i hi]
  exact ⟨g1.narrow hn, g2.narrow hn, g3.narrow hn, g4.narrow hn⟩
end Start
