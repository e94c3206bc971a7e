/-! the law: the loop over the script -/
theorem and63 (x : Int32) : ∃ k, k < 64 ∧ x &&& nI 63 = nI k := by
  have h1 : x = nI x.toBitVec.toNat := by
    apply Int32.toBitVec_inj.mp
    show x.toBitVec = BitVec.ofNat 32 x.toBitVec.toNat
    simp
  refine ⟨x.toBitVec.toNat &&& 63, Nat.and_lt_two_pow _ (by decide : 63 < 2 ^ 6), ?_⟩
  rw [← nI_and, ← h1]
theorem law_dis {X : CX} {L : Nat} {xs : Nat → Int32} (hX : XS L xs X) (hL : L ≤ 3072) {i : Nat} (hi : i + 6 ≤ L) {A : AA} (hW : WF A) {σ : Hp} (hC : CompRep A σ) (hM : ModRep A σ) (hn : ∀ A1 τ, WF A1 → CompRep A1 τ → ModRep A1 τ → SW 11 mL_law X 1886 [some (.ref 101), some (.ref 0), some (.ref 49), some (.int (nI i))] [] τ) : ∀ k, k < 64 → SW 11 mL_law X 33 [some (.ref 101), some (.ref 0), some (.ref 49), some (.int (nI i))] [.int (nI k)] σ
  | 0, _ => w_tabIn 272 dL_law_33 (by decide) (by decide) (by decide +kernel : _ = some (239 : Int)) (by decide) (law_0 hX hL hi hW hC hM hn)
  | 1, _ => w_tabIn 315 dL_law_33 (by decide) (by decide) (by decide +kernel : _ = some (282 : Int)) (by decide) (law_1 hX hL hi hW hC hM hn)
  | 2, _ => w_tabIn 348 dL_law_33 (by decide) (by decide) (by decide +kernel : _ = some (315 : Int)) (by decide) (law_2 hX hL hi hW hC hM hn)
  | 3, _ => w_tabIn 391 dL_law_33 (by decide) (by decide) (by decide +kernel : _ = some (358 : Int)) (by decide) (law_3 hX hL hi hW hC hM hn)
  | 4, _ => w_tabIn 414 dL_law_33 (by decide) (by decide) (by decide +kernel : _ = some (381 : Int)) (by decide) (law_4 hX hL hi hW hC hM hn)
  | 5, _ => w_tabIn 447 dL_law_33 (by decide) (by decide) (by decide +kernel : _ = some (414 : Int)) (by decide) (law_5 hX hL hi hW hC hM hn)
  | 6, _ => w_tabIn 480 dL_law_33 (by decide) (by decide) (by decide +kernel : _ = some (447 : Int)) (by decide) (law_6 hX hL hi hW hC hM hn)
  | 7, _ => w_tabIn 539 dL_law_33 (by decide) (by decide) (by decide +kernel : _ = some (506 : Int)) (by decide) (law_7 hX hL hi hW hC hM hn)
  | 8, _ => w_tabIn 562 dL_law_33 (by decide) (by decide) (by decide +kernel : _ = some (529 : Int)) (by decide) (law_8 hX hL hi hW hC hM hn)
  | 9, _ => w_tabIn 585 dL_law_33 (by decide) (by decide) (by decide +kernel : _ = some (552 : Int)) (by decide) (law_9 hX hL hi hW hC hM hn)
  | 10, _ => w_tabIn 628 dL_law_33 (by decide) (by decide) (by decide +kernel : _ = some (595 : Int)) (by decide) (law_10 hX hL hi hW hC hM hn)
  | 11, _ => w_tabIn 661 dL_law_33 (by decide) (by decide) (by decide +kernel : _ = some (628 : Int)) (by decide) (law_11 hX hL hi hW hC hM hn)
  | 12, _ => w_tabIn 704 dL_law_33 (by decide) (by decide) (by decide +kernel : _ = some (671 : Int)) (by decide) (law_12 hX hL hi hW hC hM hn)
  | 13, _ => w_tabIn 747 dL_law_33 (by decide) (by decide) (by decide +kernel : _ = some (714 : Int)) (by decide) (law_13 hX hL hi hW hC hM hn)
  | 14, _ => w_tabIn 790 dL_law_33 (by decide) (by decide) (by decide +kernel : _ = some (757 : Int)) (by decide) (law_14 hX hL hi hW hC hM hn)
  | 15, _ => w_tabIn 823 dL_law_33 (by decide) (by decide) (by decide +kernel : _ = some (790 : Int)) (by decide) (law_15 hX hL hi hW hC hM hn)
  | 16, _ => w_tabIn 856 dL_law_33 (by decide) (by decide) (by decide +kernel : _ = some (823 : Int)) (by decide) (law_16 hX hL hi hW hC hM hn)
  | 17, _ => w_tabIn 879 dL_law_33 (by decide) (by decide) (by decide +kernel : _ = some (846 : Int)) (by decide) (law_17 hX hL hi hW hC hM hn)
  | 18, _ => w_tabIn 902 dL_law_33 (by decide) (by decide) (by decide +kernel : _ = some (869 : Int)) (by decide) (law_18 hX hL hi hW hC hM hn)
  | 19, _ => w_tabIn 915 dL_law_33 (by decide) (by decide) (by decide +kernel : _ = some (882 : Int)) (by decide) (law_19 hX hL hi hW hC hM hn)
  | 20, _ => w_tabIn 938 dL_law_33 (by decide) (by decide) (by decide +kernel : _ = some (905 : Int)) (by decide) (law_20 hX hL hi hW hC hM hn)
  | 21, _ => w_tabIn 961 dL_law_33 (by decide) (by decide) (by decide +kernel : _ = some (928 : Int)) (by decide) (law_21 hX hL hi hW hC hM hn)
  | 22, _ => w_tabIn 984 dL_law_33 (by decide) (by decide) (by decide +kernel : _ = some (951 : Int)) (by decide) (law_22 hX hL hi hW hC hM hn)
  | 23, _ => w_tabIn 1007 dL_law_33 (by decide) (by decide) (by decide +kernel : _ = some (974 : Int)) (by decide) (law_23 hX hL hi hW hC hM hn)
  | 24, _ => w_tabIn 1030 dL_law_33 (by decide) (by decide) (by decide +kernel : _ = some (997 : Int)) (by decide) (law_24 hX hL hi hW hC hM hn)
  | 25, _ => w_tabIn 1063 dL_law_33 (by decide) (by decide) (by decide +kernel : _ = some (1030 : Int)) (by decide) (law_25 hX hL hi hW hC hM hn)
  | 26, _ => w_tabIn 1096 dL_law_33 (by decide) (by decide) (by decide +kernel : _ = some (1063 : Int)) (by decide) (law_26 hX hL hi hW hC hM hn)
  | 27, _ => w_tabIn 1129 dL_law_33 (by decide) (by decide) (by decide +kernel : _ = some (1096 : Int)) (by decide) (law_27 hX hL hi hW hC hM hn)
  | 28, _ => w_tabIn 1152 dL_law_33 (by decide) (by decide) (by decide +kernel : _ = some (1119 : Int)) (by decide) (law_28 hX hL hi hW hC hM hn)
  | 29, _ => w_tabIn 1175 dL_law_33 (by decide) (by decide) (by decide +kernel : _ = some (1142 : Int)) (by decide) (law_29 hX hL hi hW hC hM hn)
  | 30, _ => w_tabIn 1198 dL_law_33 (by decide) (by decide) (by decide +kernel : _ = some (1165 : Int)) (by decide) (law_30 hX hL hi hW hC hM hn)
  | 31, _ => w_tabIn 1221 dL_law_33 (by decide) (by decide) (by decide +kernel : _ = some (1188 : Int)) (by decide) (law_31 hX hL hi hW hC hM hn)
  | 32, _ => w_tabIn 1244 dL_law_33 (by decide) (by decide) (by decide +kernel : _ = some (1211 : Int)) (by decide) (law_32 hX hL hi hW hC hM hn)
  | 33, _ => w_tabIn 1267 dL_law_33 (by decide) (by decide) (by decide +kernel : _ = some (1234 : Int)) (by decide) (law_33 hX hL hi hW hC hM hn)
  | 34, _ => w_tabIn 1300 dL_law_33 (by decide) (by decide) (by decide +kernel : _ = some (1267 : Int)) (by decide) (law_34 hX hL hi hW hC hM hn)
  | 35, _ => w_tabIn 1333 dL_law_33 (by decide) (by decide) (by decide +kernel : _ = some (1300 : Int)) (by decide) (law_35 hX hL hi hW hC hM hn)
  | 36, _ => w_tabIn 1356 dL_law_33 (by decide) (by decide) (by decide +kernel : _ = some (1323 : Int)) (by decide) (law_36 hX hL hi hW hC hM hn)
  | 37, _ => w_tabIn 1389 dL_law_33 (by decide) (by decide) (by decide +kernel : _ = some (1356 : Int)) (by decide) (law_37 hX hL hi hW hC hM hn)
  | 38, _ => w_tabIn 1422 dL_law_33 (by decide) (by decide) (by decide +kernel : _ = some (1389 : Int)) (by decide) (law_38 hX hL hi hW hC hM hn)
  | 39, _ => w_tabIn 1445 dL_law_33 (by decide) (by decide) (by decide +kernel : _ = some (1412 : Int)) (by decide) (law_39 hX hL hi hW hC hM hn)
  | 40, _ => w_tabIn 1458 dL_law_33 (by decide) (by decide) (by decide +kernel : _ = some (1425 : Int)) (by decide) (law_40 hX hL hi hW hC hM hn)
  | 41, _ => w_tabIn 1481 dL_law_33 (by decide) (by decide) (by decide +kernel : _ = some (1448 : Int)) (by decide) (law_41 hX hL hi hW hC hM hn)
  | 42, _ => w_tabIn 1514 dL_law_33 (by decide) (by decide) (by decide +kernel : _ = some (1481 : Int)) (by decide) (law_42 hX hL hi hW hC hM hn)
  | 43, _ => w_tabIn 1527 dL_law_33 (by decide) (by decide) (by decide +kernel : _ = some (1494 : Int)) (by decide) (law_43 hX hL hi hW hC hM hn)
  | 44, _ => w_tabIn 1540 dL_law_33 (by decide) (by decide) (by decide +kernel : _ = some (1507 : Int)) (by decide) (law_44 hX hL hi hW hC hM hn)
  | 45, _ => w_tabIn 1573 dL_law_33 (by decide) (by decide) (by decide +kernel : _ = some (1540 : Int)) (by decide) (law_45 hX hL hi hW hC hM hn)
  | 46, _ => w_tabIn 1606 dL_law_33 (by decide) (by decide) (by decide +kernel : _ = some (1573 : Int)) (by decide) (law_46 hX hL hi hW hC hM hn)
  | 47, _ => w_tabIn 1649 dL_law_33 (by decide) (by decide) (by decide +kernel : _ = some (1616 : Int)) (by decide) (law_47 hX hL hi hW hC hM hn)
  | 48, _ => w_tabIn 1692 dL_law_33 (by decide) (by decide) (by decide +kernel : _ = some (1659 : Int)) (by decide) (law_48 hX hL hi hW hC hM hn)
  | 49, _ => w_tabIn 1755 dL_law_33 (by decide) (by decide) (by decide +kernel : _ = some (1722 : Int)) (by decide) (law_49 hX hL hi hW hC hM hn)
  | 50, _ => w_tabIn 1778 dL_law_33 (by decide) (by decide) (by decide +kernel : _ = some (1745 : Int)) (by decide) (law_50 hX hL hi hW hC hM hn)
  | 51, _ => w_tabIn 1801 dL_law_33 (by decide) (by decide) (by decide +kernel : _ = some (1768 : Int)) (by decide) (law_51 hX hL hi hW hC hM hn)
  | 52, _ => w_tabIn 1814 dL_law_33 (by decide) (by decide) (by decide +kernel : _ = some (1781 : Int)) (by decide) (law_52 hX hL hi hW hC hM hn)
  | 53, _ => w_tabIn 1827 dL_law_33 (by decide) (by decide) (by decide +kernel : _ = some (1794 : Int)) (by decide) (law_53 hX hL hi hW hC hM hn)
  | 54, _ => w_tabIn 1840 dL_law_33 (by decide) (by decide) (by decide +kernel : _ = some (1807 : Int)) (by decide) (law_54 hX hL hi hW hC hM hn)
  | 55, _ => w_tabIn 1863 dL_law_33 (by decide) (by decide) (by decide +kernel : _ = some (1830 : Int)) (by decide) (law_55 hX hL hi hW hC hM hn)
  | k + 56, hk => w_tabOut 1886 dL_law_33 (Or.inr (by rw [nI_toInt (by omega)]; omega)) (by decide) (hn A σ hW hC hM)
theorem L_law {X : CX} {L : Nat} {xs : Nat → Int32} (hX : XS L xs X) (hL : L ≤ 3072) (hend : ∀ ls σ, SW 11 mL_law X 1892 ls [] σ) : ∀ n i, L ≤ i + n → i ≤ L + 6 → ∀ A σ, WF A → CompRep A σ → ModRep A σ → SW 11 mL_law X 18 [some (.ref 101), some (.ref 0), some (.ref 49), some (.int (nI i))] [] σ := by
  intro n
  induction n with
  | zero =>
    intro i h1 h2 A σ hW hC hM
    refine w_iload_n dL_law_18 rfl ?_
    refine w_aload_n dL_law_19 rfl ?_
    refine w_slen hX dL_law_20 ?_
    refine w_bipush (nI 6) dL_law_21 (by decide) ?_
    by_cases h6 : 6 ≤ L
    · refine w_isubN dL_law_23 h6 ?_
      exact w_icmp_gtN 1892 dL_law_24 (by decide) (by omega) (by omega) (fun _ => hend _ _) (fun h => by omega)
    · refine w_isub dL_law_23 ?_
      exact w_icmp_gt 1892 dL_law_24 (by decide) (fun _ => hend _ _) (fun h => absurd (Int32.lt_of_lt_of_le (sub_neg' (by omega) (by omega)) (nI_pos' (by omega))) h)
  | succ n ih =>
    intro i h1 h2 A σ hW hC hM
    refine w_iload_n dL_law_18 rfl ?_
    refine w_aload_n dL_law_19 rfl ?_
    refine w_slen hX dL_law_20 ?_
    refine w_bipush (nI 6) dL_law_21 (by decide) ?_
    by_cases h6 : i + 6 ≤ L
    · refine w_isubN dL_law_23 (by omega) ?_
      refine w_icmp_gtN 1892 dL_law_24 (by decide) (by omega) (by omega) (fun _ => hend _ _) (fun _ => ?_)
      refine w_aload_n dL_law_27 rfl ?_
      refine w_iload_n dL_law_28 rfl ?_
      refine w_sld hX dL_law_29 (vp_nI (by omega) hL) ?_
      refine w_bipush (nI 63) dL_law_30 (by decide) ?_
      refine w_iand dL_law_32 ?_
      obtain ⟨k, hk, e⟩ := and63 (xs (nI i).toNatClampNeg)
      rw [e]
      refine law_dis hX hL h6 hW hC hM (fun A1 τ w1 w2 w3 => ?_) k hk
      refine w_iinc (nI (i + 6)) dL_law_1886 rfl (by rw [show Int32.ofInt 6 = nI 6 by decide, nI_add]) (by decide) ?_
      refine w_goto 18 dL_law_1889 (by decide) ?_
      exact ih (i + 6) (by omega) (by omega) A1 τ w1 w2 w3
    · by_cases h7 : 6 ≤ L
      · refine w_isubN dL_law_23 h7 ?_
        exact w_icmp_gtN 1892 dL_law_24 (by decide) (by omega) (by omega) (fun _ => hend _ _) (fun h => by omega)
      · refine w_isub dL_law_23 ?_
        exact w_icmp_gt 1892 dL_law_24 (by decide) (fun _ => hend _ _) (fun h => absurd (Int32.lt_of_lt_of_le (sub_neg' (by omega) (by omega)) (nI_pos' (by omega))) h)
