section
variable {d d1 : Nat} {X : CX} {σ σ1 : Hp} {st : List Value} {l0 l1 l2 l3 l4 l5 l6 l7 l8 l9 l10 l11 l12 : Option Value} {x y v : Int32} {w w1 w2 w3 w4 w5 r : Value} {z : Int64} {a b n p q : Nat} {Qx : Option Value → Hp → Prop} {pp : Prop}
theorem sX1_isMissing_0 (k : SW d mX1_isMissing X 1 [some (.ref a)] (.ref a :: st) σ) : SW d mX1_isMissing X 0 [some (.ref a)] st σ := w_aload_n dX1_isMissing_0 rfl k
theorem sX1_isMissing_1 (hb : fI 1 q 2 = true) (hv : σ q 2 = v) (k : SW d mX1_isMissing X 4 [l0] (.int v :: st) σ) : SW d mX1_isMissing X 1 [l0] (.ref q :: st) σ := w_getI' 1 2 dX1_isMissing_1 fl_X1_19 hb hv k
theorem sX1_isMissing_4b (k1 : pp → SW d mX1_isMissing X 11 [l0] st σ) (k2 : ¬ pp → SW d mX1_isMissing X 7 [l0] st σ) : SW d mX1_isMissing X 4 [l0] (.int (bI pp) :: st) σ := w_if_neB 11 dX1_isMissing_4 (by decide) k1 k2
theorem sX1_isMissing_4n (ha : a < 2147483648) (k1 : a ≠ 0 → SW d mX1_isMissing X 11 [l0] st σ) (k2 : a = 0 → SW d mX1_isMissing X 7 [l0] st σ) : SW d mX1_isMissing X 4 [l0] (.int (nI a) :: st) σ := w_if_neN 11 dX1_isMissing_4 (by decide) ha k1 k2
theorem sX1_isMissing_4 (k1 : ¬ x = 0 → SW d mX1_isMissing X 11 [l0] st σ) (k2 : x = 0 → SW d mX1_isMissing X 7 [l0] st σ) : SW d mX1_isMissing X 4 [l0] (.int x :: st) σ := w_if_ne 11 dX1_isMissing_4 (by decide) k1 k2
theorem sX1_isMissing_7 (k : SW d mX1_isMissing X 8 [l0] (.int (nI 1) :: st) σ) : SW d mX1_isMissing X 7 [l0] st σ := w_iconst (nI 1) dX1_isMissing_7 (by decide) k
theorem sX1_isMissing_8 (k : SW d mX1_isMissing X 12 [l0] st σ) : SW d mX1_isMissing X 8 [l0] st σ := w_goto 12 dX1_isMissing_8 (by decide) k
theorem sX1_isMissing_11 (k : SW d mX1_isMissing X 12 [l0] (.int (nI 0) :: st) σ) : SW d mX1_isMissing X 11 [l0] st σ := w_iconst (nI 0) dX1_isMissing_11 (by decide) k
theorem sX1_isMissing_12 (hn : narrow .boolean (.int x) = .int x) (k : RetOK X (some (.int x)) σ) : SW d mX1_isMissing X 12 [l0] [.int x] σ := w_iret dX1_isMissing_12 .boolean rfl hn k
theorem sX1_renew_0 (k : SW d mX1_renew X 1 [some (.ref a), l1, l2, l3] (.ref a :: st) σ) : SW d mX1_renew X 0 [some (.ref a), l1, l2, l3] st σ := w_aload_n dX1_renew_0 rfl k
theorem sX1_renew_1 (k : SW d mX1_renew X 2 [l0, some (.int x), l2, l3] (.int x :: st) σ) : SW d mX1_renew X 1 [l0, some (.int x), l2, l3] st σ := w_iload_n dX1_renew_1 rfl k
theorem sX1_renew_2 (hb : fI 1 q 2 = true) (k : SW d mX1_renew X 5 [l0, l1, l2, l3] st (up2 σ q 2 x)) : SW d mX1_renew X 2 [l0, l1, l2, l3] (.int x :: .ref q :: st) σ := w_putI 1 2 .int dX1_renew_2 fl_X1_19 hb (fun r h => by cases h; exact ⟨rfl, by decide +kernel⟩) rfl rfl k
theorem sX1_renew_5 (k : SW d mX1_renew X 6 [some (.ref a), l1, l2, l3] (.ref a :: st) σ) : SW d mX1_renew X 5 [some (.ref a), l1, l2, l3] st σ := w_aload_n dX1_renew_5 rfl k
theorem sX1_renew_6 (k : SW d mX1_renew X 7 [l0, some (.int x), l2, l3] (.int x :: st) σ) : SW d mX1_renew X 6 [l0, some (.int x), l2, l3] st σ := w_iload_n dX1_renew_6 rfl k
theorem sX1_renew_7b (k1 : pp → SW d mX1_renew X 14 [l0, l1, l2, l3] st σ) (k2 : ¬ pp → SW d mX1_renew X 10 [l0, l1, l2, l3] st σ) : SW d mX1_renew X 7 [l0, l1, l2, l3] (.int (bI pp) :: st) σ := w_if_neB 14 dX1_renew_7 (by decide) k1 k2
theorem sX1_renew_7n (ha : a < 2147483648) (k1 : a ≠ 0 → SW d mX1_renew X 14 [l0, l1, l2, l3] st σ) (k2 : a = 0 → SW d mX1_renew X 10 [l0, l1, l2, l3] st σ) : SW d mX1_renew X 7 [l0, l1, l2, l3] (.int (nI a) :: st) σ := w_if_neN 14 dX1_renew_7 (by decide) ha k1 k2
theorem sX1_renew_7 (k1 : ¬ x = 0 → SW d mX1_renew X 14 [l0, l1, l2, l3] st σ) (k2 : x = 0 → SW d mX1_renew X 10 [l0, l1, l2, l3] st σ) : SW d mX1_renew X 7 [l0, l1, l2, l3] (.int x :: st) σ := w_if_ne 14 dX1_renew_7 (by decide) k1 k2
theorem sX1_renew_10 (k : SW d mX1_renew X 11 [l0, l1, l2, l3] (.int (nI 0) :: st) σ) : SW d mX1_renew X 10 [l0, l1, l2, l3] st σ := w_iconst (nI 0) dX1_renew_10 (by decide) k
theorem sX1_renew_11 (k : SW d mX1_renew X 15 [l0, l1, l2, l3] st σ) : SW d mX1_renew X 11 [l0, l1, l2, l3] st σ := w_goto 15 dX1_renew_11 (by decide) k
theorem sX1_renew_14 (k : SW d mX1_renew X 15 [l0, l1, some (.int x), l3] (.int x :: st) σ) : SW d mX1_renew X 14 [l0, l1, some (.int x), l3] st σ := w_iload_n dX1_renew_14 rfl k
theorem sX1_renew_15 (hb : fI 1 q 1 = true) (k : SW d mX1_renew X 18 [l0, l1, l2, l3] st (up2 σ q 1 x)) : SW d mX1_renew X 15 [l0, l1, l2, l3] (.int x :: .ref q :: st) σ := w_putI 1 1 .int dX1_renew_15 fl_X1_15 hb (fun r h => by cases h; exact ⟨rfl, by decide +kernel⟩) rfl rfl k
theorem sX1_renew_18 (k : SW d mX1_renew X 19 [l0, l1, l2, l3] (.int (nI 0) :: st) σ) : SW d mX1_renew X 18 [l0, l1, l2, l3] st σ := w_iconst (nI 0) dX1_renew_18 (by decide) k
theorem sX1_renew_19 (k : SW d mX1_renew X 20 [l0, l1, l2, some (.int x)] st σ) : SW d mX1_renew X 19 [l0, l1, l2, l3] (.int x :: st) σ := w_istore_n dX1_renew_19 (Nat.le_of_ble_eq_true rfl) (Nat.le_of_ble_eq_true rfl) k
theorem sX1_renew_20 (k : SW d mX1_renew X 21 [l0, l1, l2, some (.int x)] (.int x :: st) σ) : SW d mX1_renew X 20 [l0, l1, l2, some (.int x)] st σ := w_iload_n dX1_renew_20 rfl k
theorem sX1_renew_21 (k : SW d mX1_renew X 23 [l0, l1, l2, l3] (.int (nI 40) :: st) σ) : SW d mX1_renew X 21 [l0, l1, l2, l3] st σ := w_bipush (nI 40) dX1_renew_21 (by decide) k
theorem sX1_renew_23n (ha : a < 2147483648) (hb : b < 2147483648) (k1 : b ≤ a → SW d mX1_renew X 39 [l0, l1, l2, l3] st σ) (k2 : a < b → SW d mX1_renew X 26 [l0, l1, l2, l3] st σ) : SW d mX1_renew X 23 [l0, l1, l2, l3] (.int (nI b) :: .int (nI a) :: st) σ := w_icmp_geN 39 dX1_renew_23 (by decide) ha hb k1 k2
theorem sX1_renew_23 (k1 : y ≤ x → SW d mX1_renew X 39 [l0, l1, l2, l3] st σ) (k2 : ¬ y ≤ x → SW d mX1_renew X 26 [l0, l1, l2, l3] st σ) : SW d mX1_renew X 23 [l0, l1, l2, l3] (.int y :: .int x :: st) σ := w_icmp_ge 39 dX1_renew_23 (by decide) k1 k2
theorem sX1_renew_26 (k : SW d mX1_renew X 27 [some (.ref a), l1, l2, l3] (.ref a :: st) σ) : SW d mX1_renew X 26 [some (.ref a), l1, l2, l3] st σ := w_aload_n dX1_renew_26 rfl k
theorem sX1_renew_27 (hb : fR 1 q 0 = some p) (k : SW d mX1_renew X 30 [l0, l1, l2, l3] (.ref p :: st) σ) : SW d mX1_renew X 27 [l0, l1, l2, l3] (.ref q :: st) σ := w_getR 1 0 dX1_renew_27 fl_X1_9 hb k
theorem sX1_renew_30 (k : SW d mX1_renew X 31 [l0, l1, l2, some (.int x)] (.int x :: st) σ) : SW d mX1_renew X 30 [l0, l1, l2, some (.int x)] st σ := w_iload_n dX1_renew_30 rfl k
theorem sX1_renew_31 (k : SW d mX1_renew X 32 [l0, l1, l2, l3] (.int (nI 0) :: st) σ) : SW d mX1_renew X 31 [l0, l1, l2, l3] st σ := w_iconst (nI 0) dX1_renew_31 (by decide) k
theorem sX1_renew_32n (hb : aN q = some n) (hi : a < n) (k : SW d mX1_renew X 33 [l0, l1, l2, l3] st (up2 σ q a x)) : SW d mX1_renew X 32 [l0, l1, l2, l3] (.int x :: .int (nI a) :: .ref q :: st) σ := w_iast' dX1_renew_32 hb hi k
theorem sX1_renew_32 (hb : aN q = some n) (hi : vp_in y n) (k : SW d mX1_renew X 33 [l0, l1, l2, l3] st (up2 σ q y.toNatClampNeg x)) : SW d mX1_renew X 32 [l0, l1, l2, l3] (.int x :: .int y :: .ref q :: st) σ := w_iast dX1_renew_32 hb hi k
theorem sX1_renew_33n (k : SW d mX1_renew X 36 [l0, l1, l2, some (.int (nI (a + 1)))] st σ) : SW d mX1_renew X 33 [l0, l1, l2, some (.int (nI a))] st σ := w_iinc (nI (a + 1)) dX1_renew_33 rfl (by rw [show Int32.ofInt 1 = nI 1 from by decide, nI_add]) (Nat.le_of_ble_eq_true rfl) k
theorem sX1_renew_33 (k : SW d mX1_renew X 36 [l0, l1, l2, some (.int (x + (1)))] st σ) : SW d mX1_renew X 33 [l0, l1, l2, some (.int x)] st σ := w_iinc (x + (1)) dX1_renew_33 rfl (by rw [show Int32.ofInt (1) = (1) from by decide]) (Nat.le_of_ble_eq_true rfl) k
theorem sX1_renew_36 (k : SW d mX1_renew X 20 [l0, l1, l2, l3] st σ) : SW d mX1_renew X 36 [l0, l1, l2, l3] st σ := w_goto 20 dX1_renew_36 (by decide) k
theorem sX1_renew_39 (k : SW d mX1_renew X 40 [some (.ref a), l1, l2, l3] (.ref a :: st) σ) : SW d mX1_renew X 39 [some (.ref a), l1, l2, l3] st σ := w_aload_n dX1_renew_39 rfl k
theorem sX1_renew_40 (hb : fI 1 q 1 = true) (hv : σ q 1 = v) (k : SW d mX1_renew X 43 [l0, l1, l2, l3] (.int v :: st) σ) : SW d mX1_renew X 40 [l0, l1, l2, l3] (.ref q :: st) σ := w_getI' 1 1 dX1_renew_40 fl_X1_15 hb hv k
theorem sX1_renew_43 (k : RetOK X (some (.int x)) σ) : SW d mX1_renew X 43 [l0, l1, l2, l3] [.int x] σ := w_iret dX1_renew_43 .int rfl rfl k
theorem sX1_put_0 (k : SW d mX1_put X 1 [some (.ref a), l1, l2] (.ref a :: st) σ) : SW d mX1_put X 0 [some (.ref a), l1, l2] st σ := w_aload_n dX1_put_0 rfl k
theorem sX1_put_1 (hb : fI 1 q 2 = true) (hv : σ q 2 = v) (k : SW d mX1_put X 4 [l0, l1, l2] (.int v :: st) σ) : SW d mX1_put X 1 [l0, l1, l2] (.ref q :: st) σ := w_getI' 1 2 dX1_put_1 fl_X1_19 hb hv k
theorem sX1_put_4 (k : SW d mX1_put X 6 [l0, l1, l2] (.int (nI 8) :: st) σ) : SW d mX1_put X 4 [l0, l1, l2] st σ := w_bipush (nI 8) dX1_put_4 (by decide) k
theorem sX1_put_6n (ha : a < 2147483648) (hb : b < 2147483648) (k1 : a ≠ b → SW d mX1_put X 20 [l0, l1, l2] st σ) (k2 : a = b → SW d mX1_put X 9 [l0, l1, l2] st σ) : SW d mX1_put X 6 [l0, l1, l2] (.int (nI b) :: .int (nI a) :: st) σ := w_icmp_neN 20 dX1_put_6 (by decide) ha hb k1 k2
theorem sX1_put_6 (k1 : ¬ x = y → SW d mX1_put X 20 [l0, l1, l2] st σ) (k2 : x = y → SW d mX1_put X 9 [l0, l1, l2] st σ) : SW d mX1_put X 6 [l0, l1, l2] (.int y :: .int x :: st) σ := w_icmp_ne 20 dX1_put_6 (by decide) k1 k2
theorem sX1_put_9 (k : SW d mX1_put X 10 [some (.ref a), l1, l2] (.ref a :: st) σ) : SW d mX1_put X 9 [some (.ref a), l1, l2] st σ := w_aload_n dX1_put_9 rfl k
theorem sX1_put_10 (hb : fR 1 q 0 = some p) (k : SW d mX1_put X 13 [l0, l1, l2] (.ref p :: st) σ) : SW d mX1_put X 10 [l0, l1, l2] (.ref q :: st) σ := w_getR 1 0 dX1_put_10 fl_X1_9 hb k
theorem sX1_put_13 (k : SW d mX1_put X 14 [l0, some (.int x), l2] (.int x :: st) σ) : SW d mX1_put X 13 [l0, some (.int x), l2] st σ := w_iload_n dX1_put_13 rfl k
theorem sX1_put_14 (k : SW d mX1_put X 15 [l0, l1, some (.int x)] (.int x :: st) σ) : SW d mX1_put X 14 [l0, l1, some (.int x)] st σ := w_iload_n dX1_put_14 rfl k
theorem sX1_put_15 (k : SW d mX1_put X 16 [l0, l1, l2] (.int x.toInt8.toInt32 :: st) σ) : SW d mX1_put X 15 [l0, l1, l2] (.int x :: st) σ := w_i2b dX1_put_15 k
theorem sX1_put_16n (hb : aN q = some n) (hi : a < n) (k : SW d mX1_put X 17 [l0, l1, l2] st (up2 σ q a x)) : SW d mX1_put X 16 [l0, l1, l2] (.int x :: .int (nI a) :: .ref q :: st) σ := w_iast' dX1_put_16 hb hi k
theorem sX1_put_16 (hb : aN q = some n) (hi : vp_in y n) (k : SW d mX1_put X 17 [l0, l1, l2] st (up2 σ q y.toNatClampNeg x)) : SW d mX1_put X 16 [l0, l1, l2] (.int x :: .int y :: .ref q :: st) σ := w_iast dX1_put_16 hb hi k
theorem sX1_put_17 (k : SW d mX1_put X 47 [l0, l1, l2] st σ) : SW d mX1_put X 17 [l0, l1, l2] st σ := w_goto 47 dX1_put_17 (by decide) k
theorem sX1_put_20 (k : SW d mX1_put X 21 [some (.ref a), l1, l2] (.ref a :: st) σ) : SW d mX1_put X 20 [some (.ref a), l1, l2] st σ := w_aload_n dX1_put_20 rfl k
theorem sX1_put_21 (hb : fI 1 q 2 = true) (hv : σ q 2 = v) (k : SW d mX1_put X 24 [l0, l1, l2] (.int v :: st) σ) : SW d mX1_put X 21 [l0, l1, l2] (.ref q :: st) σ := w_getI' 1 2 dX1_put_21 fl_X1_19 hb hv k
theorem sX1_put_24 (k : SW d mX1_put X 26 [l0, l1, l2] (.int (nI 16) :: st) σ) : SW d mX1_put X 24 [l0, l1, l2] st σ := w_bipush (nI 16) dX1_put_24 (by decide) k
theorem sX1_put_26n (ha : a < 2147483648) (hb : b < 2147483648) (k1 : a ≠ b → SW d mX1_put X 40 [l0, l1, l2] st σ) (k2 : a = b → SW d mX1_put X 29 [l0, l1, l2] st σ) : SW d mX1_put X 26 [l0, l1, l2] (.int (nI b) :: .int (nI a) :: st) σ := w_icmp_neN 40 dX1_put_26 (by decide) ha hb k1 k2
theorem sX1_put_26 (k1 : ¬ x = y → SW d mX1_put X 40 [l0, l1, l2] st σ) (k2 : x = y → SW d mX1_put X 29 [l0, l1, l2] st σ) : SW d mX1_put X 26 [l0, l1, l2] (.int y :: .int x :: st) σ := w_icmp_ne 40 dX1_put_26 (by decide) k1 k2
theorem sX1_put_29 (k : SW d mX1_put X 30 [some (.ref a), l1, l2] (.ref a :: st) σ) : SW d mX1_put X 29 [some (.ref a), l1, l2] st σ := w_aload_n dX1_put_29 rfl k
theorem sX1_put_30 (hb : fR 1 q 0 = some p) (k : SW d mX1_put X 33 [l0, l1, l2] (.ref p :: st) σ) : SW d mX1_put X 30 [l0, l1, l2] (.ref q :: st) σ := w_getR 1 0 dX1_put_30 fl_X1_9 hb k
theorem sX1_put_33 (k : SW d mX1_put X 34 [l0, some (.int x), l2] (.int x :: st) σ) : SW d mX1_put X 33 [l0, some (.int x), l2] st σ := w_iload_n dX1_put_33 rfl k
theorem sX1_put_34 (k : SW d mX1_put X 35 [l0, l1, some (.int x)] (.int x :: st) σ) : SW d mX1_put X 34 [l0, l1, some (.int x)] st σ := w_iload_n dX1_put_34 rfl k
theorem sX1_put_35 (k : SW d mX1_put X 36 [l0, l1, l2] (.int x.toInt16.toInt32 :: st) σ) : SW d mX1_put X 35 [l0, l1, l2] (.int x :: st) σ := w_i2s dX1_put_35 k
theorem sX1_put_36n (hb : aN q = some n) (hi : a < n) (k : SW d mX1_put X 37 [l0, l1, l2] st (up2 σ q a x)) : SW d mX1_put X 36 [l0, l1, l2] (.int x :: .int (nI a) :: .ref q :: st) σ := w_iast' dX1_put_36 hb hi k
theorem sX1_put_36 (hb : aN q = some n) (hi : vp_in y n) (k : SW d mX1_put X 37 [l0, l1, l2] st (up2 σ q y.toNatClampNeg x)) : SW d mX1_put X 36 [l0, l1, l2] (.int x :: .int y :: .ref q :: st) σ := w_iast dX1_put_36 hb hi k
theorem sX1_put_37 (k : SW d mX1_put X 47 [l0, l1, l2] st σ) : SW d mX1_put X 37 [l0, l1, l2] st σ := w_goto 47 dX1_put_37 (by decide) k
theorem sX1_put_40 (k : SW d mX1_put X 41 [some (.ref a), l1, l2] (.ref a :: st) σ) : SW d mX1_put X 40 [some (.ref a), l1, l2] st σ := w_aload_n dX1_put_40 rfl k
theorem sX1_put_41 (hb : fR 1 q 0 = some p) (k : SW d mX1_put X 44 [l0, l1, l2] (.ref p :: st) σ) : SW d mX1_put X 41 [l0, l1, l2] (.ref q :: st) σ := w_getR 1 0 dX1_put_41 fl_X1_9 hb k
theorem sX1_put_44 (k : SW d mX1_put X 45 [l0, some (.int x), l2] (.int x :: st) σ) : SW d mX1_put X 44 [l0, some (.int x), l2] st σ := w_iload_n dX1_put_44 rfl k
theorem sX1_put_45 (k : SW d mX1_put X 46 [l0, l1, some (.int x)] (.int x :: st) σ) : SW d mX1_put X 45 [l0, l1, some (.int x)] st σ := w_iload_n dX1_put_45 rfl k
theorem sX1_put_46n (hb : aN q = some n) (hi : a < n) (k : SW d mX1_put X 47 [l0, l1, l2] st (up2 σ q a x)) : SW d mX1_put X 46 [l0, l1, l2] (.int x :: .int (nI a) :: .ref q :: st) σ := w_iast' dX1_put_46 hb hi k
theorem sX1_put_46 (hb : aN q = some n) (hi : vp_in y n) (k : SW d mX1_put X 47 [l0, l1, l2] st (up2 σ q y.toNatClampNeg x)) : SW d mX1_put X 46 [l0, l1, l2] (.int x :: .int y :: .ref q :: st) σ := w_iast dX1_put_46 hb hi k
theorem sX1_put_47 (k : RetOK X none σ) : SW d mX1_put X 47 [l0, l1, l2] [] σ := w_vret dX1_put_47 rfl k
theorem sX1_hasRange_0 (k : SW d mX1_hasRange X 1 [l0, some (.int x), l2] (.int x :: st) σ) : SW d mX1_hasRange X 0 [l0, some (.int x), l2] st σ := w_iload_n dX1_hasRange_0 rfl k
theorem sX1_hasRange_1n (ha : a < 2147483648) (k : SW d mX1_hasRange X 4 [l0, l1, l2] st σ) : SW d mX1_hasRange X 1 [l0, l1, l2] (.int (nI a) :: st) σ := w_if_ltN 30 dX1_hasRange_1 (by decide) ha k
theorem sX1_hasRange_1m (k : SW d mX1_hasRange X 30 [l0, l1, l2] st σ) : SW d mX1_hasRange X 1 [l0, l1, l2] (.int (-1) :: st) σ := w_if_ltM 30 dX1_hasRange_1 (by decide) k
theorem sX1_hasRange_1 (k1 : x < 0 → SW d mX1_hasRange X 30 [l0, l1, l2] st σ) (k2 : ¬ x < 0 → SW d mX1_hasRange X 4 [l0, l1, l2] st σ) : SW d mX1_hasRange X 1 [l0, l1, l2] (.int x :: st) σ := w_if_lt 30 dX1_hasRange_1 (by decide) k1 k2
theorem sX1_hasRange_4 (k : SW d mX1_hasRange X 5 [l0, l1, some (.int x)] (.int x :: st) σ) : SW d mX1_hasRange X 4 [l0, l1, some (.int x)] st σ := w_iload_n dX1_hasRange_4 rfl k
theorem sX1_hasRange_5n (ha : a < 2147483648) (k : SW d mX1_hasRange X 8 [l0, l1, l2] st σ) : SW d mX1_hasRange X 5 [l0, l1, l2] (.int (nI a) :: st) σ := w_if_ltN 30 dX1_hasRange_5 (by decide) ha k
theorem sX1_hasRange_5m (k : SW d mX1_hasRange X 30 [l0, l1, l2] st σ) : SW d mX1_hasRange X 5 [l0, l1, l2] (.int (-1) :: st) σ := w_if_ltM 30 dX1_hasRange_5 (by decide) k
theorem sX1_hasRange_5 (k1 : x < 0 → SW d mX1_hasRange X 30 [l0, l1, l2] st σ) (k2 : ¬ x < 0 → SW d mX1_hasRange X 8 [l0, l1, l2] st σ) : SW d mX1_hasRange X 5 [l0, l1, l2] (.int x :: st) σ := w_if_lt 30 dX1_hasRange_5 (by decide) k1 k2
theorem sX1_hasRange_8 (k : SW d mX1_hasRange X 9 [l0, l1, some (.int x)] (.int x :: st) σ) : SW d mX1_hasRange X 8 [l0, l1, some (.int x)] st σ := w_iload_n dX1_hasRange_8 rfl k
theorem sX1_hasRange_9 (k : SW d mX1_hasRange X 10 [some (.ref a), l1, l2] (.ref a :: st) σ) : SW d mX1_hasRange X 9 [some (.ref a), l1, l2] st σ := w_aload_n dX1_hasRange_9 rfl k
theorem sX1_hasRange_10 (hb : fI 1 q 1 = true) (hv : σ q 1 = v) (k : SW d mX1_hasRange X 13 [l0, l1, l2] (.int v :: st) σ) : SW d mX1_hasRange X 10 [l0, l1, l2] (.ref q :: st) σ := w_getI' 1 1 dX1_hasRange_10 fl_X1_15 hb hv k
theorem sX1_hasRange_13n (ha : a < 2147483648) (hb : b < 2147483648) (k1 : b < a → SW d mX1_hasRange X 30 [l0, l1, l2] st σ) (k2 : a ≤ b → SW d mX1_hasRange X 16 [l0, l1, l2] st σ) : SW d mX1_hasRange X 13 [l0, l1, l2] (.int (nI b) :: .int (nI a) :: st) σ := w_icmp_gtN 30 dX1_hasRange_13 (by decide) ha hb k1 k2
theorem sX1_hasRange_13 (k1 : y < x → SW d mX1_hasRange X 30 [l0, l1, l2] st σ) (k2 : ¬ y < x → SW d mX1_hasRange X 16 [l0, l1, l2] st σ) : SW d mX1_hasRange X 13 [l0, l1, l2] (.int y :: .int x :: st) σ := w_icmp_gt 30 dX1_hasRange_13 (by decide) k1 k2
theorem sX1_hasRange_16 (k : SW d mX1_hasRange X 17 [l0, some (.int x), l2] (.int x :: st) σ) : SW d mX1_hasRange X 16 [l0, some (.int x), l2] st σ := w_iload_n dX1_hasRange_16 rfl k
theorem sX1_hasRange_17 (k : SW d mX1_hasRange X 18 [some (.ref a), l1, l2] (.ref a :: st) σ) : SW d mX1_hasRange X 17 [some (.ref a), l1, l2] st σ := w_aload_n dX1_hasRange_17 rfl k
theorem sX1_hasRange_18 (hb : fI 1 q 1 = true) (hv : σ q 1 = v) (k : SW d mX1_hasRange X 21 [l0, l1, l2] (.int v :: st) σ) : SW d mX1_hasRange X 18 [l0, l1, l2] (.ref q :: st) σ := w_getI' 1 1 dX1_hasRange_18 fl_X1_15 hb hv k
theorem sX1_hasRange_21 (k : SW d mX1_hasRange X 22 [l0, l1, some (.int x)] (.int x :: st) σ) : SW d mX1_hasRange X 21 [l0, l1, some (.int x)] st σ := w_iload_n dX1_hasRange_21 rfl k
theorem sX1_hasRange_22n (h : b ≤ a) (k : SW d mX1_hasRange X 23 [l0, l1, l2] (.int (nI (a - b)) :: st) σ) : SW d mX1_hasRange X 22 [l0, l1, l2] (.int (nI b) :: .int (nI a) :: st) σ := w_isubN dX1_hasRange_22 h k
theorem sX1_hasRange_22 (k : SW d mX1_hasRange X 23 [l0, l1, l2] (.int (x - y) :: st) σ) : SW d mX1_hasRange X 22 [l0, l1, l2] (.int y :: .int x :: st) σ := w_isub dX1_hasRange_22 k
theorem sX1_hasRange_23n (ha : a < 2147483648) (hb : b < 2147483648) (k1 : b < a → SW d mX1_hasRange X 30 [l0, l1, l2] st σ) (k2 : a ≤ b → SW d mX1_hasRange X 26 [l0, l1, l2] st σ) : SW d mX1_hasRange X 23 [l0, l1, l2] (.int (nI b) :: .int (nI a) :: st) σ := w_icmp_gtN 30 dX1_hasRange_23 (by decide) ha hb k1 k2
theorem sX1_hasRange_23 (k1 : y < x → SW d mX1_hasRange X 30 [l0, l1, l2] st σ) (k2 : ¬ y < x → SW d mX1_hasRange X 26 [l0, l1, l2] st σ) : SW d mX1_hasRange X 23 [l0, l1, l2] (.int y :: .int x :: st) σ := w_icmp_gt 30 dX1_hasRange_23 (by decide) k1 k2
theorem sX1_hasRange_26 (k : SW d mX1_hasRange X 27 [l0, l1, l2] (.int (nI 1) :: st) σ) : SW d mX1_hasRange X 26 [l0, l1, l2] st σ := w_iconst (nI 1) dX1_hasRange_26 (by decide) k
theorem sX1_hasRange_27 (k : SW d mX1_hasRange X 31 [l0, l1, l2] st σ) : SW d mX1_hasRange X 27 [l0, l1, l2] st σ := w_goto 31 dX1_hasRange_27 (by decide) k
theorem sX1_hasRange_30 (k : SW d mX1_hasRange X 31 [l0, l1, l2] (.int (nI 0) :: st) σ) : SW d mX1_hasRange X 30 [l0, l1, l2] st σ := w_iconst (nI 0) dX1_hasRange_30 (by decide) k
theorem sX1_hasRange_31 (hn : narrow .boolean (.int x) = .int x) (k : RetOK X (some (.int x)) σ) : SW d mX1_hasRange X 31 [l0, l1, l2] [.int x] σ := w_iret dX1_hasRange_31 .boolean rfl hn k
theorem sX2_begin_0 (k : SW d mX2_begin X 1 [some (.ref a), l1, l2, l3] (.ref a :: st) σ) : SW d mX2_begin X 0 [some (.ref a), l1, l2, l3] st σ := w_aload_n dX2_begin_0 rfl k
theorem sX2_begin_1 (k : SW d mX2_begin X 2 [l0, some (.int x), l2, l3] (.int x :: st) σ) : SW d mX2_begin X 1 [l0, some (.int x), l2, l3] st σ := w_iload_n dX2_begin_1 rfl k
theorem sX2_begin_2 (hb : fI 2 q 0 = true) (k : SW d mX2_begin X 5 [l0, l1, l2, l3] st (up2 σ q 0 x)) : SW d mX2_begin X 2 [l0, l1, l2, l3] (.int x :: .ref q :: st) σ := w_putI 2 0 .int dX2_begin_2 fl_X2_9 hb (fun r h => by cases h; exact ⟨rfl, by decide +kernel⟩) rfl rfl k
theorem sX2_begin_5 (k : SW d mX2_begin X 6 [some (.ref a), l1, l2, l3] (.ref a :: st) σ) : SW d mX2_begin X 5 [some (.ref a), l1, l2, l3] st σ := w_aload_n dX2_begin_5 rfl k
theorem sX2_begin_6 (k : SW d mX2_begin X 7 [l0, l1, some (.int x), l3] (.int x :: st) σ) : SW d mX2_begin X 6 [l0, l1, some (.int x), l3] st σ := w_iload_n dX2_begin_6 rfl k
theorem sX2_begin_7 (hb : fI 2 q 1 = true) (k : SW d mX2_begin X 10 [l0, l1, l2, l3] st (up2 σ q 1 x)) : SW d mX2_begin X 7 [l0, l1, l2, l3] (.int x :: .ref q :: st) σ := w_putI 2 1 .int dX2_begin_7 fl_X2_15 hb (fun r h => by cases h; exact ⟨rfl, by decide +kernel⟩) rfl rfl k
theorem sX2_begin_10 (k : SW d mX2_begin X 11 [some (.ref a), l1, l2, l3] (.ref a :: st) σ) : SW d mX2_begin X 10 [some (.ref a), l1, l2, l3] st σ := w_aload_n dX2_begin_10 rfl k
theorem sX2_begin_11 (k : SW d mX2_begin X 12 [l0, l1, l2, l3] (.int (nI 0) :: st) σ) : SW d mX2_begin X 11 [l0, l1, l2, l3] st σ := w_iconst (nI 0) dX2_begin_11 (by decide) k
theorem sX2_begin_12 (hb : fI 2 q 2 = true) (k : SW d mX2_begin X 15 [l0, l1, l2, l3] st (up2 σ q 2 x)) : SW d mX2_begin X 12 [l0, l1, l2, l3] (.int x :: .ref q :: st) σ := w_putI 2 2 .int dX2_begin_12 fl_X2_18 hb (fun r h => by cases h; exact ⟨rfl, by decide +kernel⟩) rfl rfl k
theorem sX2_begin_15 (k : SW d mX2_begin X 16 [some (.ref a), l1, l2, l3] (.ref a :: st) σ) : SW d mX2_begin X 15 [some (.ref a), l1, l2, l3] st σ := w_aload_n dX2_begin_15 rfl k
theorem sX2_begin_16 (k : SW d mX2_begin X 17 [l0, l1, l2, l3] (.int (nI 0) :: st) σ) : SW d mX2_begin X 16 [l0, l1, l2, l3] st σ := w_iconst (nI 0) dX2_begin_16 (by decide) k
theorem sX2_begin_17 (hb : fI 2 q 3 = true) (k : SW d mX2_begin X 20 [l0, l1, l2, l3] st (up2 σ q 3 x)) : SW d mX2_begin X 17 [l0, l1, l2, l3] (.int x :: .ref q :: st) σ := w_putI 2 3 .int dX2_begin_17 fl_X2_21 hb (fun r h => by cases h; exact ⟨rfl, by decide +kernel⟩) rfl rfl k
theorem sX2_begin_20 (k : SW d mX2_begin X 21 [some (.ref a), l1, l2, l3] (.ref a :: st) σ) : SW d mX2_begin X 20 [some (.ref a), l1, l2, l3] st σ := w_aload_n dX2_begin_20 rfl k
theorem sX2_begin_21 (k : SW d mX2_begin X 22 [l0, l1, l2, some (.int x)] (.int x :: st) σ) : SW d mX2_begin X 21 [l0, l1, l2, some (.int x)] st σ := w_iload_n dX2_begin_21 rfl k
theorem sX2_begin_22 (hb : fI 2 q 4 = true) (k : SW d mX2_begin X 25 [l0, l1, l2, l3] st (up2 σ q 4 x)) : SW d mX2_begin X 22 [l0, l1, l2, l3] (.int x :: .ref q :: st) σ := w_putI 2 4 .int dX2_begin_22 fl_X2_24 hb (fun r h => by cases h; exact ⟨rfl, by decide +kernel⟩) rfl rfl k
theorem sX2_begin_25 (k : RetOK X none σ) : SW d mX2_begin X 25 [l0, l1, l2, l3] [] σ := w_vret dX2_begin_25 rfl k
theorem sX2_drop_0 (k : SW d mX2_drop X 1 [some (.ref a)] (.ref a :: st) σ) : SW d mX2_drop X 0 [some (.ref a)] st σ := w_aload_n dX2_drop_0 rfl k
theorem sX2_drop_1 (k : SW d mX2_drop X 2 [l0] (.int (-1) :: st) σ) : SW d mX2_drop X 1 [l0] st σ := w_iconst (-1) dX2_drop_1 (by decide) k
theorem sX2_drop_2 (k : SW d mX2_drop X 3 [l0] (.int (nI 0) :: st) σ) : SW d mX2_drop X 2 [l0] st σ := w_iconst (nI 0) dX2_drop_2 (by decide) k
theorem sX2_drop_3 (k : SW d mX2_drop X 4 [l0] (.int (nI 0) :: st) σ) : SW d mX2_drop X 3 [l0] st σ := w_iconst (nI 0) dX2_drop_3 (by decide) k
theorem sX2_drop_4 (hb : oC q = some 2) (hG : GoodF d1 mX2_begin [.ref q, w, w1, w2] σ none σ1) (hd : d1 < d) (hst : (st.map fun v => v.category).sum ≤ 8) (k : SW d mX2_drop X 7 [l0] st σ1) : SW d mX2_drop X 4 [l0] (w2 :: w1 :: w :: .ref q :: st) σ := w_callV (as := [w, w1, w2]) dX2_drop_4 lk_X2_27 rfl ⟨_, _, hb, rfl, rfl⟩ hd hst hG (fun w s h => by rw [h.1, h.2]; exact k)
theorem sX2_drop_4g (hb : oC q = some 2) (hG : Good d1 mX2_begin [.ref q, w, w1, w2] σ Qx) (hd : d1 < d) (hst : (st.map fun v => v.category).sum ≤ 8) (k : ∀ v s, Qx v s → SW d mX2_drop X 7 [l0] (v.toList ++ st) s) : SW d mX2_drop X 4 [l0] (w2 :: w1 :: w :: .ref q :: st) σ := w_callV (as := [w, w1, w2]) dX2_drop_4 lk_X2_27 rfl ⟨_, _, hb, rfl, rfl⟩ hd hst hG k
theorem sX2_drop_7 (k : RetOK X none σ) : SW d mX2_drop X 7 [l0] [] σ := w_vret dX2_drop_7 rfl k
theorem sX2_become_0 (k : SW d mX2_become X 1 [some (.ref a), l1] (.ref a :: st) σ) : SW d mX2_become X 0 [some (.ref a), l1] st σ := w_aload_n dX2_become_0 rfl k
theorem sX2_become_1 (k : SW d mX2_become X 2 [l0, some (.ref a)] (.ref a :: st) σ) : SW d mX2_become X 1 [l0, some (.ref a)] st σ := w_aload_n dX2_become_1 rfl k
theorem sX2_become_2 (hb : fI 2 q 0 = true) (hv : σ q 0 = v) (k : SW d mX2_become X 5 [l0, l1] (.int v :: st) σ) : SW d mX2_become X 2 [l0, l1] (.ref q :: st) σ := w_getI' 2 0 dX2_become_2 fl_X2_9 hb hv k
theorem sX2_become_5 (hb : fI 2 q 0 = true) (k : SW d mX2_become X 8 [l0, l1] st (up2 σ q 0 x)) : SW d mX2_become X 5 [l0, l1] (.int x :: .ref q :: st) σ := w_putI 2 0 .int dX2_become_5 fl_X2_9 hb (fun r h => by cases h; exact ⟨rfl, by decide +kernel⟩) rfl rfl k
theorem sX2_become_8 (k : SW d mX2_become X 9 [some (.ref a), l1] (.ref a :: st) σ) : SW d mX2_become X 8 [some (.ref a), l1] st σ := w_aload_n dX2_become_8 rfl k
theorem sX2_become_9 (k : SW d mX2_become X 10 [l0, some (.ref a)] (.ref a :: st) σ) : SW d mX2_become X 9 [l0, some (.ref a)] st σ := w_aload_n dX2_become_9 rfl k
theorem sX2_become_10 (hb : fI 2 q 1 = true) (hv : σ q 1 = v) (k : SW d mX2_become X 13 [l0, l1] (.int v :: st) σ) : SW d mX2_become X 10 [l0, l1] (.ref q :: st) σ := w_getI' 2 1 dX2_become_10 fl_X2_15 hb hv k
theorem sX2_become_13 (hb : fI 2 q 1 = true) (k : SW d mX2_become X 16 [l0, l1] st (up2 σ q 1 x)) : SW d mX2_become X 13 [l0, l1] (.int x :: .ref q :: st) σ := w_putI 2 1 .int dX2_become_13 fl_X2_15 hb (fun r h => by cases h; exact ⟨rfl, by decide +kernel⟩) rfl rfl k
theorem sX2_become_16 (k : SW d mX2_become X 17 [some (.ref a), l1] (.ref a :: st) σ) : SW d mX2_become X 16 [some (.ref a), l1] st σ := w_aload_n dX2_become_16 rfl k
theorem sX2_become_17 (k : SW d mX2_become X 18 [l0, some (.ref a)] (.ref a :: st) σ) : SW d mX2_become X 17 [l0, some (.ref a)] st σ := w_aload_n dX2_become_17 rfl k
theorem sX2_become_18 (hb : fI 2 q 2 = true) (hv : σ q 2 = v) (k : SW d mX2_become X 21 [l0, l1] (.int v :: st) σ) : SW d mX2_become X 18 [l0, l1] (.ref q :: st) σ := w_getI' 2 2 dX2_become_18 fl_X2_18 hb hv k
theorem sX2_become_21 (hb : fI 2 q 2 = true) (k : SW d mX2_become X 24 [l0, l1] st (up2 σ q 2 x)) : SW d mX2_become X 21 [l0, l1] (.int x :: .ref q :: st) σ := w_putI 2 2 .int dX2_become_21 fl_X2_18 hb (fun r h => by cases h; exact ⟨rfl, by decide +kernel⟩) rfl rfl k
theorem sX2_become_24 (k : SW d mX2_become X 25 [some (.ref a), l1] (.ref a :: st) σ) : SW d mX2_become X 24 [some (.ref a), l1] st σ := w_aload_n dX2_become_24 rfl k
theorem sX2_become_25 (k : SW d mX2_become X 26 [l0, some (.ref a)] (.ref a :: st) σ) : SW d mX2_become X 25 [l0, some (.ref a)] st σ := w_aload_n dX2_become_25 rfl k
theorem sX2_become_26 (hb : fI 2 q 3 = true) (hv : σ q 3 = v) (k : SW d mX2_become X 29 [l0, l1] (.int v :: st) σ) : SW d mX2_become X 26 [l0, l1] (.ref q :: st) σ := w_getI' 2 3 dX2_become_26 fl_X2_21 hb hv k
theorem sX2_become_29 (hb : fI 2 q 3 = true) (k : SW d mX2_become X 32 [l0, l1] st (up2 σ q 3 x)) : SW d mX2_become X 29 [l0, l1] (.int x :: .ref q :: st) σ := w_putI 2 3 .int dX2_become_29 fl_X2_21 hb (fun r h => by cases h; exact ⟨rfl, by decide +kernel⟩) rfl rfl k
theorem sX2_become_32 (k : SW d mX2_become X 33 [some (.ref a), l1] (.ref a :: st) σ) : SW d mX2_become X 32 [some (.ref a), l1] st σ := w_aload_n dX2_become_32 rfl k
theorem sX2_become_33 (k : SW d mX2_become X 34 [l0, some (.ref a)] (.ref a :: st) σ) : SW d mX2_become X 33 [l0, some (.ref a)] st σ := w_aload_n dX2_become_33 rfl k
theorem sX2_become_34 (hb : fI 2 q 4 = true) (hv : σ q 4 = v) (k : SW d mX2_become X 37 [l0, l1] (.int v :: st) σ) : SW d mX2_become X 34 [l0, l1] (.ref q :: st) σ := w_getI' 2 4 dX2_become_34 fl_X2_24 hb hv k
theorem sX2_become_37 (hb : fI 2 q 4 = true) (k : SW d mX2_become X 40 [l0, l1] st (up2 σ q 4 x)) : SW d mX2_become X 37 [l0, l1] (.int x :: .ref q :: st) σ := w_putI 2 4 .int dX2_become_37 fl_X2_24 hb (fun r h => by cases h; exact ⟨rfl, by decide +kernel⟩) rfl rfl k
theorem sX2_become_40 (k : RetOK X none σ) : SW d mX2_become X 40 [l0, l1] [] σ := w_vret dX2_become_40 rfl k
theorem sX2_leave_0 (k : SW d mX2_leave X 1 [some (.ref a), l1, l2] (.ref a :: st) σ) : SW d mX2_leave X 0 [some (.ref a), l1, l2] st σ := w_aload_n dX2_leave_0 rfl k
theorem sX2_leave_1 (h : w.category = 1) (k : SW d mX2_leave X 2 [l0, l1, l2] (w :: w :: st) σ) : SW d mX2_leave X 1 [l0, l1, l2] (w :: st) σ := w_dup dX2_leave_1 h k
theorem sX2_leave_2 (hb : fI 2 q 4 = true) (hv : σ q 4 = v) (k : SW d mX2_leave X 5 [l0, l1, l2] (.int v :: st) σ) : SW d mX2_leave X 2 [l0, l1, l2] (.ref q :: st) σ := w_getI' 2 4 dX2_leave_2 fl_X2_24 hb hv k
theorem sX2_leave_5 (k : SW d mX2_leave X 6 [l0, some (.int x), l2] (.int x :: st) σ) : SW d mX2_leave X 5 [l0, some (.int x), l2] st σ := w_iload_n dX2_leave_5 rfl k
theorem sX2_leave_6o (k : SW d mX2_leave X 7 [l0, l1, l2] (.int (nI (a % 2)) :: st) σ) : SW d mX2_leave X 6 [l0, l1, l2] (.int (nI 1) :: .int (nI a) :: st) σ := w_iand1 dX2_leave_6 k
theorem sX2_leave_6c (k : SW d mX2_leave X 7 [l0, l1, l2] (.int (nI (sd a b)) :: st) σ) : SW d mX2_leave X 6 [l0, l1, l2] (.int (nI b ^^^ (-1)) :: .int (nI a) :: st) σ := w_iandC dX2_leave_6 k
theorem sX2_leave_6n (k : SW d mX2_leave X 7 [l0, l1, l2] (.int (nI (a &&& b)) :: st) σ) : SW d mX2_leave X 6 [l0, l1, l2] (.int (nI b) :: .int (nI a) :: st) σ := w_iandN dX2_leave_6 k
theorem sX2_leave_6 (k : SW d mX2_leave X 7 [l0, l1, l2] (.int (x &&& y) :: st) σ) : SW d mX2_leave X 6 [l0, l1, l2] (.int y :: .int x :: st) σ := w_iand dX2_leave_6 k
theorem sX2_leave_7 (hb : fI 2 q 4 = true) (k : SW d mX2_leave X 10 [l0, l1, l2] st (up2 σ q 4 x)) : SW d mX2_leave X 7 [l0, l1, l2] (.int x :: .ref q :: st) σ := w_putI 2 4 .int dX2_leave_7 fl_X2_24 hb (fun r h => by cases h; exact ⟨rfl, by decide +kernel⟩) rfl rfl k
theorem sX2_leave_10 (k : SW d mX2_leave X 11 [some (.ref a), l1, l2] (.ref a :: st) σ) : SW d mX2_leave X 10 [some (.ref a), l1, l2] st σ := w_aload_n dX2_leave_10 rfl k
theorem sX2_leave_11 (h : w.category = 1) (k : SW d mX2_leave X 12 [l0, l1, l2] (w :: w :: st) σ) : SW d mX2_leave X 11 [l0, l1, l2] (w :: st) σ := w_dup dX2_leave_11 h k
theorem sX2_leave_12 (hb : fI 2 q 2 = true) (hv : σ q 2 = v) (k : SW d mX2_leave X 15 [l0, l1, l2] (.int v :: st) σ) : SW d mX2_leave X 12 [l0, l1, l2] (.ref q :: st) σ := w_getI' 2 2 dX2_leave_12 fl_X2_18 hb hv k
theorem sX2_leave_15 (k : SW d mX2_leave X 16 [l0, l1, some (.int x)] (.int x :: st) σ) : SW d mX2_leave X 15 [l0, l1, some (.int x)] st σ := w_iload_n dX2_leave_15 rfl k
theorem sX2_leave_16n (k : SW d mX2_leave X 17 [l0, l1, l2] (.int (nI (a + b)) :: st) σ) : SW d mX2_leave X 16 [l0, l1, l2] (.int (nI b) :: .int (nI a) :: st) σ := w_iaddN dX2_leave_16 k
theorem sX2_leave_16 (k : SW d mX2_leave X 17 [l0, l1, l2] (.int (x + y) :: st) σ) : SW d mX2_leave X 16 [l0, l1, l2] (.int y :: .int x :: st) σ := w_iadd dX2_leave_16 k
theorem sX2_leave_17 (hb : fI 2 q 2 = true) (k : SW d mX2_leave X 20 [l0, l1, l2] st (up2 σ q 2 x)) : SW d mX2_leave X 17 [l0, l1, l2] (.int x :: .ref q :: st) σ := w_putI 2 2 .int dX2_leave_17 fl_X2_18 hb (fun r h => by cases h; exact ⟨rfl, by decide +kernel⟩) rfl rfl k
theorem sX2_leave_20 (k : SW d mX2_leave X 21 [some (.ref a), l1, l2] (.ref a :: st) σ) : SW d mX2_leave X 20 [some (.ref a), l1, l2] st σ := w_aload_n dX2_leave_20 rfl k
theorem sX2_leave_21 (h : w.category = 1) (k : SW d mX2_leave X 22 [l0, l1, l2] (w :: w :: st) σ) : SW d mX2_leave X 21 [l0, l1, l2] (w :: st) σ := w_dup dX2_leave_21 h k
theorem sX2_leave_22 (hb : fI 2 q 3 = true) (hv : σ q 3 = v) (k : SW d mX2_leave X 25 [l0, l1, l2] (.int v :: st) σ) : SW d mX2_leave X 22 [l0, l1, l2] (.ref q :: st) σ := w_getI' 2 3 dX2_leave_22 fl_X2_21 hb hv k
theorem sX2_leave_25 (k : SW d mX2_leave X 26 [l0, l1, l2] (.int (nI 1) :: st) σ) : SW d mX2_leave X 25 [l0, l1, l2] st σ := w_iconst (nI 1) dX2_leave_25 (by decide) k
theorem sX2_leave_26n (k : SW d mX2_leave X 27 [l0, l1, l2] (.int (nI (a + b)) :: st) σ) : SW d mX2_leave X 26 [l0, l1, l2] (.int (nI b) :: .int (nI a) :: st) σ := w_iaddN dX2_leave_26 k
theorem sX2_leave_26 (k : SW d mX2_leave X 27 [l0, l1, l2] (.int (x + y) :: st) σ) : SW d mX2_leave X 26 [l0, l1, l2] (.int y :: .int x :: st) σ := w_iadd dX2_leave_26 k
theorem sX2_leave_27 (hb : fI 2 q 3 = true) (k : SW d mX2_leave X 30 [l0, l1, l2] st (up2 σ q 3 x)) : SW d mX2_leave X 27 [l0, l1, l2] (.int x :: .ref q :: st) σ := w_putI 2 3 .int dX2_leave_27 fl_X2_21 hb (fun r h => by cases h; exact ⟨rfl, by decide +kernel⟩) rfl rfl k
theorem sX2_leave_30 (k : RetOK X none σ) : SW d mX2_leave X 30 [l0, l1, l2] [] σ := w_vret dX2_leave_30 rfl k
theorem sX2_hear_0 (k : SW d mX2_hear X 1 [l0, l1, l2] (.int (nI 1) :: st) σ) : SW d mX2_hear X 0 [l0, l1, l2] st σ := w_iconst (nI 1) dX2_hear_0 (by decide) k
theorem sX2_hear_1 (k : SW d mX2_hear X 2 [l0, some (.int x), l2] (.int x :: st) σ) : SW d mX2_hear X 1 [l0, some (.int x), l2] st σ := w_iload_n dX2_hear_1 rfl k
theorem sX2_hear_2n (h : b < 32) (k : SW d mX2_hear X 3 [l0, l1, l2] (.int (nI (2 ^ b)) :: st) σ) : SW d mX2_hear X 2 [l0, l1, l2] (.int (nI b) :: .int (nI 1) :: st) σ := w_ishl1 dX2_hear_2 h k
theorem sX2_hear_2 (k : SW d mX2_hear X 3 [l0, l1, l2] (.int (x <<< (y &&& 31)) :: st) σ) : SW d mX2_hear X 2 [l0, l1, l2] (.int y :: .int x :: st) σ := w_ishl dX2_hear_2 k
theorem sX2_hear_3 (k : SW d mX2_hear X 4 [l0, l1, some (.int x)] st σ) : SW d mX2_hear X 3 [l0, l1, l2] (.int x :: st) σ := w_istore_n dX2_hear_3 (Nat.le_of_ble_eq_true rfl) (Nat.le_of_ble_eq_true rfl) k
theorem sX2_hear_4 (k : SW d mX2_hear X 5 [some (.ref a), l1, l2] (.ref a :: st) σ) : SW d mX2_hear X 4 [some (.ref a), l1, l2] st σ := w_aload_n dX2_hear_4 rfl k
theorem sX2_hear_5 (k : SW d mX2_hear X 6 [l0, some (.int x), l2] (.int x :: st) σ) : SW d mX2_hear X 5 [l0, some (.int x), l2] st σ := w_iload_n dX2_hear_5 rfl k
theorem sX2_hear_6 (k : SW d mX2_hear X 7 [some (.ref a), l1, l2] (.ref a :: st) σ) : SW d mX2_hear X 6 [some (.ref a), l1, l2] st σ := w_aload_n dX2_hear_6 rfl k
theorem sX2_hear_7 (hb : fI 2 q 0 = true) (hv : σ q 0 = v) (k : SW d mX2_hear X 10 [l0, l1, l2] (.int v :: st) σ) : SW d mX2_hear X 7 [l0, l1, l2] (.ref q :: st) σ := w_getI' 2 0 dX2_hear_7 fl_X2_9 hb hv k
theorem sX2_hear_10n (ha : a < 2147483648) (hb : b < 2147483648) (k1 : a ≠ b → SW d mX2_hear X 17 [l0, l1, l2] st σ) (k2 : a = b → SW d mX2_hear X 13 [l0, l1, l2] st σ) : SW d mX2_hear X 10 [l0, l1, l2] (.int (nI b) :: .int (nI a) :: st) σ := w_icmp_neN 17 dX2_hear_10 (by decide) ha hb k1 k2
theorem sX2_hear_10 (k1 : ¬ x = y → SW d mX2_hear X 17 [l0, l1, l2] st σ) (k2 : x = y → SW d mX2_hear X 13 [l0, l1, l2] st σ) : SW d mX2_hear X 10 [l0, l1, l2] (.int y :: .int x :: st) σ := w_icmp_ne 17 dX2_hear_10 (by decide) k1 k2
theorem sX2_hear_13 (k : SW d mX2_hear X 14 [l0, l1, some (.int x)] (.int x :: st) σ) : SW d mX2_hear X 13 [l0, l1, some (.int x)] st σ := w_iload_n dX2_hear_13 rfl k
theorem sX2_hear_14 (k : SW d mX2_hear X 25 [l0, l1, l2] st σ) : SW d mX2_hear X 14 [l0, l1, l2] st σ := w_goto 25 dX2_hear_14 (by decide) k
theorem sX2_hear_17 (k : SW d mX2_hear X 18 [some (.ref a), l1, l2] (.ref a :: st) σ) : SW d mX2_hear X 17 [some (.ref a), l1, l2] st σ := w_aload_n dX2_hear_17 rfl k
theorem sX2_hear_18 (hb : fI 2 q 4 = true) (hv : σ q 4 = v) (k : SW d mX2_hear X 21 [l0, l1, l2] (.int v :: st) σ) : SW d mX2_hear X 18 [l0, l1, l2] (.ref q :: st) σ := w_getI' 2 4 dX2_hear_18 fl_X2_24 hb hv k
theorem sX2_hear_21 (k : SW d mX2_hear X 22 [l0, l1, some (.int x)] (.int x :: st) σ) : SW d mX2_hear X 21 [l0, l1, some (.int x)] st σ := w_iload_n dX2_hear_21 rfl k
theorem sX2_hear_22 (k : SW d mX2_hear X 23 [l0, l1, l2] (.int (-1) :: st) σ) : SW d mX2_hear X 22 [l0, l1, l2] st σ := w_iconst (-1) dX2_hear_22 (by decide) k
theorem sX2_hear_23 (k : SW d mX2_hear X 24 [l0, l1, l2] (.int (x ^^^ y) :: st) σ) : SW d mX2_hear X 23 [l0, l1, l2] (.int y :: .int x :: st) σ := w_ixor dX2_hear_23 k
theorem sX2_hear_24o (k : SW d mX2_hear X 25 [l0, l1, l2] (.int (nI (a % 2)) :: st) σ) : SW d mX2_hear X 24 [l0, l1, l2] (.int (nI 1) :: .int (nI a) :: st) σ := w_iand1 dX2_hear_24 k
theorem sX2_hear_24c (k : SW d mX2_hear X 25 [l0, l1, l2] (.int (nI (sd a b)) :: st) σ) : SW d mX2_hear X 24 [l0, l1, l2] (.int (nI b ^^^ (-1)) :: .int (nI a) :: st) σ := w_iandC dX2_hear_24 k
theorem sX2_hear_24n (k : SW d mX2_hear X 25 [l0, l1, l2] (.int (nI (a &&& b)) :: st) σ) : SW d mX2_hear X 24 [l0, l1, l2] (.int (nI b) :: .int (nI a) :: st) σ := w_iandN dX2_hear_24 k
theorem sX2_hear_24 (k : SW d mX2_hear X 25 [l0, l1, l2] (.int (x &&& y) :: st) σ) : SW d mX2_hear X 24 [l0, l1, l2] (.int y :: .int x :: st) σ := w_iand dX2_hear_24 k
theorem sX2_hear_25 (hb : fI 2 q 4 = true) (k : SW d mX2_hear X 28 [l0, l1, l2] st (up2 σ q 4 x)) : SW d mX2_hear X 25 [l0, l1, l2] (.int x :: .ref q :: st) σ := w_putI 2 4 .int dX2_hear_25 fl_X2_24 hb (fun r h => by cases h; exact ⟨rfl, by decide +kernel⟩) rfl rfl k
theorem sX2_hear_28 (k : RetOK X none σ) : SW d mX2_hear X 28 [l0, l1, l2] [] σ := w_vret dX2_hear_28 rfl k
theorem sX2_isHad_0 (k : SW d mX2_isHad X 1 [some (.ref a)] (.ref a :: st) σ) : SW d mX2_isHad X 0 [some (.ref a)] st σ := w_aload_n dX2_isHad_0 rfl k
theorem sX2_isHad_1 (hb : fI 2 q 4 = true) (hv : σ q 4 = v) (k : SW d mX2_isHad X 4 [l0] (.int v :: st) σ) : SW d mX2_isHad X 1 [l0] (.ref q :: st) σ := w_getI' 2 4 dX2_isHad_1 fl_X2_24 hb hv k
theorem sX2_isHad_4 (hG : GoodF d1 mJ6_bitCount_0f7a4 [w] σ (some r) σ1) (hd : d1 < d) (hst : (st.map fun v => v.category).sum ≤ 8) (k : SW d mX2_isHad X 7 [l0] (r :: st) σ1) : SW d mX2_isHad X 4 [l0] (w :: st) σ := w_callS (as := [w]) dX2_isHad_4 lk_X2_31 rfl hd hst hG (fun w s h => by rw [h.1, h.2]; exact k)
theorem sX2_isHad_4g (hG : Good d1 mJ6_bitCount_0f7a4 [w] σ Qx) (hd : d1 < d) (hst : (st.map fun v => v.category).sum ≤ 8) (k : ∀ v s, Qx v s → SW d mX2_isHad X 7 [l0] (v.toList ++ st) s) : SW d mX2_isHad X 4 [l0] (w :: st) σ := w_callS (as := [w]) dX2_isHad_4 lk_X2_31 rfl hd hst hG k
theorem sX2_isHad_7 (k : SW d mX2_isHad X 8 [l0] (.int (nI 1) :: st) σ) : SW d mX2_isHad X 7 [l0] st σ := w_iconst (nI 1) dX2_isHad_7 (by decide) k
theorem sX2_isHad_8n (ha : a < 2147483648) (hb : b < 2147483648) (k1 : a ≠ b → SW d mX2_isHad X 15 [l0] st σ) (k2 : a = b → SW d mX2_isHad X 11 [l0] st σ) : SW d mX2_isHad X 8 [l0] (.int (nI b) :: .int (nI a) :: st) σ := w_icmp_neN 15 dX2_isHad_8 (by decide) ha hb k1 k2
theorem sX2_isHad_8 (k1 : ¬ x = y → SW d mX2_isHad X 15 [l0] st σ) (k2 : x = y → SW d mX2_isHad X 11 [l0] st σ) : SW d mX2_isHad X 8 [l0] (.int y :: .int x :: st) σ := w_icmp_ne 15 dX2_isHad_8 (by decide) k1 k2
theorem sX2_isHad_11 (k : SW d mX2_isHad X 12 [l0] (.int (nI 1) :: st) σ) : SW d mX2_isHad X 11 [l0] st σ := w_iconst (nI 1) dX2_isHad_11 (by decide) k
theorem sX2_isHad_12 (k : SW d mX2_isHad X 16 [l0] st σ) : SW d mX2_isHad X 12 [l0] st σ := w_goto 16 dX2_isHad_12 (by decide) k
theorem sX2_isHad_15 (k : SW d mX2_isHad X 16 [l0] (.int (nI 0) :: st) σ) : SW d mX2_isHad X 15 [l0] st σ := w_iconst (nI 0) dX2_isHad_15 (by decide) k
theorem sX2_isHad_16 (hn : narrow .boolean (.int x) = .int x) (k : RetOK X (some (.int x)) σ) : SW d mX2_isHad X 16 [l0] [.int x] σ := w_iret dX2_isHad_16 .boolean rfl hn k
theorem sX2_reward_0 (k : SW d mX2_reward X 1 [some (.ref a)] (.ref a :: st) σ) : SW d mX2_reward X 0 [some (.ref a)] st σ := w_aload_n dX2_reward_0 rfl k
theorem sX2_reward_1 (hb : oC q = some 2) (hG : GoodF d1 mX2_isHad [.ref q] σ (some r) σ1) (hd : d1 < d) (hst : (st.map fun v => v.category).sum ≤ 8) (k : SW d mX2_reward X 4 [l0] (r :: st) σ1) : SW d mX2_reward X 1 [l0] (.ref q :: st) σ := w_callV (as := []) dX2_reward_1 lk_X2_37 rfl ⟨_, _, hb, rfl, rfl⟩ hd hst hG (fun w s h => by rw [h.1, h.2]; exact k)
theorem sX2_reward_1g (hb : oC q = some 2) (hG : Good d1 mX2_isHad [.ref q] σ Qx) (hd : d1 < d) (hst : (st.map fun v => v.category).sum ≤ 8) (k : ∀ v s, Qx v s → SW d mX2_reward X 4 [l0] (v.toList ++ st) s) : SW d mX2_reward X 1 [l0] (.ref q :: st) σ := w_callV (as := []) dX2_reward_1 lk_X2_37 rfl ⟨_, _, hb, rfl, rfl⟩ hd hst hG k
theorem sX2_reward_4b (k1 : ¬ pp → SW d mX2_reward X 17 [l0] st σ) (k2 : pp → SW d mX2_reward X 7 [l0] st σ) : SW d mX2_reward X 4 [l0] (.int (bI pp) :: st) σ := w_if_eqB 17 dX2_reward_4 (by decide) k1 k2
theorem sX2_reward_4n (ha : a < 2147483648) (k1 : a = 0 → SW d mX2_reward X 17 [l0] st σ) (k2 : a ≠ 0 → SW d mX2_reward X 7 [l0] st σ) : SW d mX2_reward X 4 [l0] (.int (nI a) :: st) σ := w_if_eqN 17 dX2_reward_4 (by decide) ha k1 k2
theorem sX2_reward_4 (k1 : x = 0 → SW d mX2_reward X 17 [l0] st σ) (k2 : ¬ x = 0 → SW d mX2_reward X 7 [l0] st σ) : SW d mX2_reward X 4 [l0] (.int x :: st) σ := w_if_eq 17 dX2_reward_4 (by decide) k1 k2
theorem sX2_reward_7 (k : SW d mX2_reward X 9 [l0] (.int (nI 60) :: st) σ) : SW d mX2_reward X 7 [l0] st σ := w_bipush (nI 60) dX2_reward_7 (by decide) k
theorem sX2_reward_9 (k : SW d mX2_reward X 10 [some (.ref a)] (.ref a :: st) σ) : SW d mX2_reward X 9 [some (.ref a)] st σ := w_aload_n dX2_reward_9 rfl k
theorem sX2_reward_10 (hb : fI 2 q 2 = true) (hv : σ q 2 = v) (k : SW d mX2_reward X 13 [l0] (.int v :: st) σ) : SW d mX2_reward X 10 [l0] (.ref q :: st) σ := w_getI' 2 2 dX2_reward_10 fl_X2_18 hb hv k
theorem sX2_reward_13n (h : b ≤ a) (k : SW d mX2_reward X 14 [l0] (.int (nI (a - b)) :: st) σ) : SW d mX2_reward X 13 [l0] (.int (nI b) :: .int (nI a) :: st) σ := w_isubN dX2_reward_13 h k
theorem sX2_reward_13 (k : SW d mX2_reward X 14 [l0] (.int (x - y) :: st) σ) : SW d mX2_reward X 13 [l0] (.int y :: .int x :: st) σ := w_isub dX2_reward_13 k
theorem sX2_reward_14 (k : SW d mX2_reward X 18 [l0] st σ) : SW d mX2_reward X 14 [l0] st σ := w_goto 18 dX2_reward_14 (by decide) k
theorem sX2_reward_17 (k : SW d mX2_reward X 18 [l0] (.int (nI 0) :: st) σ) : SW d mX2_reward X 17 [l0] st σ := w_iconst (nI 0) dX2_reward_17 (by decide) k
theorem sX2_reward_18 (k : RetOK X (some (.int x)) σ) : SW d mX2_reward X 18 [l0] [.int x] σ := w_iret dX2_reward_18 .int rfl rfl k
theorem sX2_fact_0 (k : SW d mX2_fact X 1 [l0, some (.int x)] (.int x :: st) σ) : SW d mX2_fact X 0 [l0, some (.int x)] st σ := w_iload_n dX2_fact_0 rfl k
theorem sX2_fact_1_c0 (k : SW d mX2_fact X 36 [l0, l1] st σ) : SW d mX2_fact X 1 [l0, l1] (.int (nI 0) :: st) σ := w_tabIn 36 dX2_fact_1 (by decide) (by decide) (off := 35) (by decide) (by decide) k
theorem sX2_fact_1_c1 (k : SW d mX2_fact X 41 [l0, l1] st σ) : SW d mX2_fact X 1 [l0, l1] (.int (nI 1) :: st) σ := w_tabIn 41 dX2_fact_1 (by decide) (by decide) (off := 40) (by decide) (by decide) k
theorem sX2_fact_1_c2 (k : SW d mX2_fact X 46 [l0, l1] st σ) : SW d mX2_fact X 1 [l0, l1] (.int (nI 2) :: st) σ := w_tabIn 46 dX2_fact_1 (by decide) (by decide) (off := 45) (by decide) (by decide) k
theorem sX2_fact_1_c3 (k : SW d mX2_fact X 51 [l0, l1] st σ) : SW d mX2_fact X 1 [l0, l1] (.int (nI 3) :: st) σ := w_tabIn 51 dX2_fact_1 (by decide) (by decide) (off := 50) (by decide) (by decide) k
theorem sX2_fact_1_c4 (k : SW d mX2_fact X 56 [l0, l1] st σ) : SW d mX2_fact X 1 [l0, l1] (.int (nI 4) :: st) σ := w_tabIn 56 dX2_fact_1 (by decide) (by decide) (off := 55) (by decide) (by decide) k
theorem sX2_fact_1_d (h : x.toInt < 0 ∨ 4 < x.toInt) (k : SW d mX2_fact X 61 [l0, l1] st σ) : SW d mX2_fact X 1 [l0, l1] (.int x :: st) σ := w_tabOut 61 dX2_fact_1 h (by decide) k
theorem sX2_fact_36 (k : SW d mX2_fact X 37 [some (.ref a), l1] (.ref a :: st) σ) : SW d mX2_fact X 36 [some (.ref a), l1] st σ := w_aload_n dX2_fact_36 rfl k
theorem sX2_fact_37 (hb : fI 2 q 0 = true) (hv : σ q 0 = v) (k : SW d mX2_fact X 40 [l0, l1] (.int v :: st) σ) : SW d mX2_fact X 37 [l0, l1] (.ref q :: st) σ := w_getI' 2 0 dX2_fact_37 fl_X2_9 hb hv k
theorem sX2_fact_40 (k : RetOK X (some (.int x)) σ) : SW d mX2_fact X 40 [l0, l1] [.int x] σ := w_iret dX2_fact_40 .int rfl rfl k
theorem sX2_fact_41 (k : SW d mX2_fact X 42 [some (.ref a), l1] (.ref a :: st) σ) : SW d mX2_fact X 41 [some (.ref a), l1] st σ := w_aload_n dX2_fact_41 rfl k
theorem sX2_fact_42 (hb : fI 2 q 1 = true) (hv : σ q 1 = v) (k : SW d mX2_fact X 45 [l0, l1] (.int v :: st) σ) : SW d mX2_fact X 42 [l0, l1] (.ref q :: st) σ := w_getI' 2 1 dX2_fact_42 fl_X2_15 hb hv k
theorem sX2_fact_45 (k : RetOK X (some (.int x)) σ) : SW d mX2_fact X 45 [l0, l1] [.int x] σ := w_iret dX2_fact_45 .int rfl rfl k
theorem sX2_fact_46 (k : SW d mX2_fact X 47 [some (.ref a), l1] (.ref a :: st) σ) : SW d mX2_fact X 46 [some (.ref a), l1] st σ := w_aload_n dX2_fact_46 rfl k
theorem sX2_fact_47 (hb : fI 2 q 2 = true) (hv : σ q 2 = v) (k : SW d mX2_fact X 50 [l0, l1] (.int v :: st) σ) : SW d mX2_fact X 47 [l0, l1] (.ref q :: st) σ := w_getI' 2 2 dX2_fact_47 fl_X2_18 hb hv k
theorem sX2_fact_50 (k : RetOK X (some (.int x)) σ) : SW d mX2_fact X 50 [l0, l1] [.int x] σ := w_iret dX2_fact_50 .int rfl rfl k
theorem sX2_fact_51 (k : SW d mX2_fact X 52 [some (.ref a), l1] (.ref a :: st) σ) : SW d mX2_fact X 51 [some (.ref a), l1] st σ := w_aload_n dX2_fact_51 rfl k
theorem sX2_fact_52 (hb : fI 2 q 3 = true) (hv : σ q 3 = v) (k : SW d mX2_fact X 55 [l0, l1] (.int v :: st) σ) : SW d mX2_fact X 52 [l0, l1] (.ref q :: st) σ := w_getI' 2 3 dX2_fact_52 fl_X2_21 hb hv k
theorem sX2_fact_55 (k : RetOK X (some (.int x)) σ) : SW d mX2_fact X 55 [l0, l1] [.int x] σ := w_iret dX2_fact_55 .int rfl rfl k
theorem sX2_fact_56 (k : SW d mX2_fact X 57 [some (.ref a), l1] (.ref a :: st) σ) : SW d mX2_fact X 56 [some (.ref a), l1] st σ := w_aload_n dX2_fact_56 rfl k
theorem sX2_fact_57 (hb : fI 2 q 4 = true) (hv : σ q 4 = v) (k : SW d mX2_fact X 60 [l0, l1] (.int v :: st) σ) : SW d mX2_fact X 57 [l0, l1] (.ref q :: st) σ := w_getI' 2 4 dX2_fact_57 fl_X2_24 hb hv k
theorem sX2_fact_60 (k : RetOK X (some (.int x)) σ) : SW d mX2_fact X 60 [l0, l1] [.int x] σ := w_iret dX2_fact_60 .int rfl rfl k
theorem sX2_fact_61 (k : SW d mX2_fact X 62 [some (.ref a), l1] (.ref a :: st) σ) : SW d mX2_fact X 61 [some (.ref a), l1] st σ := w_aload_n dX2_fact_61 rfl k
theorem sX2_fact_62 (hb : oC q = some 2) (hG : GoodF d1 mX2_isHad [.ref q] σ (some r) σ1) (hd : d1 < d) (hst : (st.map fun v => v.category).sum ≤ 8) (k : SW d mX2_fact X 65 [l0, l1] (r :: st) σ1) : SW d mX2_fact X 62 [l0, l1] (.ref q :: st) σ := w_callV (as := []) dX2_fact_62 lk_X2_37 rfl ⟨_, _, hb, rfl, rfl⟩ hd hst hG (fun w s h => by rw [h.1, h.2]; exact k)
theorem sX2_fact_62g (hb : oC q = some 2) (hG : Good d1 mX2_isHad [.ref q] σ Qx) (hd : d1 < d) (hst : (st.map fun v => v.category).sum ≤ 8) (k : ∀ v s, Qx v s → SW d mX2_fact X 65 [l0, l1] (v.toList ++ st) s) : SW d mX2_fact X 62 [l0, l1] (.ref q :: st) σ := w_callV (as := []) dX2_fact_62 lk_X2_37 rfl ⟨_, _, hb, rfl, rfl⟩ hd hst hG k
theorem sX2_fact_65b (k1 : ¬ pp → SW d mX2_fact X 72 [l0, l1] st σ) (k2 : pp → SW d mX2_fact X 68 [l0, l1] st σ) : SW d mX2_fact X 65 [l0, l1] (.int (bI pp) :: st) σ := w_if_eqB 72 dX2_fact_65 (by decide) k1 k2
theorem sX2_fact_65n (ha : a < 2147483648) (k1 : a = 0 → SW d mX2_fact X 72 [l0, l1] st σ) (k2 : a ≠ 0 → SW d mX2_fact X 68 [l0, l1] st σ) : SW d mX2_fact X 65 [l0, l1] (.int (nI a) :: st) σ := w_if_eqN 72 dX2_fact_65 (by decide) ha k1 k2
theorem sX2_fact_65 (k1 : x = 0 → SW d mX2_fact X 72 [l0, l1] st σ) (k2 : ¬ x = 0 → SW d mX2_fact X 68 [l0, l1] st σ) : SW d mX2_fact X 65 [l0, l1] (.int x :: st) σ := w_if_eq 72 dX2_fact_65 (by decide) k1 k2
theorem sX2_fact_68 (k : SW d mX2_fact X 69 [l0, l1] (.int (nI 1) :: st) σ) : SW d mX2_fact X 68 [l0, l1] st σ := w_iconst (nI 1) dX2_fact_68 (by decide) k
theorem sX2_fact_69 (k : SW d mX2_fact X 73 [l0, l1] st σ) : SW d mX2_fact X 69 [l0, l1] st σ := w_goto 73 dX2_fact_69 (by decide) k
theorem sX2_fact_72 (k : SW d mX2_fact X 73 [l0, l1] (.int (nI 0) :: st) σ) : SW d mX2_fact X 72 [l0, l1] st σ := w_iconst (nI 0) dX2_fact_72 (by decide) k
theorem sX2_fact_73 (k : RetOK X (some (.int x)) σ) : SW d mX2_fact X 73 [l0, l1] [.int x] σ := w_iret dX2_fact_73 .int rfl rfl k
theorem sJ6_bitCount_0f7a4_0 (k : SW d mJ6_bitCount_0f7a4 X 1 [some (.int x)] (.int x :: st) σ) : SW d mJ6_bitCount_0f7a4 X 0 [some (.int x)] st σ := w_iload_n dJ6_bitCount_0f7a4_0 rfl k
theorem sJ6_bitCount_0f7a4_1 (k : SW d mJ6_bitCount_0f7a4 X 2 [some (.int x)] (.int x :: st) σ) : SW d mJ6_bitCount_0f7a4 X 1 [some (.int x)] st σ := w_iload_n dJ6_bitCount_0f7a4_1 rfl k
theorem sJ6_bitCount_0f7a4_2 (k : SW d mJ6_bitCount_0f7a4 X 3 [l0] (.int (nI 1) :: st) σ) : SW d mJ6_bitCount_0f7a4 X 2 [l0] st σ := w_iconst (nI 1) dJ6_bitCount_0f7a4_2 (by decide) k
theorem sJ6_bitCount_0f7a4_3n (h : b < 32) (ha : a < 4294967296) (k : SW d mJ6_bitCount_0f7a4 X 4 [l0] (.int (nI (a / 2 ^ b)) :: st) σ) : SW d mJ6_bitCount_0f7a4 X 3 [l0] (.int (nI b) :: .int (nI a) :: st) σ := w_iushrN dJ6_bitCount_0f7a4_3 h ha k
theorem sJ6_bitCount_0f7a4_3 (k : SW d mJ6_bitCount_0f7a4 X 4 [l0] (.int ((x.toUInt32 >>> (y.toUInt32 &&& Int32.toUInt32 31)).toInt32) :: st) σ) : SW d mJ6_bitCount_0f7a4 X 3 [l0] (.int y :: .int x :: st) σ := w_iushr dJ6_bitCount_0f7a4_3 k
theorem sJ6_bitCount_0f7a4_4 (k : SW d mJ6_bitCount_0f7a4 X 7 [l0] (.int (nI 1431655765) :: st) σ) : SW d mJ6_bitCount_0f7a4 X 4 [l0] st σ := w_ldcw dJ6_bitCount_0f7a4_4 kc_J6_265 k
theorem sJ6_bitCount_0f7a4_7o (k : SW d mJ6_bitCount_0f7a4 X 8 [l0] (.int (nI (a % 2)) :: st) σ) : SW d mJ6_bitCount_0f7a4 X 7 [l0] (.int (nI 1) :: .int (nI a) :: st) σ := w_iand1 dJ6_bitCount_0f7a4_7 k
theorem sJ6_bitCount_0f7a4_7c (k : SW d mJ6_bitCount_0f7a4 X 8 [l0] (.int (nI (sd a b)) :: st) σ) : SW d mJ6_bitCount_0f7a4 X 7 [l0] (.int (nI b ^^^ (-1)) :: .int (nI a) :: st) σ := w_iandC dJ6_bitCount_0f7a4_7 k
theorem sJ6_bitCount_0f7a4_7n (k : SW d mJ6_bitCount_0f7a4 X 8 [l0] (.int (nI (a &&& b)) :: st) σ) : SW d mJ6_bitCount_0f7a4 X 7 [l0] (.int (nI b) :: .int (nI a) :: st) σ := w_iandN dJ6_bitCount_0f7a4_7 k
theorem sJ6_bitCount_0f7a4_7 (k : SW d mJ6_bitCount_0f7a4 X 8 [l0] (.int (x &&& y) :: st) σ) : SW d mJ6_bitCount_0f7a4 X 7 [l0] (.int y :: .int x :: st) σ := w_iand dJ6_bitCount_0f7a4_7 k
theorem sJ6_bitCount_0f7a4_8n (h : b ≤ a) (k : SW d mJ6_bitCount_0f7a4 X 9 [l0] (.int (nI (a - b)) :: st) σ) : SW d mJ6_bitCount_0f7a4 X 8 [l0] (.int (nI b) :: .int (nI a) :: st) σ := w_isubN dJ6_bitCount_0f7a4_8 h k
theorem sJ6_bitCount_0f7a4_8 (k : SW d mJ6_bitCount_0f7a4 X 9 [l0] (.int (x - y) :: st) σ) : SW d mJ6_bitCount_0f7a4 X 8 [l0] (.int y :: .int x :: st) σ := w_isub dJ6_bitCount_0f7a4_8 k
theorem sJ6_bitCount_0f7a4_9 (k : SW d mJ6_bitCount_0f7a4 X 10 [some (.int x)] st σ) : SW d mJ6_bitCount_0f7a4 X 9 [l0] (.int x :: st) σ := w_istore_n dJ6_bitCount_0f7a4_9 (Nat.le_of_ble_eq_true rfl) (Nat.le_of_ble_eq_true rfl) k
theorem sJ6_bitCount_0f7a4_10 (k : SW d mJ6_bitCount_0f7a4 X 11 [some (.int x)] (.int x :: st) σ) : SW d mJ6_bitCount_0f7a4 X 10 [some (.int x)] st σ := w_iload_n dJ6_bitCount_0f7a4_10 rfl k
theorem sJ6_bitCount_0f7a4_11 (k : SW d mJ6_bitCount_0f7a4 X 14 [l0] (.int (nI 858993459) :: st) σ) : SW d mJ6_bitCount_0f7a4 X 11 [l0] st σ := w_ldcw dJ6_bitCount_0f7a4_11 kc_J6_266 k
theorem sJ6_bitCount_0f7a4_14o (k : SW d mJ6_bitCount_0f7a4 X 15 [l0] (.int (nI (a % 2)) :: st) σ) : SW d mJ6_bitCount_0f7a4 X 14 [l0] (.int (nI 1) :: .int (nI a) :: st) σ := w_iand1 dJ6_bitCount_0f7a4_14 k
theorem sJ6_bitCount_0f7a4_14c (k : SW d mJ6_bitCount_0f7a4 X 15 [l0] (.int (nI (sd a b)) :: st) σ) : SW d mJ6_bitCount_0f7a4 X 14 [l0] (.int (nI b ^^^ (-1)) :: .int (nI a) :: st) σ := w_iandC dJ6_bitCount_0f7a4_14 k
theorem sJ6_bitCount_0f7a4_14n (k : SW d mJ6_bitCount_0f7a4 X 15 [l0] (.int (nI (a &&& b)) :: st) σ) : SW d mJ6_bitCount_0f7a4 X 14 [l0] (.int (nI b) :: .int (nI a) :: st) σ := w_iandN dJ6_bitCount_0f7a4_14 k
theorem sJ6_bitCount_0f7a4_14 (k : SW d mJ6_bitCount_0f7a4 X 15 [l0] (.int (x &&& y) :: st) σ) : SW d mJ6_bitCount_0f7a4 X 14 [l0] (.int y :: .int x :: st) σ := w_iand dJ6_bitCount_0f7a4_14 k
theorem sJ6_bitCount_0f7a4_15 (k : SW d mJ6_bitCount_0f7a4 X 16 [some (.int x)] (.int x :: st) σ) : SW d mJ6_bitCount_0f7a4 X 15 [some (.int x)] st σ := w_iload_n dJ6_bitCount_0f7a4_15 rfl k
theorem sJ6_bitCount_0f7a4_16 (k : SW d mJ6_bitCount_0f7a4 X 17 [l0] (.int (nI 2) :: st) σ) : SW d mJ6_bitCount_0f7a4 X 16 [l0] st σ := w_iconst (nI 2) dJ6_bitCount_0f7a4_16 (by decide) k
theorem sJ6_bitCount_0f7a4_17n (h : b < 32) (ha : a < 4294967296) (k : SW d mJ6_bitCount_0f7a4 X 18 [l0] (.int (nI (a / 2 ^ b)) :: st) σ) : SW d mJ6_bitCount_0f7a4 X 17 [l0] (.int (nI b) :: .int (nI a) :: st) σ := w_iushrN dJ6_bitCount_0f7a4_17 h ha k
theorem sJ6_bitCount_0f7a4_17 (k : SW d mJ6_bitCount_0f7a4 X 18 [l0] (.int ((x.toUInt32 >>> (y.toUInt32 &&& Int32.toUInt32 31)).toInt32) :: st) σ) : SW d mJ6_bitCount_0f7a4 X 17 [l0] (.int y :: .int x :: st) σ := w_iushr dJ6_bitCount_0f7a4_17 k
theorem sJ6_bitCount_0f7a4_18 (k : SW d mJ6_bitCount_0f7a4 X 21 [l0] (.int (nI 858993459) :: st) σ) : SW d mJ6_bitCount_0f7a4 X 18 [l0] st σ := w_ldcw dJ6_bitCount_0f7a4_18 kc_J6_266 k
theorem sJ6_bitCount_0f7a4_21o (k : SW d mJ6_bitCount_0f7a4 X 22 [l0] (.int (nI (a % 2)) :: st) σ) : SW d mJ6_bitCount_0f7a4 X 21 [l0] (.int (nI 1) :: .int (nI a) :: st) σ := w_iand1 dJ6_bitCount_0f7a4_21 k
theorem sJ6_bitCount_0f7a4_21c (k : SW d mJ6_bitCount_0f7a4 X 22 [l0] (.int (nI (sd a b)) :: st) σ) : SW d mJ6_bitCount_0f7a4 X 21 [l0] (.int (nI b ^^^ (-1)) :: .int (nI a) :: st) σ := w_iandC dJ6_bitCount_0f7a4_21 k
theorem sJ6_bitCount_0f7a4_21n (k : SW d mJ6_bitCount_0f7a4 X 22 [l0] (.int (nI (a &&& b)) :: st) σ) : SW d mJ6_bitCount_0f7a4 X 21 [l0] (.int (nI b) :: .int (nI a) :: st) σ := w_iandN dJ6_bitCount_0f7a4_21 k
theorem sJ6_bitCount_0f7a4_21 (k : SW d mJ6_bitCount_0f7a4 X 22 [l0] (.int (x &&& y) :: st) σ) : SW d mJ6_bitCount_0f7a4 X 21 [l0] (.int y :: .int x :: st) σ := w_iand dJ6_bitCount_0f7a4_21 k
theorem sJ6_bitCount_0f7a4_22n (k : SW d mJ6_bitCount_0f7a4 X 23 [l0] (.int (nI (a + b)) :: st) σ) : SW d mJ6_bitCount_0f7a4 X 22 [l0] (.int (nI b) :: .int (nI a) :: st) σ := w_iaddN dJ6_bitCount_0f7a4_22 k
theorem sJ6_bitCount_0f7a4_22 (k : SW d mJ6_bitCount_0f7a4 X 23 [l0] (.int (x + y) :: st) σ) : SW d mJ6_bitCount_0f7a4 X 22 [l0] (.int y :: .int x :: st) σ := w_iadd dJ6_bitCount_0f7a4_22 k
theorem sJ6_bitCount_0f7a4_23 (k : SW d mJ6_bitCount_0f7a4 X 24 [some (.int x)] st σ) : SW d mJ6_bitCount_0f7a4 X 23 [l0] (.int x :: st) σ := w_istore_n dJ6_bitCount_0f7a4_23 (Nat.le_of_ble_eq_true rfl) (Nat.le_of_ble_eq_true rfl) k
theorem sJ6_bitCount_0f7a4_24 (k : SW d mJ6_bitCount_0f7a4 X 25 [some (.int x)] (.int x :: st) σ) : SW d mJ6_bitCount_0f7a4 X 24 [some (.int x)] st σ := w_iload_n dJ6_bitCount_0f7a4_24 rfl k
theorem sJ6_bitCount_0f7a4_25 (k : SW d mJ6_bitCount_0f7a4 X 26 [some (.int x)] (.int x :: st) σ) : SW d mJ6_bitCount_0f7a4 X 25 [some (.int x)] st σ := w_iload_n dJ6_bitCount_0f7a4_25 rfl k
theorem sJ6_bitCount_0f7a4_26 (k : SW d mJ6_bitCount_0f7a4 X 27 [l0] (.int (nI 4) :: st) σ) : SW d mJ6_bitCount_0f7a4 X 26 [l0] st σ := w_iconst (nI 4) dJ6_bitCount_0f7a4_26 (by decide) k
theorem sJ6_bitCount_0f7a4_27n (h : b < 32) (ha : a < 4294967296) (k : SW d mJ6_bitCount_0f7a4 X 28 [l0] (.int (nI (a / 2 ^ b)) :: st) σ) : SW d mJ6_bitCount_0f7a4 X 27 [l0] (.int (nI b) :: .int (nI a) :: st) σ := w_iushrN dJ6_bitCount_0f7a4_27 h ha k
theorem sJ6_bitCount_0f7a4_27 (k : SW d mJ6_bitCount_0f7a4 X 28 [l0] (.int ((x.toUInt32 >>> (y.toUInt32 &&& Int32.toUInt32 31)).toInt32) :: st) σ) : SW d mJ6_bitCount_0f7a4 X 27 [l0] (.int y :: .int x :: st) σ := w_iushr dJ6_bitCount_0f7a4_27 k
theorem sJ6_bitCount_0f7a4_28n (k : SW d mJ6_bitCount_0f7a4 X 29 [l0] (.int (nI (a + b)) :: st) σ) : SW d mJ6_bitCount_0f7a4 X 28 [l0] (.int (nI b) :: .int (nI a) :: st) σ := w_iaddN dJ6_bitCount_0f7a4_28 k
theorem sJ6_bitCount_0f7a4_28 (k : SW d mJ6_bitCount_0f7a4 X 29 [l0] (.int (x + y) :: st) σ) : SW d mJ6_bitCount_0f7a4 X 28 [l0] (.int y :: .int x :: st) σ := w_iadd dJ6_bitCount_0f7a4_28 k
theorem sJ6_bitCount_0f7a4_29 (k : SW d mJ6_bitCount_0f7a4 X 32 [l0] (.int (nI 252645135) :: st) σ) : SW d mJ6_bitCount_0f7a4 X 29 [l0] st σ := w_ldcw dJ6_bitCount_0f7a4_29 kc_J6_267 k
theorem sJ6_bitCount_0f7a4_32o (k : SW d mJ6_bitCount_0f7a4 X 33 [l0] (.int (nI (a % 2)) :: st) σ) : SW d mJ6_bitCount_0f7a4 X 32 [l0] (.int (nI 1) :: .int (nI a) :: st) σ := w_iand1 dJ6_bitCount_0f7a4_32 k
theorem sJ6_bitCount_0f7a4_32c (k : SW d mJ6_bitCount_0f7a4 X 33 [l0] (.int (nI (sd a b)) :: st) σ) : SW d mJ6_bitCount_0f7a4 X 32 [l0] (.int (nI b ^^^ (-1)) :: .int (nI a) :: st) σ := w_iandC dJ6_bitCount_0f7a4_32 k
theorem sJ6_bitCount_0f7a4_32n (k : SW d mJ6_bitCount_0f7a4 X 33 [l0] (.int (nI (a &&& b)) :: st) σ) : SW d mJ6_bitCount_0f7a4 X 32 [l0] (.int (nI b) :: .int (nI a) :: st) σ := w_iandN dJ6_bitCount_0f7a4_32 k
theorem sJ6_bitCount_0f7a4_32 (k : SW d mJ6_bitCount_0f7a4 X 33 [l0] (.int (x &&& y) :: st) σ) : SW d mJ6_bitCount_0f7a4 X 32 [l0] (.int y :: .int x :: st) σ := w_iand dJ6_bitCount_0f7a4_32 k
theorem sJ6_bitCount_0f7a4_33 (k : SW d mJ6_bitCount_0f7a4 X 34 [some (.int x)] st σ) : SW d mJ6_bitCount_0f7a4 X 33 [l0] (.int x :: st) σ := w_istore_n dJ6_bitCount_0f7a4_33 (Nat.le_of_ble_eq_true rfl) (Nat.le_of_ble_eq_true rfl) k
theorem sJ6_bitCount_0f7a4_34 (k : SW d mJ6_bitCount_0f7a4 X 35 [some (.int x)] (.int x :: st) σ) : SW d mJ6_bitCount_0f7a4 X 34 [some (.int x)] st σ := w_iload_n dJ6_bitCount_0f7a4_34 rfl k
theorem sJ6_bitCount_0f7a4_35 (k : SW d mJ6_bitCount_0f7a4 X 36 [some (.int x)] (.int x :: st) σ) : SW d mJ6_bitCount_0f7a4 X 35 [some (.int x)] st σ := w_iload_n dJ6_bitCount_0f7a4_35 rfl k
theorem sJ6_bitCount_0f7a4_36 (k : SW d mJ6_bitCount_0f7a4 X 38 [l0] (.int (nI 8) :: st) σ) : SW d mJ6_bitCount_0f7a4 X 36 [l0] st σ := w_bipush (nI 8) dJ6_bitCount_0f7a4_36 (by decide) k
theorem sJ6_bitCount_0f7a4_38n (h : b < 32) (ha : a < 4294967296) (k : SW d mJ6_bitCount_0f7a4 X 39 [l0] (.int (nI (a / 2 ^ b)) :: st) σ) : SW d mJ6_bitCount_0f7a4 X 38 [l0] (.int (nI b) :: .int (nI a) :: st) σ := w_iushrN dJ6_bitCount_0f7a4_38 h ha k
theorem sJ6_bitCount_0f7a4_38 (k : SW d mJ6_bitCount_0f7a4 X 39 [l0] (.int ((x.toUInt32 >>> (y.toUInt32 &&& Int32.toUInt32 31)).toInt32) :: st) σ) : SW d mJ6_bitCount_0f7a4 X 38 [l0] (.int y :: .int x :: st) σ := w_iushr dJ6_bitCount_0f7a4_38 k
theorem sJ6_bitCount_0f7a4_39n (k : SW d mJ6_bitCount_0f7a4 X 40 [l0] (.int (nI (a + b)) :: st) σ) : SW d mJ6_bitCount_0f7a4 X 39 [l0] (.int (nI b) :: .int (nI a) :: st) σ := w_iaddN dJ6_bitCount_0f7a4_39 k
theorem sJ6_bitCount_0f7a4_39 (k : SW d mJ6_bitCount_0f7a4 X 40 [l0] (.int (x + y) :: st) σ) : SW d mJ6_bitCount_0f7a4 X 39 [l0] (.int y :: .int x :: st) σ := w_iadd dJ6_bitCount_0f7a4_39 k
theorem sJ6_bitCount_0f7a4_40 (k : SW d mJ6_bitCount_0f7a4 X 41 [some (.int x)] st σ) : SW d mJ6_bitCount_0f7a4 X 40 [l0] (.int x :: st) σ := w_istore_n dJ6_bitCount_0f7a4_40 (Nat.le_of_ble_eq_true rfl) (Nat.le_of_ble_eq_true rfl) k
theorem sJ6_bitCount_0f7a4_41 (k : SW d mJ6_bitCount_0f7a4 X 42 [some (.int x)] (.int x :: st) σ) : SW d mJ6_bitCount_0f7a4 X 41 [some (.int x)] st σ := w_iload_n dJ6_bitCount_0f7a4_41 rfl k
theorem sJ6_bitCount_0f7a4_42 (k : SW d mJ6_bitCount_0f7a4 X 43 [some (.int x)] (.int x :: st) σ) : SW d mJ6_bitCount_0f7a4 X 42 [some (.int x)] st σ := w_iload_n dJ6_bitCount_0f7a4_42 rfl k
theorem sJ6_bitCount_0f7a4_43 (k : SW d mJ6_bitCount_0f7a4 X 45 [l0] (.int (nI 16) :: st) σ) : SW d mJ6_bitCount_0f7a4 X 43 [l0] st σ := w_bipush (nI 16) dJ6_bitCount_0f7a4_43 (by decide) k
theorem sJ6_bitCount_0f7a4_45n (h : b < 32) (ha : a < 4294967296) (k : SW d mJ6_bitCount_0f7a4 X 46 [l0] (.int (nI (a / 2 ^ b)) :: st) σ) : SW d mJ6_bitCount_0f7a4 X 45 [l0] (.int (nI b) :: .int (nI a) :: st) σ := w_iushrN dJ6_bitCount_0f7a4_45 h ha k
theorem sJ6_bitCount_0f7a4_45 (k : SW d mJ6_bitCount_0f7a4 X 46 [l0] (.int ((x.toUInt32 >>> (y.toUInt32 &&& Int32.toUInt32 31)).toInt32) :: st) σ) : SW d mJ6_bitCount_0f7a4 X 45 [l0] (.int y :: .int x :: st) σ := w_iushr dJ6_bitCount_0f7a4_45 k
theorem sJ6_bitCount_0f7a4_46n (k : SW d mJ6_bitCount_0f7a4 X 47 [l0] (.int (nI (a + b)) :: st) σ) : SW d mJ6_bitCount_0f7a4 X 46 [l0] (.int (nI b) :: .int (nI a) :: st) σ := w_iaddN dJ6_bitCount_0f7a4_46 k
theorem sJ6_bitCount_0f7a4_46 (k : SW d mJ6_bitCount_0f7a4 X 47 [l0] (.int (x + y) :: st) σ) : SW d mJ6_bitCount_0f7a4 X 46 [l0] (.int y :: .int x :: st) σ := w_iadd dJ6_bitCount_0f7a4_46 k
theorem sJ6_bitCount_0f7a4_47 (k : SW d mJ6_bitCount_0f7a4 X 48 [some (.int x)] st σ) : SW d mJ6_bitCount_0f7a4 X 47 [l0] (.int x :: st) σ := w_istore_n dJ6_bitCount_0f7a4_47 (Nat.le_of_ble_eq_true rfl) (Nat.le_of_ble_eq_true rfl) k
theorem sJ6_bitCount_0f7a4_48 (k : SW d mJ6_bitCount_0f7a4 X 49 [some (.int x)] (.int x :: st) σ) : SW d mJ6_bitCount_0f7a4 X 48 [some (.int x)] st σ := w_iload_n dJ6_bitCount_0f7a4_48 rfl k
theorem sJ6_bitCount_0f7a4_49 (k : SW d mJ6_bitCount_0f7a4 X 51 [l0] (.int (nI 63) :: st) σ) : SW d mJ6_bitCount_0f7a4 X 49 [l0] st σ := w_bipush (nI 63) dJ6_bitCount_0f7a4_49 (by decide) k
theorem sJ6_bitCount_0f7a4_51o (k : SW d mJ6_bitCount_0f7a4 X 52 [l0] (.int (nI (a % 2)) :: st) σ) : SW d mJ6_bitCount_0f7a4 X 51 [l0] (.int (nI 1) :: .int (nI a) :: st) σ := w_iand1 dJ6_bitCount_0f7a4_51 k
theorem sJ6_bitCount_0f7a4_51c (k : SW d mJ6_bitCount_0f7a4 X 52 [l0] (.int (nI (sd a b)) :: st) σ) : SW d mJ6_bitCount_0f7a4 X 51 [l0] (.int (nI b ^^^ (-1)) :: .int (nI a) :: st) σ := w_iandC dJ6_bitCount_0f7a4_51 k
theorem sJ6_bitCount_0f7a4_51n (k : SW d mJ6_bitCount_0f7a4 X 52 [l0] (.int (nI (a &&& b)) :: st) σ) : SW d mJ6_bitCount_0f7a4 X 51 [l0] (.int (nI b) :: .int (nI a) :: st) σ := w_iandN dJ6_bitCount_0f7a4_51 k
theorem sJ6_bitCount_0f7a4_51 (k : SW d mJ6_bitCount_0f7a4 X 52 [l0] (.int (x &&& y) :: st) σ) : SW d mJ6_bitCount_0f7a4 X 51 [l0] (.int y :: .int x :: st) σ := w_iand dJ6_bitCount_0f7a4_51 k
theorem sJ6_bitCount_0f7a4_52 (k : RetOK X (some (.int x)) σ) : SW d mJ6_bitCount_0f7a4 X 52 [l0] [.int x] σ := w_iret dJ6_bitCount_0f7a4_52 .int rfl rfl k
theorem sJ9_abs_0f7a4_0 (k : SW d mJ9_abs_0f7a4 X 1 [some (.int x)] (.int x :: st) σ) : SW d mJ9_abs_0f7a4 X 0 [some (.int x)] st σ := w_iload_n dJ9_abs_0f7a4_0 rfl k
theorem sJ9_abs_0f7a4_1n (ha : a < 2147483648) (k : SW d mJ9_abs_0f7a4 X 9 [l0] st σ) : SW d mJ9_abs_0f7a4 X 1 [l0] (.int (nI a) :: st) σ := w_if_geN 9 dJ9_abs_0f7a4_1 (by decide) ha k
theorem sJ9_abs_0f7a4_1m (k : SW d mJ9_abs_0f7a4 X 4 [l0] st σ) : SW d mJ9_abs_0f7a4 X 1 [l0] (.int (-1) :: st) σ := w_if_geM 9 dJ9_abs_0f7a4_1 (by decide) k
theorem sJ9_abs_0f7a4_1 (k1 : 0 ≤ x → SW d mJ9_abs_0f7a4 X 9 [l0] st σ) (k2 : ¬ 0 ≤ x → SW d mJ9_abs_0f7a4 X 4 [l0] st σ) : SW d mJ9_abs_0f7a4 X 1 [l0] (.int x :: st) σ := w_if_ge 9 dJ9_abs_0f7a4_1 (by decide) k1 k2
theorem sJ9_abs_0f7a4_4 (k : SW d mJ9_abs_0f7a4 X 5 [some (.int x)] (.int x :: st) σ) : SW d mJ9_abs_0f7a4 X 4 [some (.int x)] st σ := w_iload_n dJ9_abs_0f7a4_4 rfl k
theorem sJ9_abs_0f7a4_5 (k : SW d mJ9_abs_0f7a4 X 6 [l0] (.int (-x) :: st) σ) : SW d mJ9_abs_0f7a4 X 5 [l0] (.int x :: st) σ := w_ineg dJ9_abs_0f7a4_5 k
theorem sJ9_abs_0f7a4_6 (k : SW d mJ9_abs_0f7a4 X 10 [l0] st σ) : SW d mJ9_abs_0f7a4 X 6 [l0] st σ := w_goto 10 dJ9_abs_0f7a4_6 (by decide) k
theorem sJ9_abs_0f7a4_9 (k : SW d mJ9_abs_0f7a4 X 10 [some (.int x)] (.int x :: st) σ) : SW d mJ9_abs_0f7a4 X 9 [some (.int x)] st σ := w_iload_n dJ9_abs_0f7a4_9 rfl k
theorem sJ9_abs_0f7a4_10 (k : RetOK X (some (.int x)) σ) : SW d mJ9_abs_0f7a4 X 10 [l0] [.int x] σ := w_iret dJ9_abs_0f7a4_10 .int rfl rfl k
theorem sJ9_max_7cf53_0 (k : SW d mJ9_max_7cf53 X 1 [some (.int x), l1] (.int x :: st) σ) : SW d mJ9_max_7cf53 X 0 [some (.int x), l1] st σ := w_iload_n dJ9_max_7cf53_0 rfl k
theorem sJ9_max_7cf53_1 (k : SW d mJ9_max_7cf53 X 2 [l0, some (.int x)] (.int x :: st) σ) : SW d mJ9_max_7cf53 X 1 [l0, some (.int x)] st σ := w_iload_n dJ9_max_7cf53_1 rfl k
theorem sJ9_max_7cf53_2n (ha : a < 2147483648) (hb : b < 2147483648) (k1 : a < b → SW d mJ9_max_7cf53 X 9 [l0, l1] st σ) (k2 : b ≤ a → SW d mJ9_max_7cf53 X 5 [l0, l1] st σ) : SW d mJ9_max_7cf53 X 2 [l0, l1] (.int (nI b) :: .int (nI a) :: st) σ := w_icmp_ltN 9 dJ9_max_7cf53_2 (by decide) ha hb k1 k2
theorem sJ9_max_7cf53_2 (k1 : x < y → SW d mJ9_max_7cf53 X 9 [l0, l1] st σ) (k2 : ¬ x < y → SW d mJ9_max_7cf53 X 5 [l0, l1] st σ) : SW d mJ9_max_7cf53 X 2 [l0, l1] (.int y :: .int x :: st) σ := w_icmp_lt 9 dJ9_max_7cf53_2 (by decide) k1 k2
theorem sJ9_max_7cf53_5 (k : SW d mJ9_max_7cf53 X 6 [some (.int x), l1] (.int x :: st) σ) : SW d mJ9_max_7cf53 X 5 [some (.int x), l1] st σ := w_iload_n dJ9_max_7cf53_5 rfl k
theorem sJ9_max_7cf53_6 (k : SW d mJ9_max_7cf53 X 10 [l0, l1] st σ) : SW d mJ9_max_7cf53 X 6 [l0, l1] st σ := w_goto 10 dJ9_max_7cf53_6 (by decide) k
theorem sJ9_max_7cf53_9 (k : SW d mJ9_max_7cf53 X 10 [l0, some (.int x)] (.int x :: st) σ) : SW d mJ9_max_7cf53 X 9 [l0, some (.int x)] st σ := w_iload_n dJ9_max_7cf53_9 rfl k
theorem sJ9_max_7cf53_10 (k : RetOK X (some (.int x)) σ) : SW d mJ9_max_7cf53 X 10 [l0, l1] [.int x] σ := w_iret dJ9_max_7cf53_10 .int rfl rfl k
theorem sJ9_min_7cf53_0 (k : SW d mJ9_min_7cf53 X 1 [some (.int x), l1] (.int x :: st) σ) : SW d mJ9_min_7cf53 X 0 [some (.int x), l1] st σ := w_iload_n dJ9_min_7cf53_0 rfl k
theorem sJ9_min_7cf53_1 (k : SW d mJ9_min_7cf53 X 2 [l0, some (.int x)] (.int x :: st) σ) : SW d mJ9_min_7cf53 X 1 [l0, some (.int x)] st σ := w_iload_n dJ9_min_7cf53_1 rfl k
theorem sJ9_min_7cf53_2n (ha : a < 2147483648) (hb : b < 2147483648) (k1 : b < a → SW d mJ9_min_7cf53 X 9 [l0, l1] st σ) (k2 : a ≤ b → SW d mJ9_min_7cf53 X 5 [l0, l1] st σ) : SW d mJ9_min_7cf53 X 2 [l0, l1] (.int (nI b) :: .int (nI a) :: st) σ := w_icmp_gtN 9 dJ9_min_7cf53_2 (by decide) ha hb k1 k2
theorem sJ9_min_7cf53_2 (k1 : y < x → SW d mJ9_min_7cf53 X 9 [l0, l1] st σ) (k2 : ¬ y < x → SW d mJ9_min_7cf53 X 5 [l0, l1] st σ) : SW d mJ9_min_7cf53 X 2 [l0, l1] (.int y :: .int x :: st) σ := w_icmp_gt 9 dJ9_min_7cf53_2 (by decide) k1 k2
theorem sJ9_min_7cf53_5 (k : SW d mJ9_min_7cf53 X 6 [some (.int x), l1] (.int x :: st) σ) : SW d mJ9_min_7cf53 X 5 [some (.int x), l1] st σ := w_iload_n dJ9_min_7cf53_5 rfl k
theorem sJ9_min_7cf53_6 (k : SW d mJ9_min_7cf53 X 10 [l0, l1] st σ) : SW d mJ9_min_7cf53 X 6 [l0, l1] st σ := w_goto 10 dJ9_min_7cf53_6 (by decide) k
theorem sJ9_min_7cf53_9 (k : SW d mJ9_min_7cf53 X 10 [l0, some (.int x)] (.int x :: st) σ) : SW d mJ9_min_7cf53 X 9 [l0, some (.int x)] st σ := w_iload_n dJ9_min_7cf53_9 rfl k
theorem sJ9_min_7cf53_10 (k : RetOK X (some (.int x)) σ) : SW d mJ9_min_7cf53 X 10 [l0, l1] [.int x] σ := w_iret dJ9_min_7cf53_10 .int rfl rfl k
end
