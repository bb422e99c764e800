def pX8_thrown (S : Sg) : Option (Int32) :=
  some (S.1 0)
def pX8_refused (S : Sg) (x1 : Int32) : Option (Int32 × Sg) :=
  fb_st (sS S 1 x1) (fun S_1 => some ((-1), S_1))
def pX8_denied (S : Sg) (x1 : Int32) : Option (Int32 × Sg) :=
  fb_st (sS S 1 x1) (fun S_1 => fb_cb 0 (some (0, S_1)))
def pX8_done (S : Sg) (x1 : Int32) : Option (Int32 × Sg) :=
  fb_st (sS S 1 0) (fun S_1 => some (x1, S_1))
def pX8_granted (S : Sg) : Option (Int32 × Sg) :=
  fb_st (sS S 1 0) (fun S_1 => fb_cb 1 (some (1, S_1)))
def pX8_in (S : Sg) (x0 x1 x2 : Int32) : Option (Int32) :=
  if x0 < x1 then (fb_cb 0 (some 0)) else (if x2 < x0 then (fb_cb 0 (some 0)) else (fb_cb 1 (some 1)))
def pX8_isKind (S : Sg) (x1 : Int32) : Option (Int32) :=
  if x1 < (0 : Int32) then (fb_cb 0 (some 0)) else (if (S.1 2) ≤ x1 then (fb_cb 0 (some 0)) else (fb_cb 1 (some 1)))
def pX8_isLength (S : Sg) (x1 : Int32) : Option (Int32) :=
  if x1 < (0 : Int32) then (fb_cb 0 (some 0)) else (if (S.1 3) ≤ x1 then (fb_cb 0 (some 0)) else (fb_cb 1 (some 1)))
def pX8_kind (S : Sg) (x1 x2 : Int32) : Option (Int32 × Sg) :=
  fb_st (sS S 0 0) (fun S_1 => fb_bd (pX8_in S_1 x1 40 180) (fun r_3 => if r_3 = (0 : Int32) then (fb_b2 (pX8_refused S_1 2) (fun r_6 S_7 => some (r_6, S_7))) else (fb_bd (pX8_in S_1 x2 1 20) (fun r_9 => if r_9 = (0 : Int32) then (fb_b2 (pX8_refused S_1 2) (fun r_24 S_25 => some (r_24, S_25))) else (if (S_1.1 2) = 5 then (fb_b2 (pX8_refused S_1 3) (fun r_21 S_22 => some (r_21, S_22))) else (fb_ck (S_1.1 2) 5 (fb_st (sA S_1 1 (S_1.1 2) x1) (fun S_12 => fb_ck (S_12.1 2) 5 (fb_st (sA S_12 2 (S_12.1 2) x2) (fun S_14 => fb_st (sS S_14 2 ((S_14.1 2) + 1)) (fun S_16 => fb_b2 (pX8_done S_16 ((S_16.1 2) - 1)) (fun r_18 S_19 => some (r_18, S_19)))))))))))))
def pX8_change (S : Sg) (x1 x2 x3 : Int32) : Option (Int32 × Sg) :=
  fb_st (sS S 0 0) (fun S_1 => fb_bd (pX8_isKind S_1 x1) (fun r_3 => if r_3 = (0 : Int32) then (fb_b2 (pX8_denied S_1 1) (fun r_6 S_7 => fb_cb r_6 (some (r_6, S_7)))) else (fb_bd (pX8_isKind S_1 x2) (fun r_9 => if r_9 = (0 : Int32) then (fb_b2 (pX8_denied S_1 1) (fun r_12 S_13 => fb_cb r_12 (some (r_12, S_13)))) else (if x1 = x2 then (fb_b2 (pX8_denied S_1 1) (fun r_27 S_28 => fb_cb r_27 (some (r_27, S_28)))) else (fb_bd (pX8_in S_1 x3 0 60) (fun r_16 => if r_16 = (0 : Int32) then (fb_b2 (pX8_denied S_1 2) (fun r_24 S_25 => fb_cb r_24 (some (r_24, S_25)))) else (fb_ck ((5 * x1) + x2) 25 (fb_st (sA S_1 3 ((5 * x1) + x2) x3) (fun S_18 => fb_b2 (pX8_granted S_18) (fun r_21 S_22 => fb_cb r_21 (some (r_21, S_22)))))))))))))
def pX8_length_l23 : Nat → Sg → Int32 → Int32 → Option (Int32 × Sg)
  | 0, _, _, _ => none
  | n + 1, T, x1, x2 =>
    if (T.1 3) ≤ x2 then (if (T.1 3) = 6 then (fb_b2 (pX8_refused T 3) (fun r_10 S_11 => some (r_10, S_11))) else (fb_ck (T.1 3) 6 (fb_st (sA T 4 (T.1 3) x1) (fun S_3 => fb_st (sS S_3 3 ((S_3.1 3) + 1)) (fun S_5 => fb_b2 (pX8_done S_5 ((S_5.1 3) - 1)) (fun r_7 S_8 => some (r_7, S_8))))))) else (fb_ck x2 6 (if (T.2 4 x2.toNatClampNeg) = x1 then (fb_b2 (pX8_refused T 4) (fun r_16 S_17 => some (r_16, S_17))) else (fb_vl (x2 + 1) (fun x2_14 => (pX8_length_l23 n) T x1 x2_14))))
def pX8_length (S : Sg) (x1 : Int32) : Option (Int32 × Sg) :=
  fb_st (sS S 0 0) (fun S_18 => fb_bd (pX8_in S_18 x1 5 80) (fun r_20 => if r_20 = (0 : Int32) then (fb_b2 (pX8_refused S_18 2) (fun r_24 S_25 => some (r_24, S_25))) else (fb_vl 0 (fun x2_22 => pX8_length_l23 5000 S_18 x1 x2_22))))
def pX8_worth (S : Sg) (x1 x2 x3 : Int32) : Option (Int32 × Sg) :=
  fb_st (sS S 0 0) (fun S_1 => fb_bd (pX8_isLength S_1 x1) (fun r_3 => if r_3 = (0 : Int32) then (fb_b2 (pX8_denied S_1 1) (fun r_6 S_7 => fb_cb r_6 (some (r_6, S_7)))) else (fb_bd (pX8_isKind S_1 x2) (fun r_9 => if r_9 = (0 : Int32) then (fb_b2 (pX8_denied S_1 1) (fun r_23 S_24 => fb_cb r_23 (some (r_23, S_24)))) else (fb_bd (pX8_in S_1 x3 0 999) (fun r_12 => if r_12 = (0 : Int32) then (fb_b2 (pX8_denied S_1 2) (fun r_20 S_21 => fb_cb r_20 (some (r_20, S_21)))) else (fb_ck ((6 * x2) + x1) 30 (fb_st (sA S_1 5 ((6 * x2) + x1) x3) (fun S_14 => fb_b2 (pX8_granted S_14) (fun r_17 S_18 => fb_cb r_17 (some (r_17, S_18))))))))))))
def pX8_size (S : Sg) (x1 x2 : Int32) : Option (Int32 × Sg) :=
  fb_st (sS S 0 0) (fun S_1 => fb_bd (pX8_in S_1 x1 1 60) (fun r_3 => if r_3 = (0 : Int32) then (fb_b2 (pX8_denied S_1 2) (fun r_6 S_7 => fb_cb r_6 (some (r_6, S_7)))) else (fb_bd (pX8_in S_1 x2 1 60) (fun r_9 => if r_9 = (0 : Int32) then (fb_b2 (pX8_denied S_1 2) (fun r_21 S_22 => fb_cb r_21 (some (r_21, S_22)))) else (if (S_1.1 10) ≤ (0 : Int32) then (fb_st (sS S_1 4 x1) (fun S_12 => fb_st (sS S_12 5 x2) (fun S_13 => fb_b2 (pX8_granted S_13) (fun r_15 S_16 => fb_cb r_15 (some (r_15, S_16)))))) else (fb_b2 (pX8_denied S_1 4) (fun r_18 S_19 => fb_cb r_18 (some (r_18, S_19)))))))))
def pX8_belt_l4 (S : Sg) : Nat → Int32 → Int32 → Option (Int32)
  | 0, _, _ => none
  | n + 1, x1, x2 =>
    if (S.1 8) ≤ x2 then (some x1) else (fb_ck x2 60 (fb_vl (x1 + (S.2 7 x2.toNatClampNeg)) (fun x1_3 => fb_vl (x2 + 1) (fun x2_4 => (pX8_belt_l4 S n) x1_3 x2_4))))
def pX8_belt (S : Sg) : Option (Int32) :=
  fb_vl 0 (fun x1_5 => fb_vl 0 (fun x2_6 => pX8_belt_l4 S 5000 x1_5 x2_6))
def pX8_lays (S : Sg) (x1 x2 x3 : Int32) : Option (Sg) :=
  fb_ck (S.1 8) 60 (fb_st (sA S 6 (S.1 8) x1) (fun S_1 => fb_ck (S_1.1 8) 60 (fb_st (sA S_1 7 (S_1.1 8) x2) (fun S_3 => fb_ck (S_3.1 8) 60 (fb_st (sA S_3 8 (S_3.1 8) x3) (fun S_5 => fb_st (sS S_5 8 ((S_5.1 8) + 1)) (fun S_7 => some S_7)))))))
def pX8_pour_j166  (T : Sg) (x1 x2 x4 : Int32) : Option (Int32 × Sg) :=
  if x4 = (0 : Int32) then (fb_bd (pX8_lays T x1 x2 (T.1 9)) (fun S_3 => fb_st (sS S_3 9 ((S_3.1 9) + 1)) (fun S_4 => fb_bd (pX8_belt S_4) (fun r_6 => fb_b2 (pX8_done S_4 r_6) (fun r_8 S_9 => some (r_8, S_9)))))) else (fb_ck ((T.1 8) - 1) 60 (fb_ck ((T.1 8) - 1) 60 (fb_st (sA T 7 ((T.1 8) - 1) ((T.2 7 ((T.1 8) - 1).toNatClampNeg) + x2)) (fun S_11 => fb_bd (pX8_belt S_11) (fun r_14 => fb_b2 (pX8_done S_11 r_14) (fun r_16 S_17 => some (r_16, S_17)))))))
def pX8_pour_j116  (T : Sg) (x1 x2 x4 x5 t0 : Int32) : Option (Int32 × Sg) :=
  fb_vl t0 (fun x6_18 => fb_bd (pX8_belt T) (fun r_20 => if 2000 < ((r_20 + x5) + x2) then (fb_b2 (pX8_refused T 3) (fun r_23 S_24 => some (r_23, S_24))) else (if ((T.1 8) + x6_18) ≤ 60 then (if x5 ≤ (0 : Int32) then (pX8_pour_j166 T x1 x2 x4) else (fb_bd (pX8_lays T (-2) x5 (-2)) (fun S_28 => pX8_pour_j166 S_28 x1 x2 x4))) else (fb_b2 (pX8_refused T 3) (fun r_30 S_31 => some (r_30, S_31))))))
def pX8_pour_j95  (T : Sg) (x1 x2 x4 t0 : Int32) : Option (Int32 × Sg) :=
  fb_vl t0 (fun x5_32 => if x4 = (0 : Int32) then (if x5_32 ≤ (0 : Int32) then (pX8_pour_j116 T x1 x2 x4 x5_32 1) else (pX8_pour_j116 T x1 x2 x4 x5_32 2)) else (pX8_pour_j116 T x1 x2 x4 x5_32 0))
def pX8_pour_j69  (T : Sg) (x1 x2 x3 t0 : Int32) : Option (Int32 × Sg) :=
  fb_vl t0 (fun x4_35 => if x3 = (-1) then (pX8_pour_j95 T x1 x2 x4_35 0) else (if x4_35 = (0 : Int32) then (fb_ck ((5 * x3) + x1) 25 (pX8_pour_j95 T x1 x2 x4_35 ((T.2 3 ((5 * x3) + x1).toNatClampNeg)))) else (pX8_pour_j95 T x1 x2 x4_35 0)))
def pX8_pour_j58  (T : Sg) (x1 x2 t0 : Int32) : Option (Int32 × Sg) :=
  fb_vl t0 (fun x3_39 => if x3_39 = x1 then (pX8_pour_j69 T x1 x2 x3_39 1) else (pX8_pour_j69 T x1 x2 x3_39 0))
def pX8_pour (S : Sg) (x1 x2 : Int32) : Option (Int32 × Sg) :=
  fb_st (sS S 0 0) (fun S_41 => fb_bd (pX8_isKind S_41 x1) (fun r_43 => if r_43 = (0 : Int32) then (fb_b2 (pX8_refused S_41 1) (fun r_54 S_55 => some (r_54, S_55))) else (fb_bd (pX8_in S_41 x2 1 400) (fun r_46 => if r_46 = (0 : Int32) then (fb_b2 (pX8_refused S_41 2) (fun r_51 S_52 => some (r_51, S_52))) else (if (S_41.1 8) = (0 : Int32) then (pX8_pour_j58 S_41 x1 x2 ((-1))) else (fb_ck ((S_41.1 8) - 1) 60 (pX8_pour_j58 S_41 x1 x2 ((S_41.2 6 ((S_41.1 8) - 1).toNatClampNeg)))))))))
def pX8_run (S : Sg) (x1 x2 : Int32) : Option (Int32 × Sg) :=
  fb_st (sS S 0 0) (fun S_1 => if x1 < (0 : Int32) then (some ((-1), S_1)) else (if x1 < (S_1.1 8) then (if x2 = (0 : Int32) then (fb_ck x1 60 (some ((S_1.2 6 x1.toNatClampNeg), S_1))) else (if x2 = 1 then (fb_ck x1 60 (some ((S_1.2 7 x1.toNatClampNeg), S_1))) else (if x2 = 2 then (fb_ck x1 60 (some ((S_1.2 8 x1.toNatClampNeg), S_1))) else (some ((-1), S_1))))) else (some ((-1), S_1))))
def pX8_reckons_l17 (k2 : Sg → Int32 → Int32 → Int32 → Option (Sg)) : Nat → Sg → Int32 → Int32 → Int32 → Int32 → Option (Sg)
  | 0, _, _, _, _, _ => none
  | n + 1, T, x1, x2, x3, x4 =>
    if (T.1 3) ≤ x4 then (fb_vl (x3 + 1) (fun x3_2 => k2 T x1 x2 x3_2)) else (fb_ck x4 6 (if x3 < (T.2 4 x4.toNatClampNeg) then (fb_vl (x4 + 1) (fun x4_5 => (pX8_reckons_l17 k2 n) T x1 x2 x3 x4_5)) else (fb_ck x3 2001 (fb_ck ((6 * x1) + x4) 30 (fb_ck x4 6 (fb_ck (x3 - (T.2 4 x4.toNatClampNeg)) 2001 (fb_ck x3 2001 (fb_st (sA T 9 x3 (if (T.2 9 x3.toNatClampNeg) < ((T.2 5 ((6 * x1) + x4).toNatClampNeg) + (T.2 9 (x3 - (T.2 4 x4.toNatClampNeg)).toNatClampNeg)) then ((T.2 5 ((6 * x1) + x4).toNatClampNeg) + (T.2 9 (x3 - (T.2 4 x4.toNatClampNeg)).toNatClampNeg)) else (T.2 9 x3.toNatClampNeg))) (fun S_10 => fb_vl (x4 + 1) (fun x4_12 => (pX8_reckons_l17 k2 n) S_10 x1 x2 x3 x4_12))))))))))
def pX8_reckons_l2 : Nat → Sg → Int32 → Int32 → Int32 → Option (Sg)
  | 0, _, _, _, _ => none
  | n + 1, T, x1, x2, x3 =>
    if x2 < x3 then (some T) else (fb_ck x3 2001 (fb_st (sA T 9 x3 0) (fun S_14 => fb_vl 0 (fun x4_16 => pX8_reckons_l17 (pX8_reckons_l2 n) 5000 S_14 x1 x2 x3 x4_16))))
def pX8_reckons (S : Sg) (x1 x2 : Int32) : Option (Sg) :=
  fb_vl 0 (fun x3_17 => pX8_reckons_l2 5000 S x1 x2 x3_17)
def pX8_best (S : Sg) (x1 x2 : Int32) : Option (Int32 × Sg) :=
  fb_st (sS S 0 0) (fun S_1 => fb_bd (pX8_isKind S_1 x1) (fun r_3 => if r_3 = (0 : Int32) then (fb_b2 (pX8_refused S_1 1) (fun r_18 S_19 => some (r_18, S_19))) else (fb_bd (pX8_in S_1 x2 0 2000) (fun r_6 => if r_6 = (0 : Int32) then (fb_b2 (pX8_refused S_1 2) (fun r_15 S_16 => some (r_15, S_16))) else (fb_bd (pX8_reckons S_1 x1 x2) (fun S_9 => fb_ck x2 2001 (fb_b2 (pX8_done S_9 (S_9.2 9 x2.toNatClampNeg)) (fun r_12 S_13 => some (r_12, S_13)))))))))
def pX8_longest_l5 (S : Sg) : Nat → Int32 → Int32 → Int32 → Int32 → Option (Int32)
  | 0, _, _, _, _ => none
  | n + 1, x1, x2, x3, x4 =>
    if (S.1 3) ≤ x4 then (some x3) else (fb_ck x4 6 (if x2 < (S.2 4 x4.toNatClampNeg) then (fb_vl (x4 + 1) (fun x4_4 => (pX8_longest_l5 S n) x1 x2 x3 x4_4)) else (fb_ck ((6 * x1) + x4) 30 (fb_ck x4 6 (fb_ck (x2 - (S.2 4 x4.toNatClampNeg)) 2001 (fb_ck x2 2001 (if ((S.2 5 ((6 * x1) + x4).toNatClampNeg) + (S.2 9 (x2 - (S.2 4 x4.toNatClampNeg)).toNatClampNeg)) = (S.2 9 x2.toNatClampNeg) then (if x3 = (-1) then (fb_vl x4 (fun x3_11 => fb_vl (x4 + 1) (fun x4_12 => (pX8_longest_l5 S n) x1 x2 x3_11 x4_12))) else (fb_ck x4 6 (fb_ck x3 6 (if (S.2 4 x4.toNatClampNeg) ≤ (S.2 4 x3.toNatClampNeg) then (fb_vl (x4 + 1) (fun x4_16 => (pX8_longest_l5 S n) x1 x2 x3 x4_16)) else (fb_vl x4 (fun x3_17 => fb_vl (x4 + 1) (fun x4_18 => (pX8_longest_l5 S n) x1 x2 x3_17 x4_18))))))) else (fb_vl (x4 + 1) (fun x4_19 => (pX8_longest_l5 S n) x1 x2 x3 x4_19)))))))))
def pX8_longest (S : Sg) (x1 x2 : Int32) : Option (Int32) :=
  fb_vl (-1) (fun x3_20 => fb_vl 0 (fun x4_21 => pX8_longest_l5 S 5000 x1 x2 x3_20 x4_21))
def pX8_blockOf (S : Sg) (x1 x2 x3 : Int32) : Option (Sg) :=
  fb_ck (S.1 10) 200 (fb_st (sA S 11 (S.1 10) 0) (fun S_1 => fb_ck (S_1.1 10) 200 (fb_st (sA S_1 12 (S_1.1 10) x1) (fun S_3 => fb_ck (S_3.1 10) 200 (fb_st (sA S_3 13 (S_3.1 10) x2) (fun S_5 => fb_ck (S_5.1 10) 200 (fb_st (sA S_5 14 (S_5.1 10) x3) (fun S_7 => fb_ck (S_7.1 10) 200 (fb_st (sA S_7 15 (S_7.1 10) (S_7.1 6)) (fun S_9 => fb_ck (S_9.1 10) 200 (fb_st (sA S_9 16 (S_9.1 10) 0) (fun S_11 => fb_st (sS S_11 10 ((S_11.1 10) + 1)) (fun S_13 => some S_13)))))))))))))
def pX8_cut_l184 : Nat → Sg → Int32 → Int32 → Option (Int32 × Sg)
  | 0, _, _, _ => none
  | n + 1, T, x3, x4 =>
    if (T.1 8) ≤ x4 then (fb_b2 (pX8_done T x3) (fun r_3 S_4 => some (r_3, S_4))) else (fb_ck (x4 + 1) 60 (fb_ck x4 60 (fb_st (sA T 6 x4 (T.2 6 (x4 + 1).toNatClampNeg)) (fun S_6 => fb_ck (x4 + 1) 60 (fb_ck x4 60 (fb_st (sA S_6 7 x4 (S_6.2 7 (x4 + 1).toNatClampNeg)) (fun S_9 => fb_ck (x4 + 1) 60 (fb_ck x4 60 (fb_st (sA S_9 8 x4 (S_9.2 8 (x4 + 1).toNatClampNeg)) (fun S_12 => fb_vl (x4 + 1) (fun x4_14 => (pX8_cut_l184 n) S_12 x3 x4_14)))))))))))
def pX8_cut_l118 : Nat → Sg → Int32 → Int32 → Int32 → Int32 → Option (Int32 × Sg)
  | 0, _, _, _, _, _ => none
  | n + 1, T, x1, x2, x3, x4 =>
    if x3 ≤ x4 then (fb_c0 100 (fb_st (sS T 7 ((T.1 7) + (((x2 * (T.1 4)) * (T.1 5)) / 100))) (fun S_17 => fb_st (sS S_17 8 ((S_17.1 8) - 1)) (fun S_18 => fb_vl 0 (fun x4_19 => pX8_cut_l184 5000 S_18 x3 x4_19))))) else (fb_ck x4 2000 (fb_ck 0 60 (fb_bd (pX8_blockOf T x1 (T.2 10 x4.toNatClampNeg) (T.2 8 (0 : Int32).toNatClampNeg)) (fun S_23 => fb_vl (x4 + 1) (fun x4_24 => (pX8_cut_l118 n) S_23 x1 x2 x3 x4_24)))))
def pX8_cut_l54 : Nat → Sg → Int32 → Int32 → Int32 → Int32 → Option (Int32 × Sg)
  | 0, _, _, _, _, _ => none
  | n + 1, T, x1, x2, x3, x4 =>
    if x4 = (-1) then (if ((T.1 10) + x3) ≤ 200 then (fb_vl 0 (fun x4_27 => pX8_cut_l118 5000 T x1 x2 x3 x4_27)) else (fb_b2 (pX8_refused T 3) (fun r_29 S_30 => some (r_29, S_30)))) else (fb_ck x4 6 (fb_ck x3 2000 (fb_st (sA T 10 x3 (T.2 4 x4.toNatClampNeg)) (fun S_32 => fb_vl (x3 + 1) (fun x3_34 => fb_ck x4 6 (fb_vl (x2 - (S_32.2 4 x4.toNatClampNeg)) (fun x2_36 => fb_bd (pX8_longest S_32 x1 x2_36) (fun r_38 => fb_vl r_38 (fun x4_39 => (pX8_cut_l54 n) S_32 x1 x2_36 x3_34 x4_39)))))))))
def pX8_cut (S : Sg) : Option (Int32 × Sg) :=
  fb_st (sS S 0 0) (fun S_40 => if (S_40.1 8) = (0 : Int32) then (fb_b2 (pX8_refused S_40 4) (fun r_59 S_60 => some (r_59, S_60))) else (fb_ck 0 60 (fb_vl (S_40.2 6 (0 : Int32).toNatClampNeg) (fun x1_43 => fb_ck 0 60 (fb_vl (S_40.2 7 (0 : Int32).toNatClampNeg) (fun x2_45 => fb_vl 0 (fun x3_46 => if x1_43 = (-2) then (if ((S_40.1 10) + x3_46) ≤ 200 then (fb_vl 0 (fun x4_49 => pX8_cut_l118 5000 S_40 x1_43 x2_45 x3_46 x4_49)) else (fb_b2 (pX8_refused S_40 3) (fun r_51 S_52 => some (r_51, S_52)))) else (fb_bd (pX8_reckons S_40 x1_43 x2_45) (fun S_54 => fb_bd (pX8_longest S_54 x1_43 x2_45) (fun r_56 => fb_vl r_56 (fun x4_57 => pX8_cut_l54 5000 S_54 x1_43 x2_45 x3_46 x4_57)))))))))))
def pX8_coreOf (S : Sg) (x1 : Int32) : Option (Int32) :=
  fb_ck x1 200 (fb_ck (S.2 12 x1.toNatClampNeg) 5 (fb_ck x1 200 (fb_ck (S.2 12 x1.toNatClampNeg) 5 (fb_ck x1 200 (some (if 20 < ((S.2 1 (S.2 12 x1.toNatClampNeg).toNatClampNeg) - ((S.2 2 (S.2 12 x1.toNatClampNeg).toNatClampNeg) * ((S.1 6) - (S.2 15 x1.toNatClampNeg)))) then ((S.2 1 (S.2 12 x1.toNatClampNeg).toNatClampNeg) - ((S.2 2 (S.2 12 x1.toNatClampNeg).toNatClampNeg) * ((S.1 6) - (S.2 15 x1.toNatClampNeg)))) else 20))))))
def pX8_isHot (S : Sg) (x1 : Int32) : Option (Int32) :=
  fb_bd (pX8_coreOf S x1) (fun r_2 => if r_2 ≤ 60 then (fb_cb 0 (some 0)) else (fb_cb 1 (some 1)))
def pX8_isCured (S : Sg) (x1 : Int32) : Option (Int32) :=
  fb_ck x1 200 (if (S.2 11 x1.toNatClampNeg) = 2 then (fb_cb 0 (some 0)) else (fb_ck x1 200 (if (S.2 16 x1.toNatClampNeg) < 24 then (fb_cb 0 (some 0)) else (fb_bd (pX8_isHot S x1) (fun r_6 => if r_6 = (0 : Int32) then (fb_cb 1 (some 1)) else (fb_cb 0 (some 0)))))))
def pX8_placeOf_l2 (S : Sg) : Nat → Int32 → Int32 → Option (Int32)
  | 0, _, _ => none
  | n + 1, x1, x2 =>
    if 24 ≤ x2 then (some (-1)) else (fb_ck x2 24 (if (S.2 17 x2.toNatClampNeg) = x1 then (some x2) else (fb_vl (x2 + 1) (fun x2_4 => (pX8_placeOf_l2 S n) x1 x2_4))))
def pX8_placeOf (S : Sg) (x1 : Int32) : Option (Int32) :=
  fb_vl 0 (fun x2_5 => pX8_placeOf_l2 S 5000 x1 x2_5)
def pX8_block (S : Sg) (x1 x2 : Int32) : Option (Int32 × Sg) :=
  fb_st (sS S 0 0) (fun S_1 => if x1 < (0 : Int32) then (some ((-1), S_1)) else (if x1 < (S_1.1 10) then (if x2 = 0 then (fb_ck x1 200 (some ((S_1.2 11 x1.toNatClampNeg), S_1))) else (if x2 = 1 then (fb_ck x1 200 (some ((S_1.2 12 x1.toNatClampNeg), S_1))) else (if x2 = 2 then (fb_ck x1 200 (some ((S_1.2 13 x1.toNatClampNeg), S_1))) else (if x2 = 3 then (fb_ck x1 200 (some ((S_1.2 14 x1.toNatClampNeg), S_1))) else (if x2 = 4 then (fb_bd (pX8_coreOf S_1 x1) (fun r_14 => some (r_14, S_1))) else (if x2 = 5 then (fb_bd (pX8_isCured S_1 x1) (fun r_17 => if r_17 = (0 : Int32) then (some (0, S_1)) else (some (1, S_1)))) else (if x2 = 6 then (fb_bd (pX8_placeOf S_1 x1) (fun r_21 => some (r_21, S_1))) else (if x2 = 7 then (fb_ck x1 200 (some ((S_1.2 16 x1.toNatClampNeg), S_1))) else (some ((-1), S_1)))))))))) else (some ((-1), S_1))))
def pX8_hasHot (S : Sg) (x1 : Int32) : Option (Int32) :=
  fb_bd (pX8_in S x1 0 23) (fun r_2 => if r_2 = (0 : Int32) then (fb_cb 0 (some 0)) else (fb_ck x1 24 (if (S.2 17 x1.toNatClampNeg) = (-2) then (fb_cb 0 (some 0)) else (fb_ck x1 24 (fb_bd (pX8_isHot S (S.2 17 x1.toNatClampNeg)) (fun r_8 => if r_8 = (0 : Int32) then (fb_cb 0 (some 0)) else (fb_cb 1 (some 1))))))))
def pX8_lay_l38 (k9 : Sg → Int32 → Int32 → Option (Int32 × Sg)) : Nat → Sg → Int32 → Int32 → Int32 → Int32 → Int32 → Option (Int32 × Sg)
  | 0, _, _, _, _, _, _ => none
  | n + 1, T, x1, x2, x3, x4, x5 =>
    if x5 < (0 : Int32) then (if x3 = (-1) then (fb_bd (pX8_isHot T x2) (fun r_12 => if r_12 = (0 : Int32) then (fb_vl x4 (fun x3_22 => if x3_22 = (-1) then (fb_vl (x2 + 1) (fun x2_30 => k9 T x1 x2_30)) else (fb_ck x3_22 24 (fb_st (sA T 17 x3_22 x2) (fun S_24 => fb_ck x2 200 (fb_st (sA S_24 11 x2 1) (fun S_26 => fb_vl (x1 + 1) (fun x1_28 => fb_vl (x2 + 1) (fun x2_29 => k9 S_26 x1_28 x2_29))))))))) else (if x3 = (-1) then (fb_vl (x2 + 1) (fun x2_21 => k9 T x1 x2_21)) else (fb_ck x3 24 (fb_st (sA T 17 x3 x2) (fun S_15 => fb_ck x2 200 (fb_st (sA S_15 11 x2 1) (fun S_17 => fb_vl (x1 + 1) (fun x1_19 => fb_vl (x2 + 1) (fun x2_20 => k9 S_17 x1_19 x2_20)))))))))) else (if x3 = (-1) then (fb_vl (x2 + 1) (fun x2_10 => k9 T x1 x2_10)) else (fb_ck x3 24 (fb_st (sA T 17 x3 x2) (fun S_4 => fb_ck x2 200 (fb_st (sA S_4 11 x2 1) (fun S_6 => fb_vl (x1 + 1) (fun x1_8 => fb_vl (x2 + 1) (fun x2_9 => k9 S_6 x1_8 x2_9))))))))) else (fb_ck x5 24 (if (T.2 17 x5.toNatClampNeg) = (-2) then (if x4 = (-1) then (fb_vl x5 (fun x4_45 => fb_bd (pX8_hasHot T (x5 - 1)) (fun r_47 => if r_47 = (0 : Int32) then (fb_bd (pX8_hasHot T (x5 + 1)) (fun r_51 => if r_51 = (0 : Int32) then (fb_vl x5 (fun x3_54 => fb_vl (x5 + (-1)) (fun x5_55 => (pX8_lay_l38 k9 n) T x1 x2 x3_54 x4_45 x5_55))) else (fb_vl (x5 + (-1)) (fun x5_53 => (pX8_lay_l38 k9 n) T x1 x2 x3 x4_45 x5_53)))) else (fb_vl (x5 + (-1)) (fun x5_49 => (pX8_lay_l38 k9 n) T x1 x2 x3 x4_45 x5_49))))) else (fb_vl x4 (fun x4_34 => fb_bd (pX8_hasHot T (x5 - 1)) (fun r_36 => if r_36 = (0 : Int32) then (fb_bd (pX8_hasHot T (x5 + 1)) (fun r_40 => if r_40 = (0 : Int32) then (fb_vl x5 (fun x3_43 => fb_vl (x5 + (-1)) (fun x5_44 => (pX8_lay_l38 k9 n) T x1 x2 x3_43 x4_34 x5_44))) else (fb_vl (x5 + (-1)) (fun x5_42 => (pX8_lay_l38 k9 n) T x1 x2 x3 x4_34 x5_42)))) else (fb_vl (x5 + (-1)) (fun x5_38 => (pX8_lay_l38 k9 n) T x1 x2 x3 x4_34 x5_38)))))) else (fb_vl (x5 + (-1)) (fun x5_56 => (pX8_lay_l38 k9 n) T x1 x2 x3 x4 x5_56))))
def pX8_lay_l9 : Nat → Sg → Int32 → Int32 → Option (Int32 × Sg)
  | 0, _, _, _ => none
  | n + 1, T, x1, x2 =>
    if (T.1 10) ≤ x2 then (some (x1, T)) else (fb_ck x2 200 (if (T.2 11 x2.toNatClampNeg) = (0 : Int32) then (fb_vl (-1) (fun x3_60 => fb_vl (-1) (fun x4_61 => fb_vl 23 (fun x5_62 => pX8_lay_l38 (pX8_lay_l9 n) 5000 T x1 x2 x3_60 x4_61 x5_62)))) else (fb_vl (x2 + 1) (fun x2_63 => (pX8_lay_l9 n) T x1 x2_63))))
def pX8_lay (S : Sg) : Option (Int32 × Sg) :=
  fb_st (sS S 0 0) (fun S_64 => fb_vl 0 (fun x1_65 => fb_vl 0 (fun x2_66 => pX8_lay_l9 5000 S_64 x1_65 x2_66)))
def pX8_place (S : Sg) (x1 : Int32) : Option (Int32 × Sg) :=
  fb_st (sS S 0 0) (fun S_1 => fb_bd (pX8_in S_1 x1 0 23) (fun r_3 => if r_3 = (0 : Int32) then (some ((-1), S_1)) else (fb_ck x1 24 (some ((S_1.2 17 x1.toNatClampNeg), S_1)))))
def pX8_lift (S : Sg) (x1 : Int32) : Option (Int32 × Sg) :=
  fb_st (sS S 0 0) (fun S_1 => if x1 < (0 : Int32) then (fb_b2 (pX8_denied S_1 1) (fun r_4 S_5 => fb_cb r_4 (some (r_4, S_5)))) else (if x1 < (S_1.1 10) then (fb_ck x1 200 (if (S_1.2 11 x1.toNatClampNeg) = 1 then (fb_bd (pX8_placeOf S_1 x1) (fun r_10 => fb_ck r_10 24 (fb_st (sA S_1 17 r_10 (-2)) (fun S_11 => fb_ck x1 200 (fb_st (sA S_11 11 x1 0) (fun S_13 => fb_b2 (pX8_granted S_13) (fun r_16 S_17 => fb_cb r_16 (some (r_16, S_17))))))))) else (fb_b2 (pX8_denied S_1 4) (fun r_19 S_20 => fb_cb r_19 (some (r_19, S_20)))))) else (fb_b2 (pX8_denied S_1 1) (fun r_22 S_23 => fb_cb r_22 (some (r_22, S_23))))))
def pX8_pass_l45 : Nat → Sg → Int32 → Int32 → Option (Int32 × Sg)
  | 0, _, _, _ => none
  | n + 1, T, x1, x2 =>
    if (T.1 10) ≤ x2 then (fb_b2 (pX8_done T (T.1 6)) (fun r_3 S_4 => some (r_3, S_4))) else (fb_ck x2 200 (fb_ck x2 200 (if (T.2 11 x2.toNatClampNeg) = 1 then (fb_ck x2 200 (fb_st (sA T 16 x2 ((T.2 16 x2.toNatClampNeg) + x1)) (fun S_11 => fb_vl (x2 + 1) (fun x2_13 => (pX8_pass_l45 n) S_11 x1 x2_13)))) else (fb_ck x2 200 (fb_st (sA T 16 x2 ((T.2 16 x2.toNatClampNeg) + 0)) (fun S_8 => fb_vl (x2 + 1) (fun x2_10 => (pX8_pass_l45 n) S_8 x1 x2_10)))))))
def pX8_pass (S : Sg) (x1 : Int32) : Option (Int32 × Sg) :=
  fb_st (sS S 0 0) (fun S_14 => fb_bd (pX8_in S_14 x1 1 100) (fun r_16 => if r_16 = (0 : Int32) then (fb_b2 (pX8_refused S_14 2) (fun r_19 S_20 => some (r_19, S_20))) else (if ((S_14.1 6) + x1) ≤ 3000 then (fb_st (sS S_14 6 ((S_14.1 6) + x1)) (fun S_22 => fb_vl 0 (fun x2_23 => pX8_pass_l45 5000 S_22 x1 x2_23))) else (fb_b2 (pX8_refused S_14 2) (fun r_25 S_26 => some (r_25, S_26))))))
def pX8_piecesOf_l107 (k2 : Sg → Int32 → Int32 → Int32 → Option (Int32 × Sg)) (k13 : Sg → Int32 → Int32 → Int32 → Int32 → Option (Int32 × Sg)) : Nat → Sg → Int32 → Int32 → Int32 → Int32 → Int32 → Int32 → Option (Int32 × Sg)
  | 0, _, _, _, _, _, _, _ => none
  | n + 1, T, x1, x2, x3, x4, x5, x6 =>
    fb_c0 2 (if (x4 / 2) < x6 then (fb_ck ((61 * x3) + x4) 3721 (fb_st (sA T 18 ((61 * x3) + x4) x5) (fun S_3 => fb_vl (x4 + 1) (fun x4_5 => k13 S_3 x1 x2 x3 x4_5)))) else (fb_ck ((61 * x3) + x6) 3721 (fb_ck (((61 * x3) + x4) - x6) 3721 (fb_vl (if x5 < ((T.2 18 ((61 * x3) + x6).toNatClampNeg) + (T.2 18 (((61 * x3) + x4) - x6).toNatClampNeg)) then ((T.2 18 ((61 * x3) + x6).toNatClampNeg) + (T.2 18 (((61 * x3) + x4) - x6).toNatClampNeg)) else x5) (fun x5_8 => fb_vl (x6 + 1) (fun x6_9 => (pX8_piecesOf_l107 k2 k13 n) T x1 x2 x3 x4 x5_8 x6_9))))))
def pX8_piecesOf_l54 (k2 : Sg → Int32 → Int32 → Int32 → Option (Int32 × Sg)) (k13 : Sg → Int32 → Int32 → Int32 → Int32 → Option (Int32 × Sg)) : Nat → Sg → Int32 → Int32 → Int32 → Int32 → Int32 → Int32 → Option (Int32 × Sg)
  | 0, _, _, _, _, _, _, _ => none
  | n + 1, T, x1, x2, x3, x4, x5, x6 =>
    fb_c0 2 (if (x3 / 2) < x6 then (fb_vl 1 (fun x6_12 => pX8_piecesOf_l107 k2 k13 5000 T x1 x2 x3 x4 x5 x6_12)) else (fb_ck ((61 * x6) + x4) 3721 (fb_ck ((61 * (x3 - x6)) + x4) 3721 (fb_vl (if x5 < ((T.2 18 ((61 * x6) + x4).toNatClampNeg) + (T.2 18 ((61 * (x3 - x6)) + x4).toNatClampNeg)) then ((T.2 18 ((61 * x6) + x4).toNatClampNeg) + (T.2 18 ((61 * (x3 - x6)) + x4).toNatClampNeg)) else x5) (fun x5_15 => fb_vl (x6 + 1) (fun x6_16 => (pX8_piecesOf_l54 k2 k13 n) T x1 x2 x3 x4 x5_15 x6_16))))))
def pX8_piecesOf_l13 (k2 : Sg → Int32 → Int32 → Int32 → Option (Int32 × Sg)) : Nat → Sg → Int32 → Int32 → Int32 → Int32 → Option (Int32 × Sg)
  | 0, _, _, _, _, _ => none
  | n + 1, T, x1, x2, x3, x4 =>
    if (T.1 5) < x4 then (fb_vl (x3 + 1) (fun x3_18 => k2 T x1 x2 x3_18)) else (if x3 < x1 then (if x3 < x2 then (fb_vl 0 (fun x5_21 => fb_vl 1 (fun x6_22 => pX8_piecesOf_l54 k2 (pX8_piecesOf_l13 k2 n) 5000 T x1 x2 x3 x4 x5_21 x6_22))) else (if x4 < x1 then (fb_vl 0 (fun x5_24 => fb_vl 1 (fun x6_25 => pX8_piecesOf_l54 k2 (pX8_piecesOf_l13 k2 n) 5000 T x1 x2 x3 x4 x5_24 x6_25))) else (fb_vl 1 (fun x5_26 => fb_vl 1 (fun x6_27 => pX8_piecesOf_l54 k2 (pX8_piecesOf_l13 k2 n) 5000 T x1 x2 x3 x4 x5_26 x6_27))))) else (if x2 ≤ x4 then (fb_vl 1 (fun x5_29 => fb_vl 1 (fun x6_30 => pX8_piecesOf_l54 k2 (pX8_piecesOf_l13 k2 n) 5000 T x1 x2 x3 x4 x5_29 x6_30))) else (if x3 < x2 then (fb_vl 0 (fun x5_32 => fb_vl 1 (fun x6_33 => pX8_piecesOf_l54 k2 (pX8_piecesOf_l13 k2 n) 5000 T x1 x2 x3 x4 x5_32 x6_33))) else (if x4 < x1 then (fb_vl 0 (fun x5_35 => fb_vl 1 (fun x6_36 => pX8_piecesOf_l54 k2 (pX8_piecesOf_l13 k2 n) 5000 T x1 x2 x3 x4 x5_35 x6_36))) else (fb_vl 1 (fun x5_37 => fb_vl 1 (fun x6_38 => pX8_piecesOf_l54 k2 (pX8_piecesOf_l13 k2 n) 5000 T x1 x2 x3 x4 x5_37 x6_38)))))))
def pX8_piecesOf_l2 : Nat → Sg → Int32 → Int32 → Int32 → Option (Int32 × Sg)
  | 0, _, _, _, _ => none
  | n + 1, T, x1, x2, x3 =>
    if (T.1 4) < x3 then (fb_ck ((61 * (T.1 4)) + (T.1 5)) 3721 (some ((T.2 18 ((61 * (T.1 4)) + (T.1 5)).toNatClampNeg), T))) else (fb_vl 0 (fun x4_41 => pX8_piecesOf_l13 (pX8_piecesOf_l2 n) 5000 T x1 x2 x3 x4_41))
def pX8_piecesOf (S : Sg) (x1 x2 : Int32) : Option (Int32 × Sg) :=
  fb_vl 0 (fun x3_42 => pX8_piecesOf_l2 5000 S x1 x2 x3_42)
def pX8_pieces (S : Sg) (x1 x2 : Int32) : Option (Int32 × Sg) :=
  fb_st (sS S 0 0) (fun S_1 => fb_bd (pX8_in S_1 x1 1 60) (fun r_3 => if r_3 = (0 : Int32) then (fb_b2 (pX8_refused S_1 2) (fun r_6 S_7 => some (r_6, S_7))) else (fb_bd (pX8_in S_1 x2 1 60) (fun r_9 => if r_9 = (0 : Int32) then (fb_b2 (pX8_refused S_1 2) (fun r_12 S_13 => some (r_12, S_13))) else (fb_b2 (pX8_piecesOf S_1 x1 x2) (fun r_15 S_16 => fb_b2 (pX8_done S_16 r_15) (fun r_18 S_19 => some (r_18, S_19))))))))
def pX8_order (S : Sg) (x1 x2 x3 x4 x5 : Int32) : Option (Int32 × Sg) :=
  fb_st (sS S 0 0) (fun S_1 => fb_bd (pX8_isKind S_1 x1) (fun r_3 => if r_3 = (0 : Int32) then (fb_b2 (pX8_refused S_1 1) (fun r_6 S_7 => some (r_6, S_7))) else (fb_bd (pX8_isLength S_1 x2) (fun r_9 => if r_9 = (0 : Int32) then (fb_b2 (pX8_refused S_1 1) (fun r_49 S_50 => some (r_49, S_50))) else (fb_bd (pX8_in S_1 x3 1 60) (fun r_12 => if r_12 = (0 : Int32) then (fb_b2 (pX8_refused S_1 2) (fun r_15 S_16 => some (r_15, S_16))) else (fb_bd (pX8_in S_1 x4 1 60) (fun r_18 => if r_18 = (0 : Int32) then (fb_b2 (pX8_refused S_1 2) (fun r_21 S_22 => some (r_21, S_22))) else (fb_bd (pX8_in S_1 x5 1 500) (fun r_24 => if r_24 = (0 : Int32) then (fb_b2 (pX8_refused S_1 2) (fun r_46 S_47 => some (r_46, S_47))) else (if (S_1.1 11) = 40 then (fb_b2 (pX8_refused S_1 3) (fun r_43 S_44 => some (r_43, S_44))) else (fb_ck (S_1.1 11) 40 (fb_st (sA S_1 19 (S_1.1 11) x1) (fun S_27 => fb_ck x2 6 (fb_ck (S_27.1 11) 40 (fb_st (sA S_27 20 (S_27.1 11) (S_27.2 4 x2.toNatClampNeg)) (fun S_30 => fb_ck (S_30.1 11) 40 (fb_st (sA S_30 21 (S_30.1 11) x3) (fun S_32 => fb_ck (S_32.1 11) 40 (fb_st (sA S_32 22 (S_32.1 11) x4) (fun S_34 => fb_ck (S_34.1 11) 40 (fb_st (sA S_34 23 (S_34.1 11) x5) (fun S_36 => fb_st (sS S_36 11 ((S_36.1 11) + 1)) (fun S_38 => fb_b2 (pX8_done S_38 ((S_38.1 11) - 1)) (fun r_40 S_41 => some (r_40, S_41))))))))))))))))))))))))))
def pX8_isOrder (S : Sg) (x1 : Int32) : Option (Int32) :=
  if x1 < (0 : Int32) then (fb_cb 0 (some 0)) else (if (S.1 11) ≤ x1 then (fb_cb 0 (some 0)) else (fb_cb 1 (some 1)))
def pX8_nextFor_l4 (S : Sg) : Nat → Int32 → Int32 → Int32 → Option (Int32)
  | 0, _, _, _ => none
  | n + 1, x1, x2, x3 =>
    if (S.1 10) ≤ x3 then (some x2) else (fb_ck x3 200 (if (S.2 28 x3.toNatClampNeg) = (0 : Int32) then (fb_ck x3 200 (if (S.2 11 x3.toNatClampNeg) = 2 then (fb_vl (x3 + 1) (fun x3_7 => (pX8_nextFor_l4 S n) x1 x2 x3_7)) else (fb_ck x3 200 (fb_ck x1 40 (if (S.2 12 x3.toNatClampNeg) = (S.2 19 x1.toNatClampNeg) then (fb_ck x3 200 (fb_ck x1 40 (if (S.2 13 x3.toNatClampNeg) = (S.2 20 x1.toNatClampNeg) then (fb_bd (pX8_isCured S x3) (fun r_17 => if r_17 = (0 : Int32) then (fb_vl (x3 + 1) (fun x3_28 => (pX8_nextFor_l4 S n) x1 x2 x3_28)) else (if x2 = (-1) then (fb_vl x3 (fun x2_20 => fb_vl (x3 + 1) (fun x3_21 => (pX8_nextFor_l4 S n) x1 x2_20 x3_21))) else (fb_ck x3 200 (fb_ck x2 200 (if (S.2 16 x3.toNatClampNeg) ≤ (S.2 16 x2.toNatClampNeg) then (fb_vl (x3 + 1) (fun x3_25 => (pX8_nextFor_l4 S n) x1 x2 x3_25)) else (fb_vl x3 (fun x2_26 => fb_vl (x3 + 1) (fun x3_27 => (pX8_nextFor_l4 S n) x1 x2_26 x3_27))))))))) else (fb_vl (x3 + 1) (fun x3_15 => (pX8_nextFor_l4 S n) x1 x2 x3_15))))) else (fb_vl (x3 + 1) (fun x3_11 => (pX8_nextFor_l4 S n) x1 x2 x3_11))))))) else (fb_vl (x3 + 1) (fun x3_4 => (pX8_nextFor_l4 S n) x1 x2 x3_4))))
def pX8_nextFor (S : Sg) (x1 : Int32) : Option (Int32) :=
  fb_vl (-1) (fun x2_29 => fb_vl 0 (fun x3_30 => pX8_nextFor_l4 S 5000 x1 x2_29 x3_30))
def pX8_takes (S : Sg) (x1 x2 x3 : Int32) : Option (Sg) :=
  fb_ck x1 200 (if (S.2 11 x1.toNatClampNeg) = 1 then (fb_bd (pX8_placeOf S x1) (fun r_11 => fb_ck r_11 24 (fb_st (sA S 17 r_11 (-2)) (fun S_12 => fb_ck x1 200 (fb_st (sA S_12 11 x1 2) (fun S_14 => fb_ck x1 200 (fb_st (sA S_14 26 x1 x2) (fun S_16 => fb_ck x1 200 (fb_c0 100 (fb_st (sS S_16 7 ((S_16.1 7) + (((((S_16.1 4) * (S_16.1 5)) - (x3 * x2)) * (S_16.2 13 x1.toNatClampNeg)) / 100))) (fun S_20 => some S_20))))))))))) else (fb_ck x1 200 (fb_st (sA S 11 x1 2) (fun S_3 => fb_ck x1 200 (fb_st (sA S_3 26 x1 x2) (fun S_5 => fb_ck x1 200 (fb_c0 100 (fb_st (sS S_5 7 ((S_5.1 7) + (((((S_5.1 4) * (S_5.1 5)) - (x3 * x2)) * (S_5.2 13 x1.toNatClampNeg)) / 100))) (fun S_9 => some S_9)))))))))
def pX8_fill_l194 : Nat → Sg → Int32 → Int32 → Int32 → Int32 → Int32 → Option (Int32 × Sg)
  | 0, _, _, _, _, _, _ => none
  | n + 1, T, x1, x2, x3, x6, x7 =>
    if x3 ≤ x7 then (fb_b2 (pX8_done T x3) (fun r_3 S_4 => some (r_3, S_4))) else (fb_vl (if x6 < x2 then x6 else x2) (fun x8_5 => fb_vl (x6 - x8_5) (fun x6_6 => fb_ck ((200 * x1) + x7) 8000 (fb_ck x1 40 (fb_ck x1 40 (fb_bd (pX8_takes T (T.2 25 ((200 * x1) + x7).toNatClampNeg) x8_5 ((T.2 21 x1.toNatClampNeg) * (T.2 22 x1.toNatClampNeg))) (fun S_11 => fb_vl (x7 + 1) (fun x7_12 => (pX8_fill_l194 n) S_11 x1 x2 x3 x6_6 x7_12))))))))
def pX8_fill_l94 : Nat → Sg → Int32 → Int32 → Int32 → Int32 → Int32 → Option (Int32 × Sg)
  | 0, _, _, _, _, _, _ => none
  | n + 1, T, x1, x2, x3, x4, x5 =>
    fb_ck x1 40 (if (T.2 23 x1.toNatClampNeg) ≤ x4 then (fb_ck x1 40 (if (T.2 23 x1.toNatClampNeg) ≤ x4 then (fb_ck x1 40 (fb_st (sA T 27 x1 (vp_nar .boolean 1)) (fun S_17 => fb_ck x1 40 (fb_st (sA S_17 24 x1 x3) (fun S_19 => fb_ck x1 40 (fb_vl (S_19.2 23 x1.toNatClampNeg) (fun x6_22 => fb_vl 0 (fun x7_23 => pX8_fill_l194 5000 S_19 x1 x2 x3 x6_22 x7_23)))))))) else (fb_b2 (pX8_refused T 5) (fun r_25 S_26 => some (r_25, S_26))))) else (if x5 = (-1) then (fb_ck x1 40 (if (T.2 23 x1.toNatClampNeg) ≤ x4 then (fb_ck x1 40 (fb_st (sA T 27 x1 (vp_nar .boolean 1)) (fun S_30 => fb_ck x1 40 (fb_st (sA S_30 24 x1 x3) (fun S_32 => fb_ck x1 40 (fb_vl (S_32.2 23 x1.toNatClampNeg) (fun x6_35 => fb_vl 0 (fun x7_36 => pX8_fill_l194 5000 S_32 x1 x2 x3 x6_35 x7_36)))))))) else (fb_b2 (pX8_refused T 5) (fun r_38 S_39 => some (r_38, S_39))))) else (fb_ck x5 200 (fb_st (sA T 28 x5 (vp_nar .boolean 1)) (fun S_40 => fb_ck ((200 * x1) + x3) 8000 (fb_st (sA S_40 25 ((200 * x1) + x3) x5) (fun S_42 => fb_vl (x3 + 1) (fun x3_44 => fb_vl (x4 + x2) (fun x4_45 => fb_bd (pX8_nextFor S_42 x1) (fun r_47 => fb_vl r_47 (fun x5_48 => (pX8_fill_l94 n) S_42 x1 x2 x3_44 x4_45 x5_48)))))))))))
def pX8_fill_l53 : Nat → Sg → Int32 → Int32 → Int32 → Option (Int32 × Sg)
  | 0, _, _, _, _ => none
  | n + 1, T, x1, x2, x3 =>
    if (T.1 10) ≤ x3 then (fb_vl 0 (fun x3_50 => fb_vl 0 (fun x4_51 => if x2 = (0 : Int32) then (fb_vl (-1) (fun x5_56 => pX8_fill_l94 5000 T x1 x2 x3_50 x4_51 x5_56)) else (fb_bd (pX8_nextFor T x1) (fun r_54 => fb_vl r_54 (fun x5_55 => pX8_fill_l94 5000 T x1 x2 x3_50 x4_51 x5_55)))))) else (fb_ck x3 200 (fb_st (sA T 28 x3 (vp_nar .boolean 0)) (fun S_57 => fb_vl (x3 + 1) (fun x3_59 => (pX8_fill_l53 n) S_57 x1 x2 x3_59))))
def pX8_fill (S : Sg) (x1 : Int32) : Option (Int32 × Sg) :=
  fb_st (sS S 0 0) (fun S_60 => fb_bd (pX8_isOrder S_60 x1) (fun r_62 => if r_62 = (0 : Int32) then (fb_b2 (pX8_refused S_60 1) (fun r_77 S_78 => some (r_77, S_78))) else (fb_ck x1 40 (if (S_60.2 27 x1.toNatClampNeg) = (0 : Int32) then (fb_ck x1 40 (fb_ck x1 40 (fb_b2 (pX8_piecesOf S_60 (S_60.2 21 x1.toNatClampNeg) (S_60.2 22 x1.toNatClampNeg)) (fun r_69 S_70 => fb_vl r_69 (fun x2_71 => fb_vl 0 (fun x3_72 => pX8_fill_l53 5000 S_70 x1 x2_71 x3_72)))))) else (fb_b2 (pX8_refused S_60 4) (fun r_74 S_75 => some (r_74, S_75)))))))
def pX8_by (S : Sg) (x1 x2 : Int32) : Option (Int32 × Sg) :=
  fb_bd (pX8_isOrder S x1) (fun r_2 => if r_2 = (0 : Int32) then (fb_st (sS S 0 1) (fun S_4 => if (S_4.1 0) ≤ (0 : Int32) then (fb_ck ((200 * x1) + x2) 8000 (some ((S_4.2 25 ((200 * x1) + x2).toNatClampNeg), S_4))) else (some (0, S_4)))) else (if x2 < (0 : Int32) then (fb_st (sS S 0 1) (fun S_8 => if (S_8.1 0) ≤ (0 : Int32) then (fb_ck ((200 * x1) + x2) 8000 (some ((S_8.2 25 ((200 * x1) + x2).toNatClampNeg), S_8))) else (some (0, S_8)))) else (fb_ck x1 40 (if x2 < (S.2 24 x1.toNatClampNeg) then (fb_st (sS S 0 0) (fun S_13 => if (S_13.1 0) ≤ (0 : Int32) then (fb_ck ((200 * x1) + x2) 8000 (some ((S_13.2 25 ((200 * x1) + x2).toNatClampNeg), S_13))) else (some (0, S_13)))) else (fb_st (sS S 0 1) (fun S_16 => if (S_16.1 0) ≤ (0 : Int32) then (fb_ck ((200 * x1) + x2) 8000 (some ((S_16.2 25 ((200 * x1) + x2).toNatClampNeg), S_16))) else (some (0, S_16))))))))
def pX8_led_l9 : Nat → Sg → Int32 → Int32 → Int32 → Option (Int32 × Sg)
  | 0, _, _, _, _ => none
  | n + 1, T, x1, x2, x3 =>
    if (T.1 10) ≤ x3 then (some (x2, T)) else (fb_ck x3 200 (if (T.2 14 x3.toNatClampNeg) = x1 then (fb_ck x3 200 (fb_vl (x2 + (T.2 26 x3.toNatClampNeg)) (fun x2_7 => fb_vl (x3 + 1) (fun x3_8 => (pX8_led_l9 n) T x1 x2_7 x3_8)))) else (fb_vl (x2 + 0) (fun x2_4 => fb_vl (x3 + 1) (fun x3_5 => (pX8_led_l9 n) T x1 x2_4 x3_5)))))
def pX8_led (S : Sg) (x1 : Int32) : Option (Int32 × Sg) :=
  fb_st (sS S 0 0) (fun S_9 => fb_vl 0 (fun x2_10 => fb_vl 0 (fun x3_11 => pX8_led_l9 5000 S_9 x1 x2_10 x3_11)))
def pX8_shred (S : Sg) : Option (Int32 × Sg) :=
  fb_st (sS S 0 0) (fun S_1 => fb_vl (S_1.1 7) (fun x1_2 => fb_st (sS S_1 7 0) (fun S_3 => some (x1_2, S_3))))
def pX8_count_l136 : Nat → Sg → Int32 → Int32 → Option (Int32 × Sg)
  | 0, _, _, _ => none
  | n + 1, T, x2, x3 =>
    if (T.1 11) ≤ x3 then (some (x2, T)) else (fb_ck x3 40 (if (T.2 27 x3.toNatClampNeg) = (0 : Int32) then (fb_vl (x2 + 0) (fun x2_4 => fb_vl (x3 + 1) (fun x3_5 => (pX8_count_l136 n) T x2_4 x3_5))) else (fb_vl (x2 + 1) (fun x2_6 => fb_vl (x3 + 1) (fun x3_7 => (pX8_count_l136 n) T x2_6 x3_7)))))
def pX8_count_l96 : Nat → Sg → Int32 → Int32 → Option (Int32 × Sg)
  | 0, _, _, _ => none
  | n + 1, T, x2, x3 =>
    if 24 ≤ x3 then (some (x2, T)) else (fb_ck x3 24 (if (T.2 17 x3.toNatClampNeg) = (-2) then (fb_vl (x2 + 0) (fun x2_11 => fb_vl (x3 + 1) (fun x3_12 => (pX8_count_l96 n) T x2_11 x3_12))) else (fb_vl (x2 + 1) (fun x2_13 => fb_vl (x3 + 1) (fun x3_14 => (pX8_count_l96 n) T x2_13 x3_14)))))
def pX8_count (S : Sg) (x1 : Int32) : Option (Int32 × Sg) :=
  fb_st (sS S 0 0) (fun S_15 => fb_vl 0 (fun x2_16 => if x1 = 0 then (some ((S_15.1 2), S_15)) else (if x1 = 1 then (some ((S_15.1 3), S_15)) else (if x1 = 2 then (some ((S_15.1 8), S_15)) else (if x1 = 3 then (fb_bd (pX8_belt S_15) (fun r_22 => some (r_22, S_15))) else (if x1 = 4 then (some ((S_15.1 9), S_15)) else (if x1 = 5 then (some ((S_15.1 10), S_15)) else (if x1 = 6 then (fb_vl 0 (fun x3_26 => pX8_count_l96 5000 S_15 x2_16 x3_26)) else (if x1 = 7 then (some ((S_15.1 11), S_15)) else (if x1 = 8 then (fb_vl 0 (fun x3_29 => pX8_count_l136 5000 S_15 x2_16 x3_29)) else (if x1 = 9 then (some ((S_15.1 6), S_15)) else (some ((-1), S_15)))))))))))))
def pX8_trouble (S : Sg) : Option (Int32 × Sg) :=
  fb_st (sS S 0 0) (fun S_1 => some ((S_1.1 1), S_1))
