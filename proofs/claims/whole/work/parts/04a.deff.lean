def pX0_has (S : Sg) (x1 : Int32) : Option (Int32) :=
  if x1 < (0 : Int32) then (fb_cb 0 (some 0)) else (if (S.1 6) ≤ x1 then (fb_cb 0 (some 0)) else (fb_cb 1 (some 1)))
def pX0_lastKind (S : Sg) : Option (Int32) :=
  if (S.1 6) ≤ (0 : Int32) then (some (-1)) else (fb_ck ((S.1 6) - 1) 60 (some (S.2 15 ((S.1 6) - 1).toNatClampNeg)))
def pX0_hasRoom (S : Sg) (x1 x2 x3 : Int32) : Option (Int32) :=
  if x2 ≤ (0 : Int32) then (fb_bd (pX0_lastKind S) (fun r_3 => if r_3 = x1 then (fb_vl (0 + 0) (fun x4_8 => if 60 < ((S.1 6) + x4_8) then (fb_cb 0 (some 0)) else (if 2000 < (((S.1 7) + x2) + x3) then (fb_cb 0 (some 0)) else (fb_cb 1 (some 1))))) else (fb_vl (0 + 1) (fun x4_5 => if 60 < ((S.1 6) + x4_5) then (fb_cb 0 (some 0)) else (if 2000 < (((S.1 7) + x2) + x3) then (fb_cb 0 (some 0)) else (fb_cb 1 (some 1))))))) else (fb_bd (pX0_lastKind S) (fun r_12 => if r_12 = x1 then (fb_vl (1 + 0) (fun x4_17 => if 60 < ((S.1 6) + x4_17) then (fb_cb 0 (some 0)) else (if 2000 < (((S.1 7) + x2) + x3) then (fb_cb 0 (some 0)) else (fb_cb 1 (some 1))))) else (fb_vl (1 + 1) (fun x4_14 => if 60 < ((S.1 6) + x4_14) then (fb_cb 0 (some 0)) else (if 2000 < (((S.1 7) + x2) + x3) then (fb_cb 0 (some 0)) else (fb_cb 1 (some 1)))))))
def pX0_begin (S : Sg) (x1 x2 x3 : Int32) : Option (Sg) :=
  fb_ck (S.1 6) 60 (fb_st (sA S 15 (S.1 6) x1) (fun S_1 => fb_ck (S_1.1 6) 60 (fb_st (sA S_1 17 (S_1.1 6) x2) (fun S_3 => fb_ck (S_3.1 6) 60 (fb_st (sA S_3 16 (S_3.1 6) x3) (fun S_5 => fb_st (sS S_5 6 ((S_5.1 6) + 1)) (fun S_7 => fb_st (sS S_7 7 ((S_7.1 7) + x3)) (fun S_8 => some S_8))))))))
def pX0_append (S : Sg) (x1 x2 x3 : Int32) : Option (Sg) :=
  if x2 ≤ (0 : Int32) then (fb_bd (pX0_lastKind S) (fun r_3 => if r_3 = x1 then (fb_ck ((S.1 6) - 1) 60 (fb_ck ((S.1 6) - 1) 60 (fb_st (sA S 16 ((S.1 6) - 1) ((S.2 16 ((S.1 6) - 1).toNatClampNeg) + x3)) (fun S_9 => fb_st (sS S_9 7 ((S_9.1 7) + x3)) (fun S_11 => some S_11))))) else (fb_bd (pX0_begin S x1 (S.1 8) x3) (fun S_6 => fb_st (sS S_6 8 ((S_6.1 8) + 1)) (fun S_7 => some S_7))))) else (fb_bd (pX0_begin S (-2) (-2) x2) (fun S_13 => fb_bd (pX0_lastKind S_13) (fun r_15 => if r_15 = x1 then (fb_ck ((S_13.1 6) - 1) 60 (fb_ck ((S_13.1 6) - 1) 60 (fb_st (sA S_13 16 ((S_13.1 6) - 1) ((S_13.2 16 ((S_13.1 6) - 1).toNatClampNeg) + x3)) (fun S_21 => fb_st (sS S_21 7 ((S_21.1 7) + x3)) (fun S_23 => some S_23))))) else (fb_bd (pX0_begin S_13 x1 (S_13.1 8) x3) (fun S_18 => fb_st (sS S_18 8 ((S_18.1 8) + 1)) (fun S_19 => some S_19))))))
def pX0_dropFirst (S : Sg) : Option (Sg) :=
  fb_ck 0 60 (fb_st (sS S 7 ((S.1 7) - (S.2 16 (0 : Int32).toNatClampNeg))) (fun S_2 => fb_st (sS S_2 6 ((S_2.1 6) - 1)) (fun S_3 => fb_cc 1 0 (S_3.1 6) 60 (fb_st (sC S_3 15 1 0 (S_3.1 6)) (fun S_4 => fb_cc 1 0 (S_4.1 6) 60 (fb_st (sC S_4 16 1 0 (S_4.1 6)) (fun S_6 => fb_cc 1 0 (S_6.1 6) 60 (fb_st (sC S_6 17 1 0 (S_6.1 6)) (fun S_8 => some S_8)))))))))
def pX4_worthOf (S : Sg) (x1 x2 : Int32) : Option (Int32) :=
  fb_ck ((x1 * 5) + x2) 30 (some (S.2 12 ((x1 * 5) + x2).toNatClampNeg))
def pX1_worthWith (S : Sg) (x1 x2 x3 : Int32) : Option (Int32) :=
  fb_bd (pX4_worthOf S x1 x2) (fun r_2 => fb_ck x1 6 (fb_ck (x3 - (S.2 11 x1.toNatClampNeg)) 2001 (some (r_2 + (S.2 13 (x3 - (S.2 11 x1.toNatClampNeg)).toNatClampNeg)))))
def pX1_mostOfOneMore_l5 (S : Sg) : Nat → Int32 → Int32 → Int32 → Int32 → Option (Int32)
  | 0, _, _, _, _ => none
  | n + 1, x1, x2, x3, x4 =>
    if (S.1 3) ≤ x4 then (some x3) else (fb_ck x4 6 (if x2 < (S.2 11 x4.toNatClampNeg) then (fb_vl (x4 + 1) (fun x4_4 => (pX1_mostOfOneMore_l5 S n) x1 x2 x3 x4_4)) else (fb_bd (pX1_worthWith S x4 x1 x2) (fun r_6 => fb_vl (if x3 < r_6 then r_6 else x3) (fun x3_7 => fb_vl (x4 + 1) (fun x4_8 => (pX1_mostOfOneMore_l5 S n) x1 x2 x3_7 x4_8))))))
def pX1_mostOfOneMore (S : Sg) (x1 x2 : Int32) : Option (Int32) :=
  fb_vl 0 (fun x3_9 => fb_vl 0 (fun x4_10 => pX1_mostOfOneMore_l5 S 5000 x1 x2 x3_9 x4_10))
def pX1_mostWorth_l2 : Nat → Sg → Int32 → Int32 → Int32 → Option (Int32 × Sg)
  | 0, _, _, _, _ => none
  | n + 1, T, x1, x2, x3 =>
    if x2 < x3 then (fb_ck x2 2001 (some ((T.2 13 x2.toNatClampNeg), T))) else (fb_bd (pX1_mostOfOneMore T x1 x3) (fun r_4 => fb_ck x3 2001 (fb_st (sA T 13 x3 r_4) (fun S_5 => fb_vl (x3 + 1) (fun x3_7 => (pX1_mostWorth_l2 n) S_5 x1 x2 x3_7)))))
def pX1_mostWorth (S : Sg) (x1 x2 : Int32) : Option (Int32 × Sg) :=
  fb_vl 0 (fun x3_8 => pX1_mostWorth_l2 5000 S x1 x2 x3_8)
def pX1_longestNext_j58 (S : Sg) (k4 : Int32 → Int32 → Int32 → Option (Int32)) (x1 x2 x3 t0 : Int32) : Option (Int32) :=
  fb_vl t0 (fun x4_1 => if x4_1 = (0 : Int32) then (fb_vl (x3 + 1) (fun x3_3 => k4 x1 x2 x3_3)) else (if x2 = (-1) then (fb_vl x3 (fun x2_5 => fb_vl (x3 + 1) (fun x3_6 => k4 x1 x2_5 x3_6))) else (fb_ck x3 6 (fb_ck x2 6 (if (S.2 11 x3.toNatClampNeg) ≤ (S.2 11 x2.toNatClampNeg) then (fb_vl (x3 + 1) (fun x3_10 => k4 x1 x2 x3_10)) else (fb_vl x3 (fun x2_11 => fb_vl (x3 + 1) (fun x3_12 => k4 x1 x2_11 x3_12))))))))
def pX1_longestNext_l4 (S : Sg) : Nat → Int32 → Int32 → Int32 → Option (Int32)
  | 0, _, _, _ => none
  | n + 1, x1, x2, x3 =>
    if (S.1 3) ≤ x3 then (some x2) else (fb_ck x3 6 (if (S.1 5) < (S.2 11 x3.toNatClampNeg) then (pX1_longestNext_j58 S (pX1_longestNext_l4 S n) x1 x2 x3 0) else (fb_bd (pX1_worthWith S x3 x1 (S.1 5)) (fun r_17 => fb_ck (S.1 5) 2001 (if r_17 = (S.2 13 (S.1 5).toNatClampNeg) then (pX1_longestNext_j58 S (pX1_longestNext_l4 S n) x1 x2 x3 1) else (pX1_longestNext_j58 S (pX1_longestNext_l4 S n) x1 x2 x3 0))))))
def pX1_longestNext (S : Sg) (x1 : Int32) : Option (Int32) :=
  fb_vl (-1) (fun x2_20 => fb_vl 0 (fun x3_21 => pX1_longestNext_l4 S 5000 x1 x2_20 x3_21))
def pX1_make_l20 : Nat → Sg → Int32 → Int32 → Int32 → Option (Int32 × Sg)
  | 0, _, _, _, _ => none
  | n + 1, T, x1, x3, x4 =>
    if x3 < x4 then (fb_cb 0 (some (0, T))) else (fb_bd (pX1_longestNext T x1) (fun r_3 => fb_vl r_3 (fun x5_4 => if x5_4 = (-1) then (fb_cb 1 (some (1, T))) else (if x3 ≤ x4 then (fb_vl (x4 + 1) (fun x4_7 => (pX1_make_l20 n) T x1 x3 x4_7)) else (fb_ck x5_4 6 (fb_ck x4 200 (fb_st (sA T 14 x4 (T.2 11 x5_4.toNatClampNeg)) (fun S_9 => fb_st (sS S_9 4 ((S_9.1 4) + 1)) (fun S_11 => fb_ck x4 200 (fb_st (sS S_11 5 ((S_11.1 5) - (S_11.2 14 x4.toNatClampNeg))) (fun S_13 => fb_vl (x4 + 1) (fun x4_14 => (pX1_make_l20 n) S_13 x1 x3 x4_14))))))))))))
def pX1_make (S : Sg) (x1 x2 x3 : Int32) : Option (Int32 × Sg) :=
  fb_b2 (pX1_mostWorth S x1 x2) (fun r_16 S_17 => fb_st (sS S_17 4 0) (fun S_18 => fb_st (sS S_18 5 x2) (fun S_19 => fb_vl 0 (fun x4_20 => pX1_make_l20 5000 S_19 x1 x3 x4_20))))
def pX2_area (S : Sg) : Option (Int32) :=
  some ((S.1 11) * (S.1 12))
def pX2_markSums_j57 (k9 : Sg → Int32 → Int32 → Int32 → Option (Sg)) (T : Sg) (x1 x2 x3 t0 t1 : Int32) : Option (Sg) :=
  fb_ck t1 61 (fb_st (sA T 29 t1 (vp_nar .boolean t0)) (fun S_1 => fb_vl (x3 + 1) (fun x3_3 => k9 S_1 x1 x2 x3_3)))
def pX2_markSums_l9 : Nat → Sg → Int32 → Int32 → Int32 → Option (Sg)
  | 0, _, _, _, _ => none
  | n + 1, T, x1, x2, x3 =>
    if 61 ≤ x3 then (some T) else (if x3 < x1 then (if x3 < x2 then (pX2_markSums_j57 (pX2_markSums_l9 n) T x1 x2 x3 0 x3) else (fb_ck (x3 - x2) 61 (if (T.2 29 (x3 - x2).toNatClampNeg) = (0 : Int32) then (pX2_markSums_j57 (pX2_markSums_l9 n) T x1 x2 x3 0 x3) else (pX2_markSums_j57 (pX2_markSums_l9 n) T x1 x2 x3 1 x3)))) else (fb_ck (x3 - x1) 61 (if (T.2 29 (x3 - x1).toNatClampNeg) = (0 : Int32) then (if x3 < x2 then (pX2_markSums_j57 (pX2_markSums_l9 n) T x1 x2 x3 0 x3) else (fb_ck (x3 - x2) 61 (if (T.2 29 (x3 - x2).toNatClampNeg) = (0 : Int32) then (pX2_markSums_j57 (pX2_markSums_l9 n) T x1 x2 x3 0 x3) else (pX2_markSums_j57 (pX2_markSums_l9 n) T x1 x2 x3 1 x3)))) else (pX2_markSums_j57 (pX2_markSums_l9 n) T x1 x2 x3 1 x3))))
def pX2_markSums (S : Sg) (x1 x2 : Int32) : Option (Sg) :=
  fb_ck 0 61 (fb_st (sA S 29 0 (vp_nar .boolean 1)) (fun S_14 => fb_vl 1 (fun x3_16 => pX2_markSums_l9 5000 S_14 x1 x2 x3_16)))
def pX2_mostOf_l168 (S : Sg) : Nat → Int32 → Int32 → Int32 → Int32 → Int32 → Option (Int32)
  | 0, _, _, _, _, _ => none
  | n + 1, x1, x2, x6, x7, x8 =>
    fb_c0 2 (if (x2 / 2) < x8 then (some x7) else (if x6 ≤ x7 then (some x7) else (fb_ck x8 61 (if (S.2 29 x8.toNatClampNeg) = (0 : Int32) then (fb_vl (x8 + 1) (fun x8_6 => (pX2_mostOf_l168 S n) x1 x2 x6 x7 x8_6)) else (fb_ck ((x1 * 61) + x8) 3721 (fb_ck (((x1 * 61) + x2) - x8) 3721 (fb_vl (if x7 < ((S.2 28 ((x1 * 61) + x8).toNatClampNeg) + (S.2 28 (((x1 * 61) + x2) - x8).toNatClampNeg)) then ((S.2 28 ((x1 * 61) + x8).toNatClampNeg) + (S.2 28 (((x1 * 61) + x2) - x8).toNatClampNeg)) else x7) (fun x7_9 => fb_vl (x8 + 1) (fun x8_10 => (pX2_mostOf_l168 S n) x1 x2 x6 x7_9 x8_10)))))))))
def pX2_mostOf_l100 (S : Sg) : Nat → Int32 → Int32 → Int32 → Int32 → Int32 → Option (Int32)
  | 0, _, _, _, _, _ => none
  | n + 1, x1, x2, x6, x7, x8 =>
    fb_c0 2 (if (x1 / 2) < x8 then (fb_vl 1 (fun x8_13 => pX2_mostOf_l168 S 5000 x1 x2 x6 x7 x8_13)) else (if x6 ≤ x7 then (fb_vl 1 (fun x8_15 => pX2_mostOf_l168 S 5000 x1 x2 x6 x7 x8_15)) else (fb_ck x8 61 (if (S.2 29 x8.toNatClampNeg) = (0 : Int32) then (fb_vl (x8 + 1) (fun x8_18 => (pX2_mostOf_l100 S n) x1 x2 x6 x7 x8_18)) else (fb_ck ((x8 * 61) + x2) 3721 (fb_ck (((x1 - x8) * 61) + x2) 3721 (fb_vl (if x7 < ((S.2 28 ((x8 * 61) + x2).toNatClampNeg) + (S.2 28 (((x1 - x8) * 61) + x2).toNatClampNeg)) then ((S.2 28 ((x8 * 61) + x2).toNatClampNeg) + (S.2 28 (((x1 - x8) * 61) + x2).toNatClampNeg)) else x7) (fun x7_21 => fb_vl (x8 + 1) (fun x8_22 => (pX2_mostOf_l100 S n) x1 x2 x6 x7_21 x8_22)))))))))
def pX2_mostOf_j95 (S : Sg)  (x1 x2 x6 t0 : Int32) : Option (Int32) :=
  fb_vl t0 (fun x7_23 => fb_vl 1 (fun x8_24 => pX2_mostOf_l100 S 5000 x1 x2 x6 x7_23 x8_24))
def pX2_mostOf_j73 (S : Sg)  (x1 x2 x3 x4 t0 : Int32) : Option (Int32) :=
  fb_vl t0 (fun x5_25 => fb_c0 (x3 * x4) (fb_vl ((x1 * x2) / (x3 * x4)) (fun x6_27 => if x5_25 = (0 : Int32) then (pX2_mostOf_j95 S x1 x2 x6_27 0) else (pX2_mostOf_j95 S x1 x2 x6_27 1))))
def pX2_mostOf (S : Sg) (x1 x2 x3 x4 : Int32) : Option (Int32) :=
  fb_ck x1 61 (if (S.2 29 x1.toNatClampNeg) = (0 : Int32) then (fb_ck (((x1 - 1) * 61) + x2) 3721 (some (S.2 28 (((x1 - 1) * 61) + x2).toNatClampNeg))) else (fb_ck x2 61 (if (S.2 29 x2.toNatClampNeg) = (0 : Int32) then (fb_ck (((x1 * 61) + x2) - 1) 3721 (some (S.2 28 (((x1 * 61) + x2) - 1).toNatClampNeg))) else (if x1 < x3 then (if x1 < x4 then (pX2_mostOf_j73 S x1 x2 x3 x4 0) else (if x2 < x3 then (pX2_mostOf_j73 S x1 x2 x3 x4 0) else (pX2_mostOf_j73 S x1 x2 x3 x4 1))) else (if x4 ≤ x2 then (pX2_mostOf_j73 S x1 x2 x3 x4 1) else (if x1 < x4 then (pX2_mostOf_j73 S x1 x2 x3 x4 0) else (if x2 < x3 then (pX2_mostOf_j73 S x1 x2 x3 x4 0) else (pX2_mostOf_j73 S x1 x2 x3 x4 1))))))))
def pX2_mostPieces_l31 (k20 : Sg → Int32 → Int32 → Int32 → Option (Int32 × Sg)) : Nat → Sg → Int32 → Int32 → Int32 → Int32 → Option (Int32 × Sg)
  | 0, _, _, _, _, _ => none
  | n + 1, T, x1, x2, x3, x4 =>
    if (T.1 12) < x4 then (fb_vl (x3 + 1) (fun x3_2 => k20 T x1 x2 x3_2)) else (fb_bd (pX2_mostOf T x3 x4 x1 x2) (fun r_4 => fb_ck ((x3 * 61) + x4) 3721 (fb_st (sA T 28 ((x3 * 61) + x4) r_4) (fun S_5 => fb_vl (x4 + 1) (fun x4_7 => (pX2_mostPieces_l31 k20 n) S_5 x1 x2 x3 x4_7)))))
def pX2_mostPieces_l20 : Nat → Sg → Int32 → Int32 → Int32 → Option (Int32 × Sg)
  | 0, _, _, _, _ => none
  | n + 1, T, x1, x2, x3 =>
    if (T.1 11) < x3 then (fb_ck (((T.1 11) * 61) + (T.1 12)) 3721 (some ((T.2 28 (((T.1 11) * 61) + (T.1 12)).toNatClampNeg), T))) else (fb_vl 1 (fun x4_10 => pX2_mostPieces_l31 (pX2_mostPieces_l20 n) 5000 T x1 x2 x3 x4_10))
def pX2_mostPieces (S : Sg) (x1 x2 : Int32) : Option (Int32 × Sg) :=
  if x1 < 1 then (some (0, S)) else (if 1 ≤ x2 then (fb_bd (pX2_markSums S x1 x2) (fun S_14 => fb_vl 1 (fun x3_15 => pX2_mostPieces_l20 5000 S_14 x1 x2 x3_15))) else (some (0, S)))
def pX3_has (S : Sg) (x1 : Int32) : Option (Int32) :=
  if x1 < (0 : Int32) then (fb_cb 0 (some 0)) else (if (S.1 2) ≤ x1 then (fb_cb 0 (some 0)) else (fb_cb 1 (some 1)))
def pX3_add (S : Sg) (x1 x2 : Int32) : Option (Int32 × Sg) :=
  fb_ck (S.1 2) 5 (fb_st (sA S 8 (S.1 2) x1) (fun S_1 => fb_ck (S_1.1 2) 5 (fb_st (sA S_1 9 (S_1.1 2) x2) (fun S_3 => fb_st (sS S_3 2 ((S_3.1 2) + 1)) (fun S_5 => some (((S_5.1 2) - 1), S_5))))))
def pX3_setMixed (S : Sg) (x1 x2 x3 : Int32) : Option (Sg) :=
  fb_ck ((x1 * 5) + x2) 25 (fb_st (sA S 10 ((x1 * 5) + x2) x3) (fun S_1 => some S_1))
def pX3_mixedBetween (S : Sg) (x1 x2 : Int32) : Option (Int32) :=
  fb_ck ((x1 * 5) + x2) 25 (some (S.2 10 ((x1 * 5) + x2).toNatClampNeg))
def pX4_has (S : Sg) (x1 : Int32) : Option (Int32) :=
  if x1 < (0 : Int32) then (fb_cb 0 (some 0)) else (if (S.1 3) ≤ x1 then (fb_cb 0 (some 0)) else (fb_cb 1 (some 1)))
def pX4_isTold_l2 (S : Sg) : Nat → Int32 → Int32 → Option (Int32)
  | 0, _, _ => none
  | n + 1, x1, x2 =>
    if (S.1 3) ≤ x2 then (fb_cb 0 (some 0)) else (fb_ck x2 6 (if (S.2 11 x2.toNatClampNeg) = x1 then (fb_cb 1 (some 1)) else (fb_vl (x2 + 1) (fun x2_4 => (pX4_isTold_l2 S n) x1 x2_4))))
def pX4_isTold (S : Sg) (x1 : Int32) : Option (Int32) :=
  fb_vl 0 (fun x2_5 => pX4_isTold_l2 S 5000 x1 x2_5)
def pX4_add (S : Sg) (x1 : Int32) : Option (Int32 × Sg) :=
  fb_ck (S.1 3) 6 (fb_st (sA S 11 (S.1 3) x1) (fun S_1 => fb_st (sS S_1 3 ((S_1.1 3) + 1)) (fun S_3 => some (((S_3.1 3) - 1), S_3))))
def pX4_setWorth (S : Sg) (x1 x2 x3 : Int32) : Option (Sg) :=
  fb_ck ((x1 * 5) + x2) 30 (fb_st (sA S 12 ((x1 * 5) + x2) x3) (fun S_1 => some S_1))
def pX5_has (S : Sg) (x1 : Int32) : Option (Int32) :=
  if x1 < (0 : Int32) then (fb_cb 0 (some 0)) else (if (S.1 14) ≤ x1 then (fb_cb 0 (some 0)) else (fb_cb 1 (some 1)))
def pX5_isFilled (S : Sg) (x1 : Int32) : Option (Int32) :=
  fb_ck x1 40 (if (S.2 35 x1.toNatClampNeg) ≤ (0 : Int32) then (fb_cb 0 (some 0)) else (fb_cb 1 (some 1)))
def pX5_add (S : Sg) (x1 x2 x3 x4 x5 : Int32) : Option (Int32 × Sg) :=
  fb_ck (S.1 14) 40 (fb_st (sA S 30 (S.1 14) x1) (fun S_1 => fb_ck (S_1.1 14) 40 (fb_st (sA S_1 31 (S_1.1 14) x2) (fun S_3 => fb_ck (S_3.1 14) 40 (fb_st (sA S_3 32 (S_3.1 14) x3) (fun S_5 => fb_ck (S_5.1 14) 40 (fb_st (sA S_5 33 (S_5.1 14) x4) (fun S_7 => fb_ck (S_7.1 14) 40 (fb_st (sA S_7 34 (S_7.1 14) x5) (fun S_9 => fb_st (sS S_9 14 ((S_9.1 14) + 1)) (fun S_11 => some (((S_11.1 14) - 1), S_11))))))))))))
def pX5_beginTaking (S : Sg) (x1 : Int32) : Option (Sg) :=
  fb_ck x1 40 (fb_st (sA S 36 x1 (S.1 13)) (fun S_1 => fb_st (sS S_1 15 ((S_1.1 15) + 1)) (fun S_3 => some S_3)))
def pX5_take (S : Sg) (x1 x2 : Int32) : Option (Sg) :=
  if 200 ≤ (S.1 13) then (some S) else (fb_ck (S.1 13) 200 (fb_st (sA S 37 (S.1 13) x2) (fun S_2 => fb_st (sS S_2 13 ((S_2.1 13) + 1)) (fun S_4 => fb_ck x1 40 (fb_ck x1 40 (fb_st (sA S_4 35 x1 ((S_4.2 35 x1.toNatClampNeg) + 1)) (fun S_6 => some S_6)))))))
def pX5_takenAt (S : Sg) (x1 x2 : Int32) : Option (Int32) :=
  fb_ck x1 40 (fb_ck ((S.2 36 x1.toNatClampNeg) + x2) 200 (some (S.2 37 ((S.2 36 x1.toNatClampNeg) + x2).toNatClampNeg)))
def pX6_has (S : Sg) (x1 : Int32) : Option (Int32) :=
  if x1 < (0 : Int32) then (fb_cb 0 (some 0)) else (if (S.1 9) ≤ x1 then (fb_cb 0 (some 0)) else (fb_cb 1 (some 1)))
def pX6_add (S : Sg) (x1 x2 x3 x4 x5 : Int32) : Option (Sg) :=
  fb_ck (S.1 9) 200 (fb_st (sA S 18 (S.1 9) x1) (fun S_1 => fb_ck (S_1.1 9) 200 (fb_st (sA S_1 19 (S_1.1 9) x2) (fun S_3 => fb_ck (S_3.1 9) 200 (fb_st (sA S_3 20 (S_3.1 9) x3) (fun S_5 => fb_ck (S_5.1 9) 200 (fb_st (sA S_5 21 (S_5.1 9) x4) (fun S_7 => fb_ck (S_7.1 9) 200 (fb_st (sA S_7 22 (S_7.1 9) x5) (fun S_9 => fb_ck (S_9.1 9) 200 (fb_st (sA S_9 23 (S_9.1 9) (S_9.1 10)) (fun S_11 => fb_ck (S_11.1 9) 200 (fb_st (sA S_11 25 (S_11.1 9) (-1)) (fun S_13 => fb_st (sS S_13 9 ((S_13.1 9) + 1)) (fun S_15 => some S_15)))))))))))))))
def pX6_state (S : Sg) (x1 : Int32) : Option (Int32) :=
  fb_ck x1 200 (if (S.2 26 x1.toNatClampNeg) ≤ (0 : Int32) then (fb_ck x1 200 (if (S.2 25 x1.toNatClampNeg) = (-1) then (some 0) else (some 1))) else (some 2))
def pX6_core (S : Sg) (x1 : Int32) : Option (Int32) :=
  fb_ck x1 200 (fb_ck x1 200 (fb_ck x1 200 (fb_vl ((S.2 19 x1.toNatClampNeg) - ((S.2 20 x1.toNatClampNeg) * ((S.1 10) - (S.2 23 x1.toNatClampNeg)))) (fun x2_4 => if 20 ≤ x2_4 then (some x2_4) else (some 20)))))
def pX6_isHot (S : Sg) (x1 : Int32) : Option (Int32) :=
  fb_bd (pX6_core S x1) (fun r_2 => if r_2 ≤ 60 then (fb_cb 0 (some 0)) else (fb_cb 1 (some 1)))
def pX6_isCured (S : Sg) (x1 : Int32) : Option (Int32) :=
  fb_bd (pX6_state S x1) (fun r_2 => if r_2 = 2 then (fb_cb 0 (some 0)) else (fb_ck x1 200 (if (S.2 24 x1.toNatClampNeg) < 24 then (fb_cb 0 (some 0)) else (fb_bd (pX6_isHot S x1) (fun r_7 => if r_7 = (0 : Int32) then (fb_cb 1 (some 1)) else (fb_cb 0 (some 0)))))))
def pX6_hasHot (S : Sg) (x1 : Int32) : Option (Int32) :=
  if x1 < (0 : Int32) then (fb_cb 0 (some 0)) else (if 24 ≤ x1 then (fb_cb 0 (some 0)) else (fb_ck x1 24 (if (S.2 27 x1.toNatClampNeg) = (-2) then (fb_cb 0 (some 0)) else (fb_ck x1 24 (fb_bd (pX6_isHot S (S.2 27 x1.toNatClampNeg)) (fun r_7 => if r_7 = (0 : Int32) then (fb_cb 0 (some 0)) else (fb_cb 1 (some 1))))))))
def pX6_firstCalmPlace_l2 (S : Sg) : Nat → Int32 → Option (Int32)
  | 0, _ => none
  | n + 1, x1 =>
    if 24 ≤ x1 then (some (-1)) else (fb_ck x1 24 (if (S.2 27 x1.toNatClampNeg) = (-2) then (fb_bd (pX6_hasHot S (x1 - 1)) (fun r_6 => if r_6 = (0 : Int32) then (fb_bd (pX6_hasHot S (x1 + 1)) (fun r_10 => if r_10 = (0 : Int32) then (some x1) else (fb_vl (x1 + 1) (fun x1_12 => (pX6_firstCalmPlace_l2 S n) x1_12)))) else (fb_vl (x1 + 1) (fun x1_8 => (pX6_firstCalmPlace_l2 S n) x1_8)))) else (fb_vl (x1 + 1) (fun x1_4 => (pX6_firstCalmPlace_l2 S n) x1_4))))
def pX6_firstCalmPlace (S : Sg) : Option (Int32) :=
  fb_vl 0 (fun x1_13 => pX6_firstCalmPlace_l2 S 5000 x1_13)
def pX6_lastFreePlace_l3 (S : Sg) : Nat → Int32 → Option (Int32)
  | 0, _ => none
  | n + 1, x1 =>
    if x1 < (0 : Int32) then (some (-1)) else (fb_ck x1 24 (if (S.2 27 x1.toNatClampNeg) = (-2) then (some x1) else (fb_vl (x1 + (-1)) (fun x1_4 => (pX6_lastFreePlace_l3 S n) x1_4))))
def pX6_lastFreePlace (S : Sg) : Option (Int32) :=
  fb_vl 23 (fun x1_5 => pX6_lastFreePlace_l3 S 5000 x1_5)
def pX6_layOne (S : Sg) (x1 : Int32) : Option (Int32 × Sg) :=
  fb_bd (pX6_firstCalmPlace S) (fun r_2 => fb_vl r_2 (fun x2_3 => if x2_3 = (-1) then (fb_bd (pX6_isHot S x1) (fun r_11 => if r_11 = (0 : Int32) then (fb_bd (pX6_lastFreePlace S) (fun r_19 => fb_vl r_19 (fun x2_20 => if x2_20 = (-1) then (fb_cb 0 (some (0, S))) else (fb_ck x2_20 24 (fb_st (sA S 27 x2_20 x1) (fun S_22 => fb_ck x1 200 (fb_st (sA S_22 25 x1 x2_20) (fun S_24 => fb_cb 1 (some (1, S_24)))))))))) else (if x2_3 = (-1) then (fb_cb 0 (some (0, S))) else (fb_ck x2_3 24 (fb_st (sA S 27 x2_3 x1) (fun S_14 => fb_ck x1 200 (fb_st (sA S_14 25 x1 x2_3) (fun S_16 => fb_cb 1 (some (1, S_16)))))))))) else (if x2_3 = (-1) then (fb_cb 0 (some (0, S))) else (fb_ck x2_3 24 (fb_st (sA S 27 x2_3 x1) (fun S_6 => fb_ck x1 200 (fb_st (sA S_6 25 x1 x2_3) (fun S_8 => fb_cb 1 (some (1, S_8))))))))))
def pX6_layAll_l4 : Nat → Sg → Int32 → Int32 → Option (Int32 × Sg)
  | 0, _, _, _ => none
  | n + 1, T, x1, x2 =>
    if (T.1 9) ≤ x2 then (some (x1, T)) else (fb_bd (pX6_state T x2) (fun r_3 => if r_3 = (0 : Int32) then (fb_b2 (pX6_layOne T x2) (fun r_7 S_8 => if r_7 = (0 : Int32) then (fb_vl (x2 + 1) (fun x2_10 => (pX6_layAll_l4 n) S_8 x1 x2_10)) else (fb_vl (x1 + 1) (fun x1_11 => fb_vl (x2 + 1) (fun x2_12 => (pX6_layAll_l4 n) S_8 x1_11 x2_12))))) else (fb_vl (x2 + 1) (fun x2_5 => (pX6_layAll_l4 n) T x1 x2_5))))
def pX6_layAll (S : Sg) : Option (Int32 × Sg) :=
  fb_vl 0 (fun x1_13 => fb_vl 0 (fun x2_14 => pX6_layAll_l4 5000 S x1_13 x2_14))
def pX6_placesTaken_l4 (S : Sg) : Nat → Int32 → Int32 → Option (Int32)
  | 0, _, _ => none
  | n + 1, x1, x2 =>
    if 24 ≤ x2 then (some x1) else (fb_ck x2 24 (if (S.2 27 x2.toNatClampNeg) = (-2) then (fb_vl (x2 + 1) (fun x2_4 => (pX6_placesTaken_l4 S n) x1 x2_4)) else (fb_vl (x1 + 1) (fun x1_5 => fb_vl (x2 + 1) (fun x2_6 => (pX6_placesTaken_l4 S n) x1_5 x2_6)))))
def pX6_placesTaken (S : Sg) : Option (Int32) :=
  fb_vl 0 (fun x1_7 => fb_vl 0 (fun x2_8 => pX6_placesTaken_l4 S 5000 x1_7 x2_8))
def pX6_takeOut (S : Sg) (x1 : Int32) : Option (Sg) :=
  fb_ck x1 200 (if (S.2 25 x1.toNatClampNeg) = (-1) then (some S) else (fb_ck x1 200 (fb_ck (S.2 25 x1.toNatClampNeg) 24 (fb_st (sA S 27 (S.2 25 x1.toNatClampNeg) (-2)) (fun S_4 => fb_ck x1 200 (fb_st (sA S_4 25 x1 (-1)) (fun S_6 => some S_6)))))))
def pX6_goOn_l12 : Nat → Sg → Int32 → Int32 → Option (Sg)
  | 0, _, _, _ => none
  | n + 1, T, x1, x2 =>
    if 24 ≤ x2 then (some T) else (fb_ck x2 24 (if (T.2 27 x2.toNatClampNeg) = (-2) then (fb_vl (x2 + 1) (fun x2_4 => (pX6_goOn_l12 n) T x1 x2_4)) else (fb_ck x2 24 (fb_ck (T.2 27 x2.toNatClampNeg) 200 (fb_ck (T.2 27 x2.toNatClampNeg) 200 (fb_st (sA T 24 (T.2 27 x2.toNatClampNeg) ((T.2 24 (T.2 27 x2.toNatClampNeg).toNatClampNeg) + x1)) (fun S_7 => fb_vl (x2 + 1) (fun x2_9 => (pX6_goOn_l12 n) S_7 x1 x2_9))))))))
def pX6_goOn (S : Sg) (x1 : Int32) : Option (Sg) :=
  fb_st (sS S 10 ((S.1 10) + x1)) (fun S_10 => fb_vl 0 (fun x2_11 => pX6_goOn_l12 5000 S_10 x1 x2_11))
def pX6_isCuredOf (S : Sg) (x1 x2 x3 : Int32) : Option (Int32) :=
  fb_ck x1 200 (if (S.2 18 x1.toNatClampNeg) = x2 then (fb_ck x1 200 (if (S.2 21 x1.toNatClampNeg) = x3 then (fb_bd (pX6_isCured S x1) (fun r_6 => if r_6 = (0 : Int32) then (fb_cb 0 (some 0)) else (fb_cb 1 (some 1)))) else (fb_cb 0 (some 0)))) else (fb_cb 0 (some 0)))
def pX6_curedOf_l5 (S : Sg) : Nat → Int32 → Int32 → Int32 → Int32 → Option (Int32)
  | 0, _, _, _, _ => none
  | n + 1, x1, x2, x3, x4 =>
    if (S.1 9) ≤ x4 then (some x3) else (fb_bd (pX6_isCuredOf S x4 x1 x2) (fun r_3 => if r_3 = (0 : Int32) then (fb_vl (x4 + 1) (fun x4_5 => (pX6_curedOf_l5 S n) x1 x2 x3 x4_5)) else (fb_vl (x3 + 1) (fun x3_6 => fb_vl (x4 + 1) (fun x4_7 => (pX6_curedOf_l5 S n) x1 x2 x3_6 x4_7)))))
def pX6_curedOf (S : Sg) (x1 x2 : Int32) : Option (Int32) :=
  fb_vl 0 (fun x3_8 => fb_vl 0 (fun x4_9 => pX6_curedOf_l5 S 5000 x1 x2 x3_8 x4_9))
def pX6_longestCured_l5 (S : Sg) : Nat → Int32 → Int32 → Int32 → Int32 → Option (Int32)
  | 0, _, _, _, _ => none
  | n + 1, x1, x2, x3, x4 =>
    if (S.1 9) ≤ x4 then (some x3) else (fb_bd (pX6_isCuredOf S x4 x1 x2) (fun r_3 => fb_vl r_3 (fun x5_4 => if x5_4 = (0 : Int32) then (fb_vl (x4 + 1) (fun x4_6 => (pX6_longestCured_l5 S n) x1 x2 x3 x4_6)) else (if x3 = (-1) then (fb_vl x4 (fun x3_8 => fb_vl (x4 + 1) (fun x4_9 => (pX6_longestCured_l5 S n) x1 x2 x3_8 x4_9))) else (fb_ck x4 200 (fb_ck x3 200 (if (S.2 24 x4.toNatClampNeg) ≤ (S.2 24 x3.toNatClampNeg) then (fb_vl (x4 + 1) (fun x4_13 => (pX6_longestCured_l5 S n) x1 x2 x3 x4_13)) else (fb_vl x4 (fun x3_14 => fb_vl (x4 + 1) (fun x4_15 => (pX6_longestCured_l5 S n) x1 x2 x3_14 x4_15))))))))))
def pX6_longestCured (S : Sg) (x1 x2 : Int32) : Option (Int32) :=
  fb_vl (-1) (fun x3_16 => fb_vl 0 (fun x4_17 => pX6_longestCured_l5 S 5000 x1 x2 x3_16 x4_17))
def pX6_use (S : Sg) (x1 x2 : Int32) : Option (Sg) :=
  fb_bd (pX6_takeOut S x1) (fun S_2 => fb_ck x1 200 (fb_st (sA S_2 26 x1 x2) (fun S_3 => some S_3)))
def pX6_piecesOfLot_l4 (S : Sg) : Nat → Int32 → Int32 → Int32 → Option (Int32)
  | 0, _, _, _ => none
  | n + 1, x1, x2, x3 =>
    if (S.1 9) ≤ x3 then (some x2) else (fb_ck x3 200 (if (S.2 22 x3.toNatClampNeg) = x1 then (fb_ck x3 200 (fb_vl (x2 + (S.2 26 x3.toNatClampNeg)) (fun x2_6 => fb_vl (x3 + 1) (fun x3_7 => (pX6_piecesOfLot_l4 S n) x1 x2_6 x3_7)))) else (fb_vl (x3 + 1) (fun x3_4 => (pX6_piecesOfLot_l4 S n) x1 x2 x3_4))))
def pX6_piecesOfLot (S : Sg) (x1 : Int32) : Option (Int32) :=
  fb_vl 0 (fun x2_8 => fb_vl 0 (fun x3_9 => pX6_piecesOfLot_l4 S 5000 x1 x2_8 x3_9))
def pX7_within (S : Sg) (x0 x1 x2 : Int32) : Option (Int32) :=
  if x0 < x1 then (fb_cb 0 (some 0)) else (if x2 < x0 then (fb_cb 0 (some 0)) else (fb_cb 1 (some 1)))
def pX7_refused (S : Sg) (x1 : Int32) : Option (Int32 × Sg) :=
  fb_st (sS S 1 x1) (fun S_1 => some ((-1), S_1))
def pX7_answered (S : Sg) (x1 : Int32) : Option (Int32 × Sg) :=
  fb_st (sS S 1 0) (fun S_1 => some (x1, S_1))
def pX7_kind (S : Sg) (x1 x2 : Int32) : Option (Int32 × Sg) :=
  fb_bd (pX7_within S x1 40 180) (fun r_2 => if r_2 = (0 : Int32) then (fb_b2 (pX7_refused S 2) (fun r_5 S_6 => some (r_5, S_6))) else (fb_bd (pX7_within S x2 1 20) (fun r_8 => if r_8 = (0 : Int32) then (fb_b2 (pX7_refused S 2) (fun r_21 S_22 => some (r_21, S_22))) else (if (S.1 2) < 5 then (fb_b2 (pX3_add S x1 x2) (fun r_12 S_13 => fb_b2 (pX7_answered S_13 r_12) (fun r_15 S_16 => some (r_15, S_16)))) else (fb_b2 (pX7_refused S 3) (fun r_18 S_19 => some (r_18, S_19)))))))
def pX7_denied (S : Sg) (x1 : Int32) : Option (Int32 × Sg) :=
  fb_st (sS S 1 x1) (fun S_1 => fb_cb 0 (some (0, S_1)))
def pX7_granted (S : Sg) : Option (Int32 × Sg) :=
  fb_st (sS S 1 0) (fun S_1 => fb_cb 1 (some (1, S_1)))
def pX7_change (S : Sg) (x1 x2 x3 : Int32) : Option (Int32 × Sg) :=
  fb_bd (pX3_has S x1) (fun r_2 => if r_2 = (0 : Int32) then (fb_b2 (pX7_denied S 1) (fun r_5 S_6 => fb_cb r_5 (some (r_5, S_6)))) else (fb_bd (pX3_has S x2) (fun r_8 => if r_8 = (0 : Int32) then (fb_b2 (pX7_denied S 1) (fun r_11 S_12 => fb_cb r_11 (some (r_11, S_12)))) else (if x1 = x2 then (fb_b2 (pX7_denied S 1) (fun r_26 S_27 => fb_cb r_26 (some (r_26, S_27)))) else (fb_bd (pX7_within S x3 0 60) (fun r_15 => if r_15 = (0 : Int32) then (fb_b2 (pX7_denied S 2) (fun r_23 S_24 => fb_cb r_23 (some (r_23, S_24)))) else (fb_bd (pX3_setMixed S x1 x2 x3) (fun S_18 => fb_b2 (pX7_granted S_18) (fun r_20 S_21 => fb_cb r_20 (some (r_20, S_21)))))))))))
def pX7_length (S : Sg) (x1 : Int32) : Option (Int32 × Sg) :=
  fb_bd (pX7_within S x1 5 80) (fun r_2 => if r_2 = (0 : Int32) then (fb_b2 (pX7_refused S 2) (fun r_21 S_22 => some (r_21, S_22))) else (fb_bd (pX4_isTold S x1) (fun r_5 => if r_5 = (0 : Int32) then (if (S.1 3) < 6 then (fb_b2 (pX4_add S x1) (fun r_9 S_10 => fb_b2 (pX7_answered S_10 r_9) (fun r_12 S_13 => some (r_12, S_13)))) else (fb_b2 (pX7_refused S 3) (fun r_15 S_16 => some (r_15, S_16)))) else (fb_b2 (pX7_refused S 4) (fun r_18 S_19 => some (r_18, S_19))))))
def pX7_worth (S : Sg) (x1 x2 x3 : Int32) : Option (Int32 × Sg) :=
  fb_bd (pX4_has S x1) (fun r_2 => if r_2 = (0 : Int32) then (fb_b2 (pX7_denied S 1) (fun r_5 S_6 => fb_cb r_5 (some (r_5, S_6)))) else (fb_bd (pX3_has S x2) (fun r_8 => if r_8 = (0 : Int32) then (fb_b2 (pX7_denied S 1) (fun r_22 S_23 => fb_cb r_22 (some (r_22, S_23)))) else (fb_bd (pX7_within S x3 0 999) (fun r_11 => if r_11 = (0 : Int32) then (fb_b2 (pX7_denied S 2) (fun r_19 S_20 => fb_cb r_19 (some (r_19, S_20)))) else (fb_bd (pX4_setWorth S x1 x2 x3) (fun S_14 => fb_b2 (pX7_granted S_14) (fun r_16 S_17 => fb_cb r_16 (some (r_16, S_17))))))))))
def pX7_isEnd (S : Sg) (x0 x1 : Int32) : Option (Int32) :=
  fb_bd (pX7_within S x0 1 60) (fun r_2 => if r_2 = (0 : Int32) then (fb_cb 0 (some 0)) else (fb_bd (pX7_within S x1 1 60) (fun r_5 => if r_5 = (0 : Int32) then (fb_cb 0 (some 0)) else (fb_cb 1 (some 1)))))
def pX7_size (S : Sg) (x1 x2 : Int32) : Option (Int32 × Sg) :=
  fb_bd (pX7_isEnd S x1 x2) (fun r_2 => if r_2 = (0 : Int32) then (fb_b2 (pX7_denied S 2) (fun r_14 S_15 => fb_cb r_14 (some (r_14, S_15)))) else (if (S.1 9) ≤ (0 : Int32) then (fb_st (sS S 11 x1) (fun S_5 => fb_st (sS S_5 12 x2) (fun S_6 => fb_b2 (pX7_granted S_6) (fun r_8 S_9 => fb_cb r_8 (some (r_8, S_9)))))) else (fb_b2 (pX7_denied S 4) (fun r_11 S_12 => fb_cb r_11 (some (r_11, S_12))))))
def pX7_mixedAhead (S : Sg) (x1 : Int32) : Option (Int32) :=
  fb_bd (pX0_lastKind S) (fun r_2 => fb_vl r_2 (fun x2_3 => fb_bd (pX3_has S x2_3) (fun r_5 => if r_5 = (0 : Int32) then (some 0) else (if x2_3 = x1 then (some 0) else (fb_bd (pX3_mixedBetween S x2_3 x1) (fun r_9 => some r_9))))))
def pX7_pour (S : Sg) (x1 x2 : Int32) : Option (Int32 × Sg) :=
  fb_bd (pX3_has S x1) (fun r_2 => if r_2 = (0 : Int32) then (fb_b2 (pX7_refused S 1) (fun r_25 S_26 => some (r_25, S_26))) else (fb_bd (pX7_within S x2 1 400) (fun r_5 => if r_5 = (0 : Int32) then (fb_b2 (pX7_refused S 2) (fun r_22 S_23 => some (r_22, S_23))) else (fb_bd (pX7_mixedAhead S x1) (fun r_8 => fb_vl r_8 (fun x3_9 => fb_bd (pX0_hasRoom S x1 x3_9 x2) (fun r_11 => if r_11 = (0 : Int32) then (fb_b2 (pX7_refused S 3) (fun r_19 S_20 => some (r_19, S_20))) else (fb_bd (pX0_append S x1 x3_9 x2) (fun S_14 => fb_b2 (pX7_answered S_14 (S_14.1 7)) (fun r_16 S_17 => some (r_16, S_17)))))))))))
def pX7_run (S : Sg) (x1 x2 : Int32) : Option (Int32) :=
  fb_bd (pX0_has S x1) (fun r_2 => if r_2 = (0 : Int32) then (some (-1)) else (if x2 = 0 then (fb_ck x1 60 (some (S.2 15 x1.toNatClampNeg))) else (if x2 = 1 then (fb_ck x1 60 (some (S.2 16 x1.toNatClampNeg))) else (if x2 = 2 then (fb_ck x1 60 (some (S.2 17 x1.toNatClampNeg))) else (some (-1))))))
def pX7_best (S : Sg) (x1 x2 : Int32) : Option (Int32 × Sg) :=
  fb_bd (pX3_has S x1) (fun r_2 => if r_2 = (0 : Int32) then (fb_b2 (pX7_refused S 1) (fun r_17 S_18 => some (r_17, S_18))) else (fb_bd (pX7_within S x2 0 2000) (fun r_5 => if r_5 = (0 : Int32) then (fb_b2 (pX7_refused S 2) (fun r_14 S_15 => some (r_14, S_15))) else (fb_b2 (pX1_mostWorth S x1 x2) (fun r_8 S_9 => fb_b2 (pX7_answered S_9 r_8) (fun r_11 S_12 => some (r_11, S_12)))))))
def pX7_addPlanned_l2 : Nat → Sg → Int32 → Int32 → Int32 → Option (Sg)
  | 0, _, _, _, _ => none
  | n + 1, T, x1, x2, x3 =>
    if (T.1 4) ≤ x3 then (some T) else (fb_ck x1 5 (fb_ck x1 5 (fb_ck x3 200 (fb_bd (pX6_add T x1 (T.2 8 x1.toNatClampNeg) (T.2 9 x1.toNatClampNeg) (T.2 14 x3.toNatClampNeg) x2) (fun S_6 => fb_vl (x3 + 1) (fun x3_7 => (pX7_addPlanned_l2 n) S_6 x1 x2 x3_7))))))
def pX7_addPlanned (S : Sg) (x1 x2 : Int32) : Option (Sg) :=
  fb_vl 0 (fun x3_8 => pX7_addPlanned_l2 5000 S x1 x2 x3_8)
def pX7_cut (S : Sg) : Option (Int32 × Sg) :=
  if (S.1 6) = (0 : Int32) then (fb_b2 (pX7_refused S 4) (fun r_39 S_40 => some (r_39, S_40))) else (fb_ck 0 60 (fb_vl (S.2 15 (0 : Int32).toNatClampNeg) (fun x1_3 => fb_ck 0 60 (fb_vl (S.2 16 (0 : Int32).toNatClampNeg) (fun x2_5 => fb_vl 0 (fun x3_6 => if x1_3 = (-2) then (fb_bd (pX2_area S) (fun r_9 => fb_c0 100 (fb_st (sS S 0 ((S.1 0) + ((x2_5 * r_9) / 100))) (fun S_11 => fb_bd (pX0_dropFirst S_11) (fun S_13 => fb_b2 (pX7_answered S_13 x3_6) (fun r_15 S_16 => some (r_15, S_16))))))) else (fb_b2 (pX1_make S x1_3 x2_5 (200 - (S.1 9))) (fun r_18 S_19 => if r_18 = (0 : Int32) then (fb_b2 (pX7_refused S_19 3) (fun r_36 S_37 => some (r_36, S_37))) else (fb_ck 0 60 (fb_bd (pX7_addPlanned S_19 x1_3 (S_19.2 17 (0 : Int32).toNatClampNeg)) (fun S_23 => fb_vl (S_23.1 5) (fun x2_24 => fb_vl (S_23.1 4) (fun x3_25 => fb_bd (pX2_area S_23) (fun r_27 => fb_c0 100 (fb_st (sS S_23 0 ((S_23.1 0) + ((x2_24 * r_27) / 100))) (fun S_29 => fb_bd (pX0_dropFirst S_29) (fun S_31 => fb_b2 (pX7_answered S_31 x3_25) (fun r_33 S_34 => some (r_33, S_34)))))))))))))))))))
def pX7_block (S : Sg) (x1 x2 : Int32) : Option (Int32) :=
  fb_bd (pX6_has S x1) (fun r_2 => if r_2 = (0 : Int32) then (some (-1)) else (if x2 = 0 then (fb_bd (pX6_state S x1) (fun r_6 => some r_6)) else (if x2 = 1 then (fb_ck x1 200 (some (S.2 18 x1.toNatClampNeg))) else (if x2 = 2 then (fb_ck x1 200 (some (S.2 21 x1.toNatClampNeg))) else (if x2 = 3 then (fb_ck x1 200 (some (S.2 22 x1.toNatClampNeg))) else (if x2 = 4 then (fb_bd (pX6_core S x1) (fun r_15 => some r_15)) else (if x2 = 5 then (fb_bd (pX6_isCured S x1) (fun r_18 => if r_18 = (0 : Int32) then (some 0) else (some 1))) else (if x2 = 6 then (fb_ck x1 200 (some (S.2 25 x1.toNatClampNeg))) else (if x2 = 7 then (fb_ck x1 200 (some (S.2 24 x1.toNatClampNeg))) else (some (-1)))))))))))
def pX7_lay (S : Sg) : Option (Int32 × Sg) :=
  fb_b2 (pX6_layAll S) (fun r_2 S_3 => some (r_2, S_3))
def pX7_place (S : Sg) (x1 : Int32) : Option (Int32) :=
  fb_bd (pX7_within S x1 0 23) (fun r_2 => if r_2 = (0 : Int32) then (some (-1)) else (fb_ck x1 24 (some (S.2 27 x1.toNatClampNeg))))
def pX7_lift (S : Sg) (x1 : Int32) : Option (Int32 × Sg) :=
  fb_bd (pX6_has S x1) (fun r_2 => if r_2 = (0 : Int32) then (fb_b2 (pX7_denied S 1) (fun r_15 S_16 => fb_cb r_15 (some (r_15, S_16)))) else (fb_ck x1 200 (if (S.2 25 x1.toNatClampNeg) = (-1) then (fb_b2 (pX7_denied S 4) (fun r_12 S_13 => fb_cb r_12 (some (r_12, S_13)))) else (fb_bd (pX6_takeOut S x1) (fun S_7 => fb_b2 (pX7_granted S_7) (fun r_9 S_10 => fb_cb r_9 (some (r_9, S_10))))))))
def pX7_pass (S : Sg) (x1 : Int32) : Option (Int32 × Sg) :=
  fb_bd (pX7_within S x1 1 100) (fun r_2 => if r_2 = (0 : Int32) then (fb_b2 (pX7_refused S 2) (fun r_5 S_6 => some (r_5, S_6))) else (if ((S.1 10) + x1) ≤ 3000 then (fb_bd (pX6_goOn S x1) (fun S_9 => fb_b2 (pX7_answered S_9 (S_9.1 10)) (fun r_11 S_12 => some (r_11, S_12)))) else (fb_b2 (pX7_refused S 2) (fun r_14 S_15 => some (r_14, S_15)))))
def pX7_pieces (S : Sg) (x1 x2 : Int32) : Option (Int32 × Sg) :=
  fb_bd (pX7_isEnd S x1 x2) (fun r_2 => if r_2 = (0 : Int32) then (fb_b2 (pX7_refused S 2) (fun r_11 S_12 => some (r_11, S_12))) else (fb_b2 (pX2_mostPieces S x1 x2) (fun r_5 S_6 => fb_b2 (pX7_answered S_6 r_5) (fun r_8 S_9 => some (r_8, S_9)))))
def pX7_order (S : Sg) (x1 x2 x3 x4 x5 : Int32) : Option (Int32 × Sg) :=
  fb_bd (pX3_has S x1) (fun r_2 => if r_2 = (0 : Int32) then (fb_b2 (pX7_refused S 1) (fun r_5 S_6 => some (r_5, S_6))) else (fb_bd (pX4_has S x2) (fun r_8 => if r_8 = (0 : Int32) then (fb_b2 (pX7_refused S 1) (fun r_34 S_35 => some (r_34, S_35))) else (fb_bd (pX7_isEnd S x3 x4) (fun r_11 => if r_11 = (0 : Int32) then (fb_b2 (pX7_refused S 2) (fun r_14 S_15 => some (r_14, S_15))) else (fb_bd (pX7_within S x5 1 500) (fun r_17 => if r_17 = (0 : Int32) then (fb_b2 (pX7_refused S 2) (fun r_31 S_32 => some (r_31, S_32))) else (if (S.1 14) < 40 then (fb_ck x2 6 (fb_b2 (pX5_add S x1 (S.2 11 x2.toNatClampNeg) x3 x4 x5) (fun r_22 S_23 => fb_b2 (pX7_answered S_23 r_22) (fun r_25 S_26 => some (r_25, S_26))))) else (fb_b2 (pX7_refused S 3) (fun r_28 S_29 => some (r_28, S_29)))))))))))
def pX7_takeBlocks_l42 : Nat → Sg → Int32 → Int32 → Int32 → Int32 → Int32 → Option (Sg)
  | 0, _, _, _, _, _, _ => none
  | n + 1, T, x1, x2, x3, x4, x5 =>
    if 200 ≤ x5 then (some T) else (if x4 ≤ (0 : Int32) then (some T) else (fb_ck x1 40 (fb_ck x1 40 (fb_bd (pX6_longestCured T (T.2 30 x1.toNatClampNeg) (T.2 31 x1.toNatClampNeg)) (fun r_6 => fb_vl r_6 (fun x6_7 => if x6_7 = (-1) then (some T) else (fb_vl (if x4 < x2 then x4 else x2) (fun x7_9 => fb_bd (pX6_use T x6_7 x7_9) (fun S_11 => fb_bd (pX5_take S_11 x1 x6_7) (fun S_13 => fb_bd (pX2_area S_13) (fun r_15 => fb_ck x6_7 200 (fb_c0 100 (fb_st (sS S_13 0 ((S_13.1 0) + (((r_15 - (x3 * x7_9)) * (S_13.2 21 x6_7.toNatClampNeg)) / 100))) (fun S_18 => fb_vl (x4 - x7_9) (fun x4_19 => fb_vl (x5 + 1) (fun x5_20 => (pX7_takeBlocks_l42 n) S_18 x1 x2 x3 x4_19 x5_20))))))))))))))))
def pX7_takeBlocks (S : Sg) (x1 x2 : Int32) : Option (Sg) :=
  fb_ck x1 40 (fb_ck x1 40 (fb_vl ((S.2 32 x1.toNatClampNeg) * (S.2 33 x1.toNatClampNeg)) (fun x3_23 => fb_ck x1 40 (fb_vl (S.2 34 x1.toNatClampNeg) (fun x4_25 => fb_bd (pX5_beginTaking S x1) (fun S_27 => fb_vl 0 (fun x5_28 => pX7_takeBlocks_l42 5000 S_27 x1 x2 x3_23 x4_25 x5_28)))))))
def pX7_fill (S : Sg) (x1 : Int32) : Option (Int32 × Sg) :=
  fb_bd (pX5_has S x1) (fun r_2 => if r_2 = (0 : Int32) then (fb_b2 (pX7_refused S 1) (fun r_33 S_34 => some (r_33, S_34))) else (fb_bd (pX5_isFilled S x1) (fun r_5 => if r_5 = (0 : Int32) then (fb_ck x1 40 (fb_ck x1 40 (fb_b2 (pX2_mostPieces S (S.2 32 x1.toNatClampNeg) (S.2 33 x1.toNatClampNeg)) (fun r_10 S_11 => fb_vl r_10 (fun x2_12 => fb_ck x1 40 (fb_ck x1 40 (fb_bd (pX6_curedOf S_11 (S_11.2 30 x1.toNatClampNeg) (S_11.2 31 x1.toNatClampNeg)) (fun r_16 => fb_vl r_16 (fun x3_17 => fb_ck x1 40 (if (S_11.2 34 x1.toNatClampNeg) ≤ (x3_17 * x2_12) then (fb_bd (pX7_takeBlocks S_11 x1 x2_12) (fun S_21 => fb_ck x1 40 (fb_b2 (pX7_answered S_21 (S_21.2 35 x1.toNatClampNeg)) (fun r_24 S_25 => some (r_24, S_25))))) else (fb_b2 (pX7_refused S_11 5) (fun r_27 S_28 => some (r_27, S_28))))))))))))) else (fb_b2 (pX7_refused S 4) (fun r_30 S_31 => some (r_30, S_31))))))
def pX7_led (S : Sg) (x1 : Int32) : Option (Int32) :=
  fb_bd (pX6_piecesOfLot S x1) (fun r_2 => some r_2)
def pX7_shred (S : Sg) : Option (Int32 × Sg) :=
  fb_vl (S.1 0) (fun x1_1 => fb_st (sS S 0 0) (fun S_2 => some (x1_1, S_2)))
def pX7_count (S : Sg) (x1 : Int32) : Option (Int32) :=
  if x1 = 0 then (some (S.1 2)) else (if x1 = 1 then (some (S.1 3)) else (if x1 = 2 then (some (S.1 6)) else (if x1 = 3 then (some (S.1 7)) else (if x1 = 4 then (some (S.1 8)) else (if x1 = 5 then (some (S.1 9)) else (if x1 = 6 then (fb_bd (pX6_placesTaken S) (fun r_9 => some r_9)) else (if x1 = 7 then (some (S.1 14)) else (if x1 = 8 then (some (S.1 15)) else (if x1 = 9 then (some (S.1 10)) else (some (-1)))))))))))
def pX7_trouble (S : Sg) : Option (Int32) :=
  some (S.1 1)
