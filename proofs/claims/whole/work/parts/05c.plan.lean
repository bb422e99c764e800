set_option maxHeartbeats 4000000 in
set_option maxRecDepth 100000 in
theorem ctX1_worthWith (l : Launch) (D : va_G) (cI cZ : ClassId) (b : Nat → Nat) {S : Sg} {x1 x2 x3 : Int32} {r : Int32} (h : pX1_worthWith S x1 x2 x3 = some r) : CTi l D cI cZ (wF cI cZ b) yX1_worthWith cX1_worthWith 4 (some .int) 1 [.ref (b 3), .int x1, .int x2, .int x3] S r S := by
  refine fb_starti (by decide) (Nat.le_of_ble_eq_true rfl) (fun p e s m args below meth c ls cx hH hl => ?_)
  obtain ⟨hx, hb, -⟩ := id cx
  have hl : lv_has ls 4 [(0, .ref (b 3)), (1, .int x1), (2, .int x2), (3, .int x3)] := hl
  unfold pX1_worthWith at h
  refine lv_aload_n hx hb dX1_worthWith_0 rfl (lv_at hl 0 rfl) ?_
  refine F_ro3_0 cx hH lkX1_12 dX1_worthWith_1 ?_
  refine lv_iload_n hx hb dX1_worthWith_4 rfl (lv_at hl 1 rfl) ?_
  refine lv_iload_n hx hb dX1_worthWith_5 rfl (lv_at hl 2 rfl) ?_
  obtain ⟨r_2, hc_1, h⟩ := fb_bd_s h
  refine fb_vi (wd := wF cI cZ b) (As := [.int x1, .int x2]) (rest := []) cx hH mwX4_worthOf (ctX4_worthOf l D cI cZ b hc_1) (F_rc2 cx hH) mlX1_43 (by decide) rfl hl.1 (Nat.le_of_ble_eq_true rfl) rfl dX1_worthWith_6 (fun H locs hH => ?_)
  refine lv_aload_n hx hb dX1_worthWith_9 rfl (lv_at hl 0 rfl) ?_
  refine F_ra13 cx hH lkX1_18 dX1_worthWith_10 ?_
  refine lv_iload_n hx hb dX1_worthWith_13 rfl (lv_at hl 3 rfl) ?_
  refine lv_aload_n hx hb dX1_worthWith_14 rfl (lv_at hl 0 rfl) ?_
  refine F_ro3_0 cx hH lkX1_12 dX1_worthWith_15 ?_
  refine F_ra11 cx hH lkX1_33 dX1_worthWith_18 ?_
  refine lv_iload_n hx hb dX1_worthWith_21 rfl (lv_at hl 1 rfl) ?_
  obtain ⟨hi_3, h⟩ := fb_ck_s h
  refine F_l11 cx hH hi_3 dX1_worthWith_22 ?_
  refine lv_isub hx hb dX1_worthWith_23 ?_
  obtain ⟨hi_4, h⟩ := fb_ck_s h
  refine F_l13 cx hH hi_4 dX1_worthWith_24 ?_
  refine lv_iadd hx hb dX1_worthWith_25 ?_
  obtain rfl := Option.some.inj h
  exact fb_iret (wd := wF cI cZ b) cx rfl hH dX1_worthWith_26
set_option maxHeartbeats 4000000 in
set_option maxRecDepth 100000 in
theorem ctX1_mostOfOneMore (l : Launch) (D : va_G) (cI cZ : ClassId) (b : Nat → Nat) {S : Sg} {x1 x2 : Int32} {r : Int32} (h : pX1_mostOfOneMore S x1 x2 = some r) : CTi l D cI cZ (wF cI cZ b) yX1_mostOfOneMore cX1_mostOfOneMore 5 (some .int) 2 [.ref (b 3), .int x1, .int x2] S r S := by
  refine fb_starti (by decide) (Nat.le_of_ble_eq_true rfl) (fun p e s m args below meth c ls cx hH hl => ?_)
  obtain ⟨hx, hb, -⟩ := id cx
  have hl : lv_has ls 5 [(0, .ref (b 3)), (1, .int x1), (2, .int x2)] := hl
  have hL5 : ∀ (n : Nat), ∀ (x1 x2 x3 x4 : Int32) (H : Heap) (locs : List Loc) (ls : Array Slot), pX1_mostOfOneMore_l5 S n x1 x2 x3 x4 = some r → HB D (wF cI cZ b S) (wF cI cZ b S) s H locs → lv_has ls 5 [(0, .ref (b 3)), (1, .int x1), (2, .int x2), (3, .int x3), (4, .int x4)] → W p l e (rmk 2) s m args below meth c H locs 0 0 (Ei D cI cZ (wF cI cZ b) S r S below args s) (F0 m 5 ls []) := by
    intro n5
    induction n5 with
    | zero => intro x1 x2 x3 x4 H locs ls h hH hl; simp [pX1_mostOfOneMore_l5] at h
    | succ n5 ih5 =>
      intro x1 x2 x3 x4 H locs ls h hH hl
      rw [pX1_mostOfOneMore_l5] at h
      refine lv_iload hx hb dX1_mostOfOneMore_5 (lv_at hl 4 rfl) ?_
      refine lv_aload_n hx hb dX1_mostOfOneMore_7 rfl (lv_at hl 0 rfl) ?_
      refine F_ro3_0 cx hH lkX1_12 dX1_mostOfOneMore_8 ?_
      refine F_g3 cx hH lkX1_29 dX1_mostOfOneMore_11 ?_
      refine lv_icmp_ge (tgt := 50) hx hb dX1_mostOfOneMore_14 (by decide) (fun c_11 => ?_) (fun c_11 => ?_)
      · replace h := fb_ip c_11 h
        refine lv_iload_n hx hb dX1_mostOfOneMore_50 rfl (lv_at hl 3 rfl) ?_
        obtain rfl := Option.some.inj h
        exact fb_iret (wd := wF cI cZ b) cx rfl hH dX1_mostOfOneMore_51
      · replace h := fb_in c_11 h
        refine lv_aload_n hx hb dX1_mostOfOneMore_17 rfl (lv_at hl 0 rfl) ?_
        refine F_ro3_0 cx hH lkX1_12 dX1_mostOfOneMore_18 ?_
        refine F_ra11 cx hH lkX1_33 dX1_mostOfOneMore_21 ?_
        refine lv_iload hx hb dX1_mostOfOneMore_24 (lv_at hl 4 rfl) ?_
        obtain ⟨hi_12, h⟩ := fb_ck_s h
        refine F_l11 cx hH hi_12 dX1_mostOfOneMore_26 ?_
        refine lv_iload_n hx hb dX1_mostOfOneMore_27 rfl (lv_at hl 2 rfl) ?_
        refine lv_icmp_gt (tgt := 44) hx hb dX1_mostOfOneMore_28 (by decide) (fun c_13 => ?_) (fun c_13 => ?_)
        · replace h := fb_ip c_13 h
          obtain ⟨x4_14, ex4_14, h⟩ := fb_vl_s h
          refine lv_iinc (v := x4_14) (lv' := [(4, .int x4_14), (0, .ref (b 3)), (1, .int x1), (2, .int x2), (3, .int x3)]) hx hb dX1_mostOfOneMore_44 hl (k := 4) rfl (by rw [ex4_14]; rfl) (by decide) rfl (fun ls hl => ?_)
          refine lv_goto (tgt := 5) hx hb dX1_mostOfOneMore_47 (by decide) ?_
          exact ih5 _ _ _ _ _ _ _ h hH (lv_sub hl [1, 2, 3, 4, 0] rfl)
        · replace h := fb_in c_13 h
          refine lv_iload_n hx hb dX1_mostOfOneMore_31 rfl (lv_at hl 3 rfl) ?_
          refine lv_aload_n hx hb dX1_mostOfOneMore_32 rfl (lv_at hl 0 rfl) ?_
          refine lv_iload hx hb dX1_mostOfOneMore_33 (lv_at hl 4 rfl) ?_
          refine lv_iload_n hx hb dX1_mostOfOneMore_35 rfl (lv_at hl 1 rfl) ?_
          refine lv_iload_n hx hb dX1_mostOfOneMore_36 rfl (lv_at hl 2 rfl) ?_
          obtain ⟨r_16, hc_15, h⟩ := fb_bd_s h
          refine fb_vi (wd := wF cI cZ b) (As := [.int x4, .int x1, .int x2]) (rest := [.int x3]) cx hH mwX1_worthWith (ctX1_worthWith l D cI cZ b hc_15) (F_rc3 cx hH) mlX1_34 (by decide) rfl hl.1 (Nat.le_of_ble_eq_true rfl) rfl dX1_mostOfOneMore_37 (fun H locs hH => ?_)
          refine fb_max cx hl.1 mlX1_38 ⟨Nat.le_of_ble_eq_true rfl, Nat.le_of_ble_eq_true rfl⟩ dX1_mostOfOneMore_40 ?_
          obtain ⟨x3_17, ex3_17, h⟩ := fb_vl_s h
          refine fb_top ex3_17 ?_
          refine lv_istore_n (lv' := [(3, .int x3_17), (0, .ref (b 3)), (1, .int x1), (2, .int x2), (4, .int x4)]) hx hb dX1_mostOfOneMore_43 rfl hl (by decide) rfl (fun ls hl => ?_)
          obtain ⟨x4_18, ex4_18, h⟩ := fb_vl_s h
          refine lv_iinc (v := x4_18) (lv' := [(4, .int x4_18), (3, .int x3_17), (0, .ref (b 3)), (1, .int x1), (2, .int x2)]) hx hb dX1_mostOfOneMore_44 hl (k := 4) rfl (by rw [ex4_18]; rfl) (by decide) rfl (fun ls hl => ?_)
          refine lv_goto (tgt := 5) hx hb dX1_mostOfOneMore_47 (by decide) ?_
          exact ih5 _ _ _ _ _ _ _ h hH (lv_sub hl [2, 3, 4, 1, 0] rfl)
  unfold pX1_mostOfOneMore at h
  refine lv_iconst (v := 0) hx hb dX1_mostOfOneMore_0 (by decide) ?_
  obtain ⟨x3_9, ex3_9, h⟩ := fb_vl_s h
  refine fb_top ex3_9 ?_
  refine lv_istore_n (lv' := [(3, .int x3_9), (0, .ref (b 3)), (1, .int x1), (2, .int x2)]) hx hb dX1_mostOfOneMore_1 rfl hl (by decide) rfl (fun ls hl => ?_)
  refine lv_iconst (v := 0) hx hb dX1_mostOfOneMore_2 (by decide) ?_
  obtain ⟨x4_10, ex4_10, h⟩ := fb_vl_s h
  refine fb_top ex4_10 ?_
  refine lv_istore (lv' := [(4, .int x4_10), (3, .int x3_9), (0, .ref (b 3)), (1, .int x1), (2, .int x2)]) hx hb dX1_mostOfOneMore_3 hl (by decide) rfl (fun ls hl => ?_)
  exact hL5 5000 _ _ _ _ _ _ _ h hH (lv_sub hl [2, 3, 4, 1, 0] rfl)
set_option maxHeartbeats 4000000 in
set_option maxRecDepth 100000 in
theorem ctX1_mostWorth (l : Launch) (D : va_G) (cI cZ : ClassId) (b : Nat → Nat) {S : Sg} {x1 x2 : Int32} {r : Int32} {S9 : Sg} (h : pX1_mostWorth S x1 x2 = some (r, S9)) : CTi l D cI cZ (wF cI cZ b) yX1_mostWorth cX1_mostWorth 4 (some .int) 3 [.ref (b 3), .int x1, .int x2] S r S9 := by
  refine fb_starti (by decide) (Nat.le_of_ble_eq_true rfl) (fun p e s m args below meth c ls cx hH hl => ?_)
  obtain ⟨hx, hb, -⟩ := id cx
  have hl : lv_has ls 4 [(0, .ref (b 3)), (1, .int x1), (2, .int x2)] := hl
  have hL2 : ∀ (n : Nat), ∀ (T : Sg) (x1 x2 x3 : Int32) (H : Heap) (locs : List Loc) (ls : Array Slot), pX1_mostWorth_l2 n T x1 x2 x3 = some (r, S9) → HB D (wF cI cZ b S) (wF cI cZ b T) s H locs → lv_has ls 4 [(0, .ref (b 3)), (1, .int x1), (2, .int x2), (3, .int x3)] → W p l e (rmk 3) s m args below meth c H locs 0 0 (Ei D cI cZ (wF cI cZ b) S r S9 below args s) (F0 m 2 ls []) := by
    intro n2
    induction n2 with
    | zero => intro T x1 x2 x3 H locs ls h hH hl; simp [pX1_mostWorth_l2] at h
    | succ n2 ih2 =>
      intro T x1 x2 x3 H locs ls h hH hl
      rw [pX1_mostWorth_l2] at h
      refine lv_iload_n hx hb dX1_mostWorth_2 rfl (lv_at hl 3 rfl) ?_
      refine lv_iload_n hx hb dX1_mostWorth_3 rfl (lv_at hl 2 rfl) ?_
      refine lv_icmp_gt (tgt := 25) hx hb dX1_mostWorth_4 (by decide) (fun c_9 => ?_) (fun c_9 => ?_)
      · replace h := fb_ip c_9 h
        refine lv_aload_n hx hb dX1_mostWorth_25 rfl (lv_at hl 0 rfl) ?_
        refine F_ra13 cx hH lkX1_18 dX1_mostWorth_26 ?_
        refine lv_iload_n hx hb dX1_mostWorth_29 rfl (lv_at hl 2 rfl) ?_
        obtain ⟨hi_10, h⟩ := fb_ck_s h
        refine F_l13 cx hH hi_10 dX1_mostWorth_30 ?_
        obtain ⟨rfl, rfl⟩ := Prod.mk.inj (Option.some.inj h)
        exact fb_iret (wd := wF cI cZ b) cx rfl hH dX1_mostWorth_31
      · replace h := fb_in c_9 h
        refine lv_aload_n hx hb dX1_mostWorth_7 rfl (lv_at hl 0 rfl) ?_
        refine F_ra13 cx hH lkX1_18 dX1_mostWorth_8 ?_
        refine lv_iload_n hx hb dX1_mostWorth_11 rfl (lv_at hl 3 rfl) ?_
        refine lv_aload_n hx hb dX1_mostWorth_12 rfl (lv_at hl 0 rfl) ?_
        refine lv_iload_n hx hb dX1_mostWorth_13 rfl (lv_at hl 1 rfl) ?_
        refine lv_iload_n hx hb dX1_mostWorth_14 rfl (lv_at hl 3 rfl) ?_
        obtain ⟨r_12, hc_11, h⟩ := fb_bd_s h
        refine fb_vi (wd := wF cI cZ b) (As := [.int x1, .int x3]) (rest := [.int x3, .ref (b 13)]) cx hH mwX1_mostOfOneMore (ctX1_mostOfOneMore l D cI cZ b hc_11) (F_rc3 cx hH) mlX1_25 (by decide) rfl hl.1 (Nat.le_of_ble_eq_true rfl) rfl dX1_mostWorth_15 (fun H locs hH => ?_)
        obtain ⟨hi_14, h⟩ := fb_ck_s h
        obtain ⟨S_13, eS_13, h⟩ := fb_st_s h
        refine F_s13 cx hH hi_14 dX1_mostWorth_18 (fun H locs hH => ?_)
        rw [← eS_13] at hH
        obtain ⟨x3_15, ex3_15, h⟩ := fb_vl_s h
        refine lv_iinc (v := x3_15) (lv' := [(3, .int x3_15), (0, .ref (b 3)), (1, .int x1), (2, .int x2)]) hx hb dX1_mostWorth_19 hl (k := 3) rfl (by rw [ex3_15]; rfl) (by decide) rfl (fun ls hl => ?_)
        refine lv_goto (tgt := 2) hx hb dX1_mostWorth_22 (by decide) ?_
        exact ih2 _ _ _ _ _ _ _ h hH (lv_sub hl [1, 2, 3, 0] rfl)
  unfold pX1_mostWorth at h
  refine lv_iconst (v := 0) hx hb dX1_mostWorth_0 (by decide) ?_
  obtain ⟨x3_8, ex3_8, h⟩ := fb_vl_s h
  refine fb_top ex3_8 ?_
  refine lv_istore_n (lv' := [(3, .int x3_8), (0, .ref (b 3)), (1, .int x1), (2, .int x2)]) hx hb dX1_mostWorth_1 rfl hl (by decide) rfl (fun ls hl => ?_)
  exact hL2 5000 _ _ _ _ _ _ _ h hH (lv_sub hl [1, 2, 3, 0] rfl)
set_option maxHeartbeats 4000000 in
set_option maxRecDepth 100000 in
theorem ctX1_longestNext (l : Launch) (D : va_G) (cI cZ : ClassId) (b : Nat → Nat) {S : Sg} {x1 : Int32} {r : Int32} (h : pX1_longestNext S x1 = some r) : CTi l D cI cZ (wF cI cZ b) yX1_longestNext cX1_longestNext 5 (some .int) 2 [.ref (b 3), .int x1] S r S := by
  refine fb_starti (by decide) (Nat.le_of_ble_eq_true rfl) (fun p e s m args below meth c ls cx hH hl => ?_)
  obtain ⟨hx, hb, -⟩ := id cx
  have hl : lv_has ls 5 [(0, .ref (b 3)), (1, .int x1)] := hl
  have hL4 : ∀ (n : Nat), ∀ (x1 x2 x3 : Int32) (H : Heap) (locs : List Loc) (ls : Array Slot), pX1_longestNext_l4 S n x1 x2 x3 = some r → HB D (wF cI cZ b S) (wF cI cZ b S) s H locs → lv_has ls 5 [(0, .ref (b 3)), (1, .int x1), (2, .int x2), (3, .int x3)] → W p l e (rmk 2) s m args below meth c H locs 0 0 (Ei D cI cZ (wF cI cZ b) S r S below args s) (F0 m 4 ls []) := by
    intro n4
    induction n4 with
    | zero => intro x1 x2 x3 H locs ls h hH hl; simp [pX1_longestNext_l4] at h
    | succ n4 ih4 =>
      have hJ58 : ∀ (x1 x2 x3 t0 : Int32) (H : Heap) (locs : List Loc) (ls : Array Slot), pX1_longestNext_j58 S (pX1_longestNext_l4 S n4) x1 x2 x3 t0 = some r → HB D (wF cI cZ b S) (wF cI cZ b S) s H locs → lv_has ls 5 [(0, .ref (b 3)), (1, .int x1), (2, .int x2), (3, .int x3)] → W p l e (rmk 2) s m args below meth c H locs 0 0 (Ei D cI cZ (wF cI cZ b) S r S below args s) (F0 m 58 ls [.int t0]) := by
        intro x1 x2 x3 t0 H locs ls h hH hl
        unfold pX1_longestNext_j58 at h
        obtain ⟨x4_22, ex4_22, h⟩ := fb_vl_s h
        refine fb_top ex4_22 ?_
        refine lv_istore (lv' := [(4, .int x4_22), (0, .ref (b 3)), (1, .int x1), (2, .int x2), (3, .int x3)]) hx hb dX1_longestNext_58 hl (by decide) rfl (fun ls hl => ?_)
        refine lv_iload hx hb dX1_longestNext_60 (lv_at hl 0 rfl) ?_
        refine lv_if_eq (tgt := 93) hx hb dX1_longestNext_62 (by decide) (fun c_23 => ?_) (fun c_23 => ?_)
        · replace h := fb_ip c_23 h
          obtain ⟨x3_24, ex3_24, h⟩ := fb_vl_s h
          refine lv_iinc (v := x3_24) (lv' := [(3, .int x3_24), (4, .int x4_22), (0, .ref (b 3)), (1, .int x1), (2, .int x2)]) hx hb dX1_longestNext_93 hl (k := 4) rfl (by rw [ex3_24]; rfl) (by decide) rfl (fun ls hl => ?_)
          refine lv_goto (tgt := 4) hx hb dX1_longestNext_96 (by decide) ?_
          exact ih4 _ _ _ _ _ _ h hH (lv_sub hl [2, 3, 4, 0] rfl)
        · replace h := fb_in c_23 h
          refine lv_iload_n hx hb dX1_longestNext_65 rfl (lv_at hl 3 rfl) ?_
          refine lv_iconst (v := (-1)) hx hb dX1_longestNext_66 (by decide) ?_
          refine lv_icmp_eq (tgt := 91) hx hb dX1_longestNext_67 (by decide) (fun c_25 => ?_) (fun c_25 => ?_)
          · replace h := fb_ip c_25 h
            refine lv_iload_n hx hb dX1_longestNext_91 rfl (lv_at hl 4 rfl) ?_
            obtain ⟨x2_26, ex2_26, h⟩ := fb_vl_s h
            refine fb_top ex2_26 ?_
            refine lv_istore_n (lv' := [(2, .int x2_26), (4, .int x4_22), (0, .ref (b 3)), (1, .int x1), (3, .int x3)]) hx hb dX1_longestNext_92 rfl hl (by decide) rfl (fun ls hl => ?_)
            obtain ⟨x3_27, ex3_27, h⟩ := fb_vl_s h
            refine lv_iinc (v := x3_27) (lv' := [(3, .int x3_27), (2, .int x2_26), (4, .int x4_22), (0, .ref (b 3)), (1, .int x1)]) hx hb dX1_longestNext_93 hl (k := 4) rfl (by rw [ex3_27]; rfl) (by decide) rfl (fun ls hl => ?_)
            refine lv_goto (tgt := 4) hx hb dX1_longestNext_96 (by decide) ?_
            exact ih4 _ _ _ _ _ _ h hH (lv_sub hl [3, 4, 1, 0] rfl)
          · replace h := fb_in c_25 h
            refine lv_aload_n hx hb dX1_longestNext_70 rfl (lv_at hl 1 rfl) ?_
            refine F_ro3_0 cx hH lkX1_12 dX1_longestNext_71 ?_
            refine F_ra11 cx hH lkX1_33 dX1_longestNext_74 ?_
            refine lv_iload_n hx hb dX1_longestNext_77 rfl (lv_at hl 4 rfl) ?_
            obtain ⟨hi_28, h⟩ := fb_ck_s h
            refine F_l11 cx hH hi_28 dX1_longestNext_78 ?_
            refine lv_aload_n hx hb dX1_longestNext_79 rfl (lv_at hl 1 rfl) ?_
            refine F_ro3_0 cx hH lkX1_12 dX1_longestNext_80 ?_
            refine F_ra11 cx hH lkX1_33 dX1_longestNext_83 ?_
            refine lv_iload_n hx hb dX1_longestNext_86 rfl (lv_at hl 3 rfl) ?_
            obtain ⟨hi_29, h⟩ := fb_ck_s h
            refine F_l11 cx hH hi_29 dX1_longestNext_87 ?_
            refine lv_icmp_le (tgt := 93) hx hb dX1_longestNext_88 (by decide) (fun c_30 => ?_) (fun c_30 => ?_)
            · replace h := fb_ip c_30 h
              obtain ⟨x3_31, ex3_31, h⟩ := fb_vl_s h
              refine lv_iinc (v := x3_31) (lv' := [(3, .int x3_31), (4, .int x4_22), (0, .ref (b 3)), (1, .int x1), (2, .int x2)]) hx hb dX1_longestNext_93 hl (k := 4) rfl (by rw [ex3_31]; rfl) (by decide) rfl (fun ls hl => ?_)
              refine lv_goto (tgt := 4) hx hb dX1_longestNext_96 (by decide) ?_
              exact ih4 _ _ _ _ _ _ h hH (lv_sub hl [2, 3, 4, 0] rfl)
            · replace h := fb_in c_30 h
              refine lv_iload_n hx hb dX1_longestNext_91 rfl (lv_at hl 4 rfl) ?_
              obtain ⟨x2_32, ex2_32, h⟩ := fb_vl_s h
              refine fb_top ex2_32 ?_
              refine lv_istore_n (lv' := [(2, .int x2_32), (4, .int x4_22), (0, .ref (b 3)), (1, .int x1), (3, .int x3)]) hx hb dX1_longestNext_92 rfl hl (by decide) rfl (fun ls hl => ?_)
              obtain ⟨x3_33, ex3_33, h⟩ := fb_vl_s h
              refine lv_iinc (v := x3_33) (lv' := [(3, .int x3_33), (2, .int x2_32), (4, .int x4_22), (0, .ref (b 3)), (1, .int x1)]) hx hb dX1_longestNext_93 hl (k := 4) rfl (by rw [ex3_33]; rfl) (by decide) rfl (fun ls hl => ?_)
              refine lv_goto (tgt := 4) hx hb dX1_longestNext_96 (by decide) ?_
              exact ih4 _ _ _ _ _ _ h hH (lv_sub hl [3, 4, 1, 0] rfl)
      intro x1 x2 x3 H locs ls h hH hl
      rw [pX1_longestNext_l4] at h
      refine lv_iload_n hx hb dX1_longestNext_4 rfl (lv_at hl 3 rfl) ?_
      refine lv_aload_n hx hb dX1_longestNext_5 rfl (lv_at hl 0 rfl) ?_
      refine F_ro3_0 cx hH lkX1_12 dX1_longestNext_6 ?_
      refine F_g3 cx hH lkX1_29 dX1_longestNext_9 ?_
      refine lv_icmp_ge (tgt := 99) hx hb dX1_longestNext_12 (by decide) (fun c_34 => ?_) (fun c_34 => ?_)
      · replace h := fb_ip c_34 h
        refine lv_iload_n hx hb dX1_longestNext_99 rfl (lv_at hl 2 rfl) ?_
        obtain rfl := Option.some.inj h
        exact fb_iret (wd := wF cI cZ b) cx rfl hH dX1_longestNext_100
      · replace h := fb_in c_34 h
        refine lv_aload_n hx hb dX1_longestNext_15 rfl (lv_at hl 0 rfl) ?_
        refine F_ro3_0 cx hH lkX1_12 dX1_longestNext_16 ?_
        refine F_ra11 cx hH lkX1_33 dX1_longestNext_19 ?_
        refine lv_iload_n hx hb dX1_longestNext_22 rfl (lv_at hl 3 rfl) ?_
        obtain ⟨hi_35, h⟩ := fb_ck_s h
        refine F_l11 cx hH hi_35 dX1_longestNext_23 ?_
        refine lv_aload_n hx hb dX1_longestNext_24 rfl (lv_at hl 0 rfl) ?_
        refine F_g5 cx hH lkX1_50 dX1_longestNext_25 ?_
        refine lv_icmp_gt (tgt := 57) hx hb dX1_longestNext_28 (by decide) (fun c_36 => ?_) (fun c_36 => ?_)
        · replace h := fb_ip c_36 h
          refine lv_iconst (v := 0) hx hb dX1_longestNext_57 (by decide) ?_
          exact hJ58 _ _ _ _ _ _ _ h hH (lv_sub hl [0, 1, 2, 3] rfl)
        · replace h := fb_in c_36 h
          refine lv_aload_n hx hb dX1_longestNext_31 rfl (lv_at hl 0 rfl) ?_
          refine lv_iload_n hx hb dX1_longestNext_32 rfl (lv_at hl 3 rfl) ?_
          refine lv_iload_n hx hb dX1_longestNext_33 rfl (lv_at hl 1 rfl) ?_
          refine lv_aload_n hx hb dX1_longestNext_34 rfl (lv_at hl 0 rfl) ?_
          refine F_g5 cx hH lkX1_50 dX1_longestNext_35 ?_
          obtain ⟨r_38, hc_37, h⟩ := fb_bd_s h
          refine fb_vi (wd := wF cI cZ b) (As := [.int x3, .int x1, .int (S.1 5)]) (rest := []) cx hH mwX1_worthWith (ctX1_worthWith l D cI cZ b hc_37) (F_rc3 cx hH) mlX1_34 (by decide) rfl hl.1 (Nat.le_of_ble_eq_true rfl) rfl dX1_longestNext_38 (fun H locs hH => ?_)
          refine lv_aload_n hx hb dX1_longestNext_41 rfl (lv_at hl 0 rfl) ?_
          refine F_ra13 cx hH lkX1_18 dX1_longestNext_42 ?_
          refine lv_aload_n hx hb dX1_longestNext_45 rfl (lv_at hl 0 rfl) ?_
          refine F_g5 cx hH lkX1_50 dX1_longestNext_46 ?_
          obtain ⟨hi_39, h⟩ := fb_ck_s h
          refine F_l13 cx hH hi_39 dX1_longestNext_49 ?_
          refine lv_icmp_ne (tgt := 57) hx hb dX1_longestNext_50 (by decide) (fun c_40 => ?_) (fun c_40 => ?_)
          · replace h := fb_in c_40 h
            refine lv_iconst (v := 0) hx hb dX1_longestNext_57 (by decide) ?_
            exact hJ58 _ _ _ _ _ _ _ h hH (lv_sub hl [0, 1, 2, 3] rfl)
          · replace h := fb_ip c_40 h
            refine lv_iconst (v := 1) hx hb dX1_longestNext_53 (by decide) ?_
            refine lv_goto (tgt := 58) hx hb dX1_longestNext_54 (by decide) ?_
            exact hJ58 _ _ _ _ _ _ _ h hH (lv_sub hl [0, 1, 2, 3] rfl)
  unfold pX1_longestNext at h
  refine lv_iconst (v := (-1)) hx hb dX1_longestNext_0 (by decide) ?_
  obtain ⟨x2_20, ex2_20, h⟩ := fb_vl_s h
  refine fb_top ex2_20 ?_
  refine lv_istore_n (lv' := [(2, .int x2_20), (0, .ref (b 3)), (1, .int x1)]) hx hb dX1_longestNext_1 rfl hl (by decide) rfl (fun ls hl => ?_)
  refine lv_iconst (v := 0) hx hb dX1_longestNext_2 (by decide) ?_
  obtain ⟨x3_21, ex3_21, h⟩ := fb_vl_s h
  refine fb_top ex3_21 ?_
  refine lv_istore_n (lv' := [(3, .int x3_21), (2, .int x2_20), (0, .ref (b 3)), (1, .int x1)]) hx hb dX1_longestNext_3 rfl hl (by decide) rfl (fun ls hl => ?_)
  exact hL4 5000 _ _ _ _ _ _ h hH (lv_sub hl [2, 3, 1, 0] rfl)
set_option maxHeartbeats 4000000 in
set_option maxRecDepth 100000 in
theorem ctX1_make (l : Launch) (D : va_G) (cI cZ : ClassId) (b : Nat → Nat) {S : Sg} {x1 x2 x3 : Int32} {r : Int32} {S9 : Sg} (h : pX1_make S x1 x2 x3 = some (r, S9)) : CTi l D cI cZ (wF cI cZ b) yX1_make cX1_make 6 (some .boolean) 4 [.ref (b 3), .int x1, .int x2, .int x3] S r S9 := by
  refine fb_starti (by decide) (Nat.le_of_ble_eq_true rfl) (fun p e s m args below meth c ls cx hH hl => ?_)
  obtain ⟨hx, hb, -⟩ := id cx
  have hl : lv_has ls 6 [(0, .ref (b 3)), (1, .int x1), (2, .int x2), (3, .int x3)] := hl
  have hL20 : ∀ (n : Nat), ∀ (T : Sg) (x1 x3 x4 : Int32) (H : Heap) (locs : List Loc) (ls : Array Slot), pX1_make_l20 n T x1 x3 x4 = some (r, S9) → HB D (wF cI cZ b S) (wF cI cZ b T) s H locs → lv_has ls 6 [(0, .ref (b 3)), (1, .int x1), (3, .int x3), (4, .int x4)] → W p l e (rmk 4) s m args below meth c H locs 0 0 (Ei D cI cZ (wF cI cZ b) S r S9 below args s) (F0 m 20 ls []) := by
    intro n20
    induction n20 with
    | zero => intro T x1 x3 x4 H locs ls h hH hl; simp [pX1_make_l20] at h
    | succ n20 ih20 =>
      intro T x1 x3 x4 H locs ls h hH hl
      rw [pX1_make_l20] at h
      refine lv_iload hx hb dX1_make_20 (lv_at hl 3 rfl) ?_
      refine lv_iload_n hx hb dX1_make_22 rfl (lv_at hl 2 rfl) ?_
      refine lv_icmp_gt (tgt := 96) hx hb dX1_make_23 (by decide) (fun c_21 => ?_) (fun c_21 => ?_)
      · replace h := fb_ip c_21 h
        refine lv_iconst (v := 0) hx hb dX1_make_96 (by decide) ?_
        obtain ⟨hn, h⟩ := fb_cb_s h
        obtain ⟨rfl, rfl⟩ := Prod.mk.inj (Option.some.inj h)
        exact fb_zret (wd := wF cI cZ b) cx rfl hH hn dX1_make_97
      · replace h := fb_in c_21 h
        refine lv_aload_n hx hb dX1_make_26 rfl (lv_at hl 0 rfl) ?_
        refine lv_iload_n hx hb dX1_make_27 rfl (lv_at hl 1 rfl) ?_
        obtain ⟨r_23, hc_22, h⟩ := fb_bd_s h
        refine fb_vi (wd := wF cI cZ b) (As := [.int x1]) (rest := []) cx hH mwX1_longestNext (ctX1_longestNext l D cI cZ b hc_22) (F_rc3 cx hH) mlX1_53 (by decide) rfl hl.1 (Nat.le_of_ble_eq_true rfl) rfl dX1_make_28 (fun H locs hH => ?_)
        obtain ⟨x5_24, ex5_24, h⟩ := fb_vl_s h
        refine fb_top ex5_24 ?_
        refine lv_istore (lv' := [(5, .int x5_24), (0, .ref (b 3)), (1, .int x1), (3, .int x3), (4, .int x4)]) hx hb dX1_make_31 hl (by decide) rfl (fun ls hl => ?_)
        refine lv_iload hx hb dX1_make_33 (lv_at hl 0 rfl) ?_
        refine lv_iconst (v := (-1)) hx hb dX1_make_35 (by decide) ?_
        refine lv_icmp_ne (tgt := 41) hx hb dX1_make_36 (by decide) (fun c_25 => ?_) (fun c_25 => ?_)
        · replace h := fb_in c_25 h
          refine lv_iload hx hb dX1_make_41 (lv_at hl 4 rfl) ?_
          refine lv_iload_n hx hb dX1_make_43 rfl (lv_at hl 3 rfl) ?_
          refine lv_icmp_ge (tgt := 90) hx hb dX1_make_44 (by decide) (fun c_26 => ?_) (fun c_26 => ?_)
          · replace h := fb_ip c_26 h
            obtain ⟨x4_27, ex4_27, h⟩ := fb_vl_s h
            refine lv_iinc (v := x4_27) (lv' := [(4, .int x4_27), (5, .int x5_24), (0, .ref (b 3)), (1, .int x1), (3, .int x3)]) hx hb dX1_make_90 hl (k := 4) rfl (by rw [ex4_27]; rfl) (by decide) rfl (fun ls hl => ?_)
            refine lv_goto (tgt := 20) hx hb dX1_make_93 (by decide) ?_
            exact ih20 _ _ _ _ _ _ _ h hH (lv_sub hl [2, 3, 4, 0] rfl)
          · replace h := fb_in c_26 h
            refine lv_aload_n hx hb dX1_make_47 rfl (lv_at hl 1 rfl) ?_
            refine F_ra14 cx hH lkX1_22 dX1_make_48 ?_
            refine lv_iload hx hb dX1_make_51 (lv_at hl 4 rfl) ?_
            refine lv_aload_n hx hb dX1_make_53 rfl (lv_at hl 1 rfl) ?_
            refine F_ro3_0 cx hH lkX1_12 dX1_make_54 ?_
            refine F_ra11 cx hH lkX1_33 dX1_make_57 ?_
            refine lv_iload hx hb dX1_make_60 (lv_at hl 0 rfl) ?_
            obtain ⟨hi_28, h⟩ := fb_ck_s h
            refine F_l11 cx hH hi_28 dX1_make_62 ?_
            obtain ⟨hi_30, h⟩ := fb_ck_s h
            obtain ⟨S_29, eS_29, h⟩ := fb_st_s h
            refine F_s14 cx hH hi_30 dX1_make_63 (fun H locs hH => ?_)
            rw [← eS_29] at hH
            refine lv_aload_n hx hb dX1_make_64 rfl (lv_at hl 1 rfl) ?_
            refine lv_dup hx hb dX1_make_65 rfl ?_
            refine F_g4 cx hH lkX1_49 dX1_make_66 ?_
            refine lv_iconst (v := 1) hx hb dX1_make_69 (by decide) ?_
            refine lv_iadd hx hb dX1_make_70 ?_
            obtain ⟨S_31, eS_31, h⟩ := fb_st_s h
            refine F_p4 cx hH lkX1_49 dX1_make_71 (fun H locs hH => ?_)
            rw [← eS_31] at hH
            refine lv_aload_n hx hb dX1_make_74 rfl (lv_at hl 1 rfl) ?_
            refine lv_dup hx hb dX1_make_75 rfl ?_
            refine F_g5 cx hH lkX1_50 dX1_make_76 ?_
            refine lv_aload_n hx hb dX1_make_79 rfl (lv_at hl 1 rfl) ?_
            refine F_ra14 cx hH lkX1_22 dX1_make_80 ?_
            refine lv_iload hx hb dX1_make_83 (lv_at hl 4 rfl) ?_
            obtain ⟨hi_32, h⟩ := fb_ck_s h
            refine F_l14 cx hH hi_32 dX1_make_85 ?_
            refine lv_isub hx hb dX1_make_86 ?_
            obtain ⟨S_33, eS_33, h⟩ := fb_st_s h
            refine F_p5 cx hH lkX1_50 dX1_make_87 (fun H locs hH => ?_)
            rw [← eS_33] at hH
            obtain ⟨x4_34, ex4_34, h⟩ := fb_vl_s h
            refine lv_iinc (v := x4_34) (lv' := [(4, .int x4_34), (5, .int x5_24), (0, .ref (b 3)), (1, .int x1), (3, .int x3)]) hx hb dX1_make_90 hl (k := 4) rfl (by rw [ex4_34]; rfl) (by decide) rfl (fun ls hl => ?_)
            refine lv_goto (tgt := 20) hx hb dX1_make_93 (by decide) ?_
            exact ih20 _ _ _ _ _ _ _ h hH (lv_sub hl [2, 3, 4, 0] rfl)
        · replace h := fb_ip c_25 h
          refine lv_iconst (v := 1) hx hb dX1_make_39 (by decide) ?_
          obtain ⟨hn, h⟩ := fb_cb_s h
          obtain ⟨rfl, rfl⟩ := Prod.mk.inj (Option.some.inj h)
          exact fb_zret (wd := wF cI cZ b) cx rfl hH hn dX1_make_40
  unfold pX1_make at h
  refine lv_aload_n hx hb dX1_make_0 rfl (lv_at hl 0 rfl) ?_
  refine lv_iload_n hx hb dX1_make_1 rfl (lv_at hl 1 rfl) ?_
  refine lv_iload_n hx hb dX1_make_2 rfl (lv_at hl 2 rfl) ?_
  obtain ⟨r_16, S_17, hc_15, h⟩ := fb_bd2_s h
  refine fb_vi (wd := wF cI cZ b) (As := [.int x1, .int x2]) (rest := []) cx hH mwX1_mostWorth (ctX1_mostWorth l D cI cZ b hc_15) (F_rc3 cx hH) mlX1_46 (by decide) rfl hl.1 (Nat.le_of_ble_eq_true rfl) rfl dX1_make_3 (fun H locs hH => ?_)
  refine lv_pop hx hb dX1_make_6 rfl ?_
  refine lv_aload_n hx hb dX1_make_7 rfl (lv_at hl 0 rfl) ?_
  refine lv_iconst (v := 0) hx hb dX1_make_8 (by decide) ?_
  obtain ⟨S_18, eS_18, h⟩ := fb_st_s h
  refine F_p4 cx hH lkX1_49 dX1_make_9 (fun H locs hH => ?_)
  rw [← eS_18] at hH
  refine lv_aload_n hx hb dX1_make_12 rfl (lv_at hl 0 rfl) ?_
  refine lv_iload_n hx hb dX1_make_13 rfl (lv_at hl 2 rfl) ?_
  obtain ⟨S_19, eS_19, h⟩ := fb_st_s h
  refine F_p5 cx hH lkX1_50 dX1_make_14 (fun H locs hH => ?_)
  rw [← eS_19] at hH
  refine lv_iconst (v := 0) hx hb dX1_make_17 (by decide) ?_
  obtain ⟨x4_20, ex4_20, h⟩ := fb_vl_s h
  refine fb_top ex4_20 ?_
  refine lv_istore (lv' := [(4, .int x4_20), (0, .ref (b 3)), (1, .int x1), (2, .int x2), (3, .int x3)]) hx hb dX1_make_18 hl (by decide) rfl (fun ls hl => ?_)
  exact hL20 5000 _ _ _ _ _ _ _ h hH (lv_sub hl [1, 2, 4, 0] rfl)
