set_option maxHeartbeats 4000000 in
set_option maxRecDepth 100000 in
theorem ctX5_has (l : Launch) (D : va_G) (cI cZ : ClassId) (b : Nat → Nat) {S : Sg} {x1 : Int32} {r : Int32} (h : pX5_has S x1 = some r) : CTi l D cI cZ (wF cI cZ b) yX5_has cX5_has 2 (some .boolean) 0 [.ref (b 7), .int x1] S r S := by
  refine fb_starti (by decide) (Nat.le_of_ble_eq_true rfl) (fun p e s m args below meth c ls cx hH hl => ?_)
  obtain ⟨hx, hb, -⟩ := id cx
  have hl : lv_has ls 2 [(0, .ref (b 7)), (1, .int x1)] := hl
  unfold pX5_has at h
  refine lv_iload_n hx hb dX5_has_0 rfl (lv_at hl 1 rfl) ?_
  refine lv_if_lt (tgt := 16) hx hb dX5_has_1 (by decide) (fun c_1 => ?_) (fun c_1 => ?_)
  · replace h := fb_ip c_1 h
    refine lv_iconst (v := 0) hx hb dX5_has_16 (by decide) ?_
    obtain ⟨hn, h⟩ := fb_cb_s h
    obtain rfl := Option.some.inj h
    exact fb_zret (wd := wF cI cZ b) cx rfl hH hn dX5_has_17
  · replace h := fb_in c_1 h
    refine lv_iload_n hx hb dX5_has_4 rfl (lv_at hl 1 rfl) ?_
    refine lv_aload_n hx hb dX5_has_5 rfl (lv_at hl 0 rfl) ?_
    refine F_g14 cx hH lkX5_36 dX5_has_6 ?_
    refine lv_icmp_ge (tgt := 16) hx hb dX5_has_9 (by decide) (fun c_2 => ?_) (fun c_2 => ?_)
    · replace h := fb_ip c_2 h
      refine lv_iconst (v := 0) hx hb dX5_has_16 (by decide) ?_
      obtain ⟨hn, h⟩ := fb_cb_s h
      obtain rfl := Option.some.inj h
      exact fb_zret (wd := wF cI cZ b) cx rfl hH hn dX5_has_17
    · replace h := fb_in c_2 h
      refine lv_iconst (v := 1) hx hb dX5_has_12 (by decide) ?_
      refine lv_goto (tgt := 17) hx hb dX5_has_13 (by decide) ?_
      obtain ⟨hn, h⟩ := fb_cb_s h
      obtain rfl := Option.some.inj h
      exact fb_zret (wd := wF cI cZ b) cx rfl hH hn dX5_has_17
set_option maxHeartbeats 4000000 in
set_option maxRecDepth 100000 in
theorem ctX5_isFilled (l : Launch) (D : va_G) (cI cZ : ClassId) (b : Nat → Nat) {S : Sg} {x1 : Int32} {r : Int32} (h : pX5_isFilled S x1 = some r) : CTi l D cI cZ (wF cI cZ b) yX5_isFilled cX5_isFilled 2 (some .boolean) 0 [.ref (b 7), .int x1] S r S := by
  refine fb_starti (by decide) (Nat.le_of_ble_eq_true rfl) (fun p e s m args below meth c ls cx hH hl => ?_)
  obtain ⟨hx, hb, -⟩ := id cx
  have hl : lv_has ls 2 [(0, .ref (b 7)), (1, .int x1)] := hl
  unfold pX5_isFilled at h
  refine lv_aload_n hx hb dX5_isFilled_0 rfl (lv_at hl 0 rfl) ?_
  refine F_ra35 cx hH lkX5_27 dX5_isFilled_1 ?_
  refine lv_iload_n hx hb dX5_isFilled_4 rfl (lv_at hl 1 rfl) ?_
  obtain ⟨hi_1, h⟩ := fb_ck_s h
  refine F_l35 cx hH hi_1 dX5_isFilled_5 ?_
  refine lv_if_le (tgt := 13) hx hb dX5_isFilled_6 (by decide) (fun c_2 => ?_) (fun c_2 => ?_)
  · replace h := fb_ip c_2 h
    refine lv_iconst (v := 0) hx hb dX5_isFilled_13 (by decide) ?_
    obtain ⟨hn, h⟩ := fb_cb_s h
    obtain rfl := Option.some.inj h
    exact fb_zret (wd := wF cI cZ b) cx rfl hH hn dX5_isFilled_14
  · replace h := fb_in c_2 h
    refine lv_iconst (v := 1) hx hb dX5_isFilled_9 (by decide) ?_
    refine lv_goto (tgt := 14) hx hb dX5_isFilled_10 (by decide) ?_
    obtain ⟨hn, h⟩ := fb_cb_s h
    obtain rfl := Option.some.inj h
    exact fb_zret (wd := wF cI cZ b) cx rfl hH hn dX5_isFilled_14
set_option maxHeartbeats 4000000 in
set_option maxRecDepth 100000 in
theorem ctX5_add (l : Launch) (D : va_G) (cI cZ : ClassId) (b : Nat → Nat) {S : Sg} {x1 x2 x3 x4 x5 : Int32} {r : Int32} {S9 : Sg} (h : pX5_add S x1 x2 x3 x4 x5 = some (r, S9)) : CTi l D cI cZ (wF cI cZ b) yX5_add cX5_add 6 (some .int) 0 [.ref (b 7), .int x1, .int x2, .int x3, .int x4, .int x5] S r S9 := by
  refine fb_starti (by decide) (Nat.le_of_ble_eq_true rfl) (fun p e s m args below meth c ls cx hH hl => ?_)
  obtain ⟨hx, hb, -⟩ := id cx
  have hl : lv_has ls 6 [(0, .ref (b 7)), (1, .int x1), (2, .int x2), (3, .int x3), (4, .int x4), (5, .int x5)] := hl
  unfold pX5_add at h
  refine lv_aload_n hx hb dX5_add_0 rfl (lv_at hl 0 rfl) ?_
  refine F_ra30 cx hH lkX5_9 dX5_add_1 ?_
  refine lv_aload_n hx hb dX5_add_4 rfl (lv_at hl 0 rfl) ?_
  refine F_g14 cx hH lkX5_36 dX5_add_5 ?_
  refine lv_iload_n hx hb dX5_add_8 rfl (lv_at hl 1 rfl) ?_
  obtain ⟨hi_2, h⟩ := fb_ck_s h
  obtain ⟨S_1, eS_1, h⟩ := fb_st_s h
  refine F_s30 cx hH hi_2 dX5_add_9 (fun H locs hH => ?_)
  rw [← eS_1] at hH
  refine lv_aload_n hx hb dX5_add_10 rfl (lv_at hl 0 rfl) ?_
  refine F_ra31 cx hH lkX5_15 dX5_add_11 ?_
  refine lv_aload_n hx hb dX5_add_14 rfl (lv_at hl 0 rfl) ?_
  refine F_g14 cx hH lkX5_36 dX5_add_15 ?_
  refine lv_iload_n hx hb dX5_add_18 rfl (lv_at hl 2 rfl) ?_
  obtain ⟨hi_4, h⟩ := fb_ck_s h
  obtain ⟨S_3, eS_3, h⟩ := fb_st_s h
  refine F_s31 cx hH hi_4 dX5_add_19 (fun H locs hH => ?_)
  rw [← eS_3] at hH
  refine lv_aload_n hx hb dX5_add_20 rfl (lv_at hl 0 rfl) ?_
  refine F_ra32 cx hH lkX5_18 dX5_add_21 ?_
  refine lv_aload_n hx hb dX5_add_24 rfl (lv_at hl 0 rfl) ?_
  refine F_g14 cx hH lkX5_36 dX5_add_25 ?_
  refine lv_iload_n hx hb dX5_add_28 rfl (lv_at hl 3 rfl) ?_
  obtain ⟨hi_6, h⟩ := fb_ck_s h
  obtain ⟨S_5, eS_5, h⟩ := fb_st_s h
  refine F_s32 cx hH hi_6 dX5_add_29 (fun H locs hH => ?_)
  rw [← eS_5] at hH
  refine lv_aload_n hx hb dX5_add_30 rfl (lv_at hl 0 rfl) ?_
  refine F_ra33 cx hH lkX5_21 dX5_add_31 ?_
  refine lv_aload_n hx hb dX5_add_34 rfl (lv_at hl 0 rfl) ?_
  refine F_g14 cx hH lkX5_36 dX5_add_35 ?_
  refine lv_iload hx hb dX5_add_38 (lv_at hl 4 rfl) ?_
  obtain ⟨hi_8, h⟩ := fb_ck_s h
  obtain ⟨S_7, eS_7, h⟩ := fb_st_s h
  refine F_s33 cx hH hi_8 dX5_add_40 (fun H locs hH => ?_)
  rw [← eS_7] at hH
  refine lv_aload_n hx hb dX5_add_41 rfl (lv_at hl 0 rfl) ?_
  refine F_ra34 cx hH lkX5_24 dX5_add_42 ?_
  refine lv_aload_n hx hb dX5_add_45 rfl (lv_at hl 0 rfl) ?_
  refine F_g14 cx hH lkX5_36 dX5_add_46 ?_
  refine lv_iload hx hb dX5_add_49 (lv_at hl 5 rfl) ?_
  obtain ⟨hi_10, h⟩ := fb_ck_s h
  obtain ⟨S_9, eS_9, h⟩ := fb_st_s h
  refine F_s34 cx hH hi_10 dX5_add_51 (fun H locs hH => ?_)
  rw [← eS_9] at hH
  refine lv_aload_n hx hb dX5_add_52 rfl (lv_at hl 0 rfl) ?_
  refine lv_dup hx hb dX5_add_53 rfl ?_
  refine F_g14 cx hH lkX5_36 dX5_add_54 ?_
  refine lv_iconst (v := 1) hx hb dX5_add_57 (by decide) ?_
  refine lv_iadd hx hb dX5_add_58 ?_
  obtain ⟨S_11, eS_11, h⟩ := fb_st_s h
  refine F_p14 cx hH lkX5_36 dX5_add_59 (fun H locs hH => ?_)
  rw [← eS_11] at hH
  refine lv_aload_n hx hb dX5_add_62 rfl (lv_at hl 0 rfl) ?_
  refine F_g14 cx hH lkX5_36 dX5_add_63 ?_
  refine lv_iconst (v := 1) hx hb dX5_add_66 (by decide) ?_
  refine lv_isub hx hb dX5_add_67 ?_
  obtain ⟨rfl, rfl⟩ := Prod.mk.inj (Option.some.inj h)
  exact fb_iret (wd := wF cI cZ b) cx rfl hH dX5_add_68
set_option maxHeartbeats 4000000 in
set_option maxRecDepth 100000 in
theorem ctX5_beginTaking (l : Launch) (D : va_G) (cI cZ : ClassId) (b : Nat → Nat) {S : Sg} {x1 : Int32} {S9 : Sg} (h : pX5_beginTaking S x1 = some S9) : CTv l D cI cZ (wF cI cZ b) yX5_beginTaking cX5_beginTaking 2 0 [.ref (b 7), .int x1] S S9 := by
  refine fb_startv (by decide) (Nat.le_of_ble_eq_true rfl) (fun p e s m args below meth c ls cx hH hl => ?_)
  obtain ⟨hx, hb, -⟩ := id cx
  have hl : lv_has ls 2 [(0, .ref (b 7)), (1, .int x1)] := hl
  unfold pX5_beginTaking at h
  refine lv_aload_n hx hb dX5_beginTaking_0 rfl (lv_at hl 0 rfl) ?_
  refine F_ra36 cx hH lkX5_30 dX5_beginTaking_1 ?_
  refine lv_iload_n hx hb dX5_beginTaking_4 rfl (lv_at hl 1 rfl) ?_
  refine lv_aload_n hx hb dX5_beginTaking_5 rfl (lv_at hl 0 rfl) ?_
  refine F_g13 cx hH lkX5_40 dX5_beginTaking_6 ?_
  obtain ⟨hi_2, h⟩ := fb_ck_s h
  obtain ⟨S_1, eS_1, h⟩ := fb_st_s h
  refine F_s36 cx hH hi_2 dX5_beginTaking_9 (fun H locs hH => ?_)
  rw [← eS_1] at hH
  refine lv_aload_n hx hb dX5_beginTaking_10 rfl (lv_at hl 0 rfl) ?_
  refine lv_dup hx hb dX5_beginTaking_11 rfl ?_
  refine F_g15 cx hH lkX5_43 dX5_beginTaking_12 ?_
  refine lv_iconst (v := 1) hx hb dX5_beginTaking_15 (by decide) ?_
  refine lv_iadd hx hb dX5_beginTaking_16 ?_
  obtain ⟨S_3, eS_3, h⟩ := fb_st_s h
  refine F_p15 cx hH lkX5_43 dX5_beginTaking_17 (fun H locs hH => ?_)
  rw [← eS_3] at hH
  obtain rfl := Option.some.inj h
  exact fb_vret (wd := wF cI cZ b) cx hH dX5_beginTaking_20
set_option maxHeartbeats 4000000 in
set_option maxRecDepth 100000 in
theorem ctX5_take (l : Launch) (D : va_G) (cI cZ : ClassId) (b : Nat → Nat) {S : Sg} {x1 x2 : Int32} {S9 : Sg} (h : pX5_take S x1 x2 = some S9) : CTv l D cI cZ (wF cI cZ b) yX5_take cX5_take 3 0 [.ref (b 7), .int x1, .int x2] S S9 := by
  refine fb_startv (by decide) (Nat.le_of_ble_eq_true rfl) (fun p e s m args below meth c ls cx hH hl => ?_)
  obtain ⟨hx, hb, -⟩ := id cx
  have hl : lv_has ls 3 [(0, .ref (b 7)), (1, .int x1), (2, .int x2)] := hl
  unfold pX5_take at h
  refine lv_aload_n hx hb dX5_take_0 rfl (lv_at hl 0 rfl) ?_
  refine F_g13 cx hH lkX5_40 dX5_take_1 ?_
  refine lv_sipush (v := 200) hx hb dX5_take_4 (by decide) ?_
  refine lv_icmp_ge (tgt := 40) hx hb dX5_take_7 (by decide) (fun c_1 => ?_) (fun c_1 => ?_)
  · replace h := fb_ip c_1 h
    obtain rfl := Option.some.inj h
    exact fb_vret (wd := wF cI cZ b) cx hH dX5_take_40
  · replace h := fb_in c_1 h
    refine lv_aload_n hx hb dX5_take_10 rfl (lv_at hl 0 rfl) ?_
    refine F_ra37 cx hH lkX5_33 dX5_take_11 ?_
    refine lv_aload_n hx hb dX5_take_14 rfl (lv_at hl 0 rfl) ?_
    refine F_g13 cx hH lkX5_40 dX5_take_15 ?_
    refine lv_iload_n hx hb dX5_take_18 rfl (lv_at hl 2 rfl) ?_
    obtain ⟨hi_3, h⟩ := fb_ck_s h
    obtain ⟨S_2, eS_2, h⟩ := fb_st_s h
    refine F_s37 cx hH hi_3 dX5_take_19 (fun H locs hH => ?_)
    rw [← eS_2] at hH
    refine lv_aload_n hx hb dX5_take_20 rfl (lv_at hl 0 rfl) ?_
    refine lv_dup hx hb dX5_take_21 rfl ?_
    refine F_g13 cx hH lkX5_40 dX5_take_22 ?_
    refine lv_iconst (v := 1) hx hb dX5_take_25 (by decide) ?_
    refine lv_iadd hx hb dX5_take_26 ?_
    obtain ⟨S_4, eS_4, h⟩ := fb_st_s h
    refine F_p13 cx hH lkX5_40 dX5_take_27 (fun H locs hH => ?_)
    rw [← eS_4] at hH
    refine lv_aload_n hx hb dX5_take_30 rfl (lv_at hl 0 rfl) ?_
    refine F_ra35 cx hH lkX5_27 dX5_take_31 ?_
    refine lv_iload_n hx hb dX5_take_34 rfl (lv_at hl 1 rfl) ?_
    refine lv_dup2_11 hx hb dX5_take_35 rfl rfl ?_
    obtain ⟨hi_5, h⟩ := fb_ck_s h
    refine F_l35 cx hH hi_5 dX5_take_36 ?_
    refine lv_iconst (v := 1) hx hb dX5_take_37 (by decide) ?_
    refine lv_iadd hx hb dX5_take_38 ?_
    obtain ⟨hi_7, h⟩ := fb_ck_s h
    obtain ⟨S_6, eS_6, h⟩ := fb_st_s h
    refine F_s35 cx hH hi_7 dX5_take_39 (fun H locs hH => ?_)
    rw [← eS_6] at hH
    obtain rfl := Option.some.inj h
    exact fb_vret (wd := wF cI cZ b) cx hH dX5_take_40
set_option maxHeartbeats 4000000 in
set_option maxRecDepth 100000 in
theorem ctX5_takenAt (l : Launch) (D : va_G) (cI cZ : ClassId) (b : Nat → Nat) {S : Sg} {x1 x2 : Int32} {r : Int32} (h : pX5_takenAt S x1 x2 = some r) : CTi l D cI cZ (wF cI cZ b) yX5_takenAt cX5_takenAt 3 (some .int) 0 [.ref (b 7), .int x1, .int x2] S r S := by
  refine fb_starti (by decide) (Nat.le_of_ble_eq_true rfl) (fun p e s m args below meth c ls cx hH hl => ?_)
  obtain ⟨hx, hb, -⟩ := id cx
  have hl : lv_has ls 3 [(0, .ref (b 7)), (1, .int x1), (2, .int x2)] := hl
  unfold pX5_takenAt at h
  refine lv_aload_n hx hb dX5_takenAt_0 rfl (lv_at hl 0 rfl) ?_
  refine F_ra37 cx hH lkX5_33 dX5_takenAt_1 ?_
  refine lv_aload_n hx hb dX5_takenAt_4 rfl (lv_at hl 0 rfl) ?_
  refine F_ra36 cx hH lkX5_30 dX5_takenAt_5 ?_
  refine lv_iload_n hx hb dX5_takenAt_8 rfl (lv_at hl 1 rfl) ?_
  obtain ⟨hi_1, h⟩ := fb_ck_s h
  refine F_l36 cx hH hi_1 dX5_takenAt_9 ?_
  refine lv_iload_n hx hb dX5_takenAt_10 rfl (lv_at hl 2 rfl) ?_
  refine lv_iadd hx hb dX5_takenAt_11 ?_
  obtain ⟨hi_2, h⟩ := fb_ck_s h
  refine F_l37 cx hH hi_2 dX5_takenAt_12 ?_
  obtain rfl := Option.some.inj h
  exact fb_iret (wd := wF cI cZ b) cx rfl hH dX5_takenAt_13
