set_option maxHeartbeats 4000000 in
set_option maxRecDepth 100000 in
theorem ctX6_has (l : Launch) (D : va_G) (cI cZ : ClassId) (b : Nat → Nat) {S : Sg} {x1 : Int32} {r : Int32} (h : pX6_has S x1 = some r) : CTi l D cI cZ (wF cI cZ b) yX6_has cX6_has 2 (some .boolean) 0 [.ref (b 5), .int x1] S r S := by
  refine fb_starti (by decide) (Nat.le_of_ble_eq_true rfl) (fun p e s m args below meth c ls cx hH hl => ?_)
  obtain ⟨hx, hb, -⟩ := id cx
  have hl : lv_has ls 2 [(0, .ref (b 5)), (1, .int x1)] := hl
  unfold pX6_has at h
  refine lv_iload_n hx hb dX6_has_0 rfl (lv_at hl 1 rfl) ?_
  refine lv_if_lt (tgt := 16) hx hb dX6_has_1 (by decide) (fun c_1 => ?_) (fun c_1 => ?_)
  · replace h := fb_ip c_1 h
    refine lv_iconst (v := 0) hx hb dX6_has_16 (by decide) ?_
    obtain ⟨hn, h⟩ := fb_cb_s h
    obtain rfl := Option.some.inj h
    exact fb_zret (wd := wF cI cZ b) cx rfl hH hn dX6_has_17
  · replace h := fb_in c_1 h
    refine lv_iload_n hx hb dX6_has_4 rfl (lv_at hl 1 rfl) ?_
    refine lv_aload_n hx hb dX6_has_5 rfl (lv_at hl 0 rfl) ?_
    refine F_g9 cx hH lkX6_48 dX6_has_6 ?_
    refine lv_icmp_ge (tgt := 16) hx hb dX6_has_9 (by decide) (fun c_2 => ?_) (fun c_2 => ?_)
    · replace h := fb_ip c_2 h
      refine lv_iconst (v := 0) hx hb dX6_has_16 (by decide) ?_
      obtain ⟨hn, h⟩ := fb_cb_s h
      obtain rfl := Option.some.inj h
      exact fb_zret (wd := wF cI cZ b) cx rfl hH hn dX6_has_17
    · replace h := fb_in c_2 h
      refine lv_iconst (v := 1) hx hb dX6_has_12 (by decide) ?_
      refine lv_goto (tgt := 17) hx hb dX6_has_13 (by decide) ?_
      obtain ⟨hn, h⟩ := fb_cb_s h
      obtain rfl := Option.some.inj h
      exact fb_zret (wd := wF cI cZ b) cx rfl hH hn dX6_has_17
set_option maxHeartbeats 4000000 in
set_option maxRecDepth 100000 in
theorem ctX6_add (l : Launch) (D : va_G) (cI cZ : ClassId) (b : Nat → Nat) {S : Sg} {x1 x2 x3 x4 x5 : Int32} {S9 : Sg} (h : pX6_add S x1 x2 x3 x4 x5 = some S9) : CTv l D cI cZ (wF cI cZ b) yX6_add cX6_add 6 0 [.ref (b 5), .int x1, .int x2, .int x3, .int x4, .int x5] S S9 := by
  refine fb_startv (by decide) (Nat.le_of_ble_eq_true rfl) (fun p e s m args below meth c ls cx hH hl => ?_)
  obtain ⟨hx, hb, -⟩ := id cx
  have hl : lv_has ls 6 [(0, .ref (b 5)), (1, .int x1), (2, .int x2), (3, .int x3), (4, .int x4), (5, .int x5)] := hl
  unfold pX6_add at h
  refine lv_aload_n hx hb dX6_add_0 rfl (lv_at hl 0 rfl) ?_
  refine F_ra18 cx hH lkX6_9 dX6_add_1 ?_
  refine lv_aload_n hx hb dX6_add_4 rfl (lv_at hl 0 rfl) ?_
  refine F_g9 cx hH lkX6_48 dX6_add_5 ?_
  refine lv_iload_n hx hb dX6_add_8 rfl (lv_at hl 1 rfl) ?_
  obtain ⟨hi_2, h⟩ := fb_ck_s h
  obtain ⟨S_1, eS_1, h⟩ := fb_st_s h
  refine F_s18 cx hH hi_2 dX6_add_9 (fun H locs hH => ?_)
  rw [← eS_1] at hH
  refine lv_aload_n hx hb dX6_add_10 rfl (lv_at hl 0 rfl) ?_
  refine F_ra19 cx hH lkX6_15 dX6_add_11 ?_
  refine lv_aload_n hx hb dX6_add_14 rfl (lv_at hl 0 rfl) ?_
  refine F_g9 cx hH lkX6_48 dX6_add_15 ?_
  refine lv_iload_n hx hb dX6_add_18 rfl (lv_at hl 2 rfl) ?_
  obtain ⟨hi_4, h⟩ := fb_ck_s h
  obtain ⟨S_3, eS_3, h⟩ := fb_st_s h
  refine F_s19 cx hH hi_4 dX6_add_19 (fun H locs hH => ?_)
  rw [← eS_3] at hH
  refine lv_aload_n hx hb dX6_add_20 rfl (lv_at hl 0 rfl) ?_
  refine F_ra20 cx hH lkX6_18 dX6_add_21 ?_
  refine lv_aload_n hx hb dX6_add_24 rfl (lv_at hl 0 rfl) ?_
  refine F_g9 cx hH lkX6_48 dX6_add_25 ?_
  refine lv_iload_n hx hb dX6_add_28 rfl (lv_at hl 3 rfl) ?_
  obtain ⟨hi_6, h⟩ := fb_ck_s h
  obtain ⟨S_5, eS_5, h⟩ := fb_st_s h
  refine F_s20 cx hH hi_6 dX6_add_29 (fun H locs hH => ?_)
  rw [← eS_5] at hH
  refine lv_aload_n hx hb dX6_add_30 rfl (lv_at hl 0 rfl) ?_
  refine F_ra21 cx hH lkX6_21 dX6_add_31 ?_
  refine lv_aload_n hx hb dX6_add_34 rfl (lv_at hl 0 rfl) ?_
  refine F_g9 cx hH lkX6_48 dX6_add_35 ?_
  refine lv_iload hx hb dX6_add_38 (lv_at hl 4 rfl) ?_
  obtain ⟨hi_8, h⟩ := fb_ck_s h
  obtain ⟨S_7, eS_7, h⟩ := fb_st_s h
  refine F_s21 cx hH hi_8 dX6_add_40 (fun H locs hH => ?_)
  rw [← eS_7] at hH
  refine lv_aload_n hx hb dX6_add_41 rfl (lv_at hl 0 rfl) ?_
  refine F_ra22 cx hH lkX6_24 dX6_add_42 ?_
  refine lv_aload_n hx hb dX6_add_45 rfl (lv_at hl 0 rfl) ?_
  refine F_g9 cx hH lkX6_48 dX6_add_46 ?_
  refine lv_iload hx hb dX6_add_49 (lv_at hl 5 rfl) ?_
  obtain ⟨hi_10, h⟩ := fb_ck_s h
  obtain ⟨S_9, eS_9, h⟩ := fb_st_s h
  refine F_s22 cx hH hi_10 dX6_add_51 (fun H locs hH => ?_)
  rw [← eS_9] at hH
  refine lv_aload_n hx hb dX6_add_52 rfl (lv_at hl 0 rfl) ?_
  refine F_ra23 cx hH lkX6_27 dX6_add_53 ?_
  refine lv_aload_n hx hb dX6_add_56 rfl (lv_at hl 0 rfl) ?_
  refine F_g9 cx hH lkX6_48 dX6_add_57 ?_
  refine lv_aload_n hx hb dX6_add_60 rfl (lv_at hl 0 rfl) ?_
  refine F_g10 cx hH lkX6_52 dX6_add_61 ?_
  obtain ⟨hi_12, h⟩ := fb_ck_s h
  obtain ⟨S_11, eS_11, h⟩ := fb_st_s h
  refine F_s23 cx hH hi_12 dX6_add_64 (fun H locs hH => ?_)
  rw [← eS_11] at hH
  refine lv_aload_n hx hb dX6_add_65 rfl (lv_at hl 0 rfl) ?_
  refine F_ra25 cx hH lkX6_33 dX6_add_66 ?_
  refine lv_aload_n hx hb dX6_add_69 rfl (lv_at hl 0 rfl) ?_
  refine F_g9 cx hH lkX6_48 dX6_add_70 ?_
  refine lv_iconst (v := (-1)) hx hb dX6_add_73 (by decide) ?_
  obtain ⟨hi_14, h⟩ := fb_ck_s h
  obtain ⟨S_13, eS_13, h⟩ := fb_st_s h
  refine F_s25 cx hH hi_14 dX6_add_74 (fun H locs hH => ?_)
  rw [← eS_13] at hH
  refine lv_aload_n hx hb dX6_add_75 rfl (lv_at hl 0 rfl) ?_
  refine lv_dup hx hb dX6_add_76 rfl ?_
  refine F_g9 cx hH lkX6_48 dX6_add_77 ?_
  refine lv_iconst (v := 1) hx hb dX6_add_80 (by decide) ?_
  refine lv_iadd hx hb dX6_add_81 ?_
  obtain ⟨S_15, eS_15, h⟩ := fb_st_s h
  refine F_p9 cx hH lkX6_48 dX6_add_82 (fun H locs hH => ?_)
  rw [← eS_15] at hH
  obtain rfl := Option.some.inj h
  exact fb_vret (wd := wF cI cZ b) cx hH dX6_add_85
set_option maxHeartbeats 4000000 in
set_option maxRecDepth 100000 in
theorem ctX6_state (l : Launch) (D : va_G) (cI cZ : ClassId) (b : Nat → Nat) {S : Sg} {x1 : Int32} {r : Int32} (h : pX6_state S x1 = some r) : CTi l D cI cZ (wF cI cZ b) yX6_state cX6_state 2 (some .int) 0 [.ref (b 5), .int x1] S r S := by
  refine fb_starti (by decide) (Nat.le_of_ble_eq_true rfl) (fun p e s m args below meth c ls cx hH hl => ?_)
  obtain ⟨hx, hb, -⟩ := id cx
  have hl : lv_has ls 2 [(0, .ref (b 5)), (1, .int x1)] := hl
  unfold pX6_state at h
  refine lv_aload_n hx hb dX6_state_0 rfl (lv_at hl 0 rfl) ?_
  refine F_ra26 cx hH lkX6_36 dX6_state_1 ?_
  refine lv_iload_n hx hb dX6_state_4 rfl (lv_at hl 1 rfl) ?_
  obtain ⟨hi_1, h⟩ := fb_ck_s h
  refine F_l26 cx hH hi_1 dX6_state_5 ?_
  refine lv_if_le (tgt := 11) hx hb dX6_state_6 (by decide) (fun c_2 => ?_) (fun c_2 => ?_)
  · replace h := fb_ip c_2 h
    refine lv_aload_n hx hb dX6_state_11 rfl (lv_at hl 0 rfl) ?_
    refine F_ra25 cx hH lkX6_33 dX6_state_12 ?_
    refine lv_iload_n hx hb dX6_state_15 rfl (lv_at hl 1 rfl) ?_
    obtain ⟨hi_3, h⟩ := fb_ck_s h
    refine F_l25 cx hH hi_3 dX6_state_16 ?_
    refine lv_iconst (v := (-1)) hx hb dX6_state_17 (by decide) ?_
    refine lv_icmp_ne (tgt := 25) hx hb dX6_state_18 (by decide) (fun c_4 => ?_) (fun c_4 => ?_)
    · replace h := fb_in c_4 h
      refine lv_iconst (v := 1) hx hb dX6_state_25 (by decide) ?_
      obtain rfl := Option.some.inj h
      exact fb_iret (wd := wF cI cZ b) cx rfl hH dX6_state_26
    · replace h := fb_ip c_4 h
      refine lv_iconst (v := 0) hx hb dX6_state_21 (by decide) ?_
      refine lv_goto (tgt := 26) hx hb dX6_state_22 (by decide) ?_
      obtain rfl := Option.some.inj h
      exact fb_iret (wd := wF cI cZ b) cx rfl hH dX6_state_26
  · replace h := fb_in c_2 h
    refine lv_iconst (v := 2) hx hb dX6_state_9 (by decide) ?_
    obtain rfl := Option.some.inj h
    exact fb_iret (wd := wF cI cZ b) cx rfl hH dX6_state_10
set_option maxHeartbeats 4000000 in
set_option maxRecDepth 100000 in
theorem ctX6_core (l : Launch) (D : va_G) (cI cZ : ClassId) (b : Nat → Nat) {S : Sg} {x1 : Int32} {r : Int32} (h : pX6_core S x1 = some r) : CTi l D cI cZ (wF cI cZ b) yX6_core cX6_core 3 (some .int) 0 [.ref (b 5), .int x1] S r S := by
  refine fb_starti (by decide) (Nat.le_of_ble_eq_true rfl) (fun p e s m args below meth c ls cx hH hl => ?_)
  obtain ⟨hx, hb, -⟩ := id cx
  have hl : lv_has ls 3 [(0, .ref (b 5)), (1, .int x1)] := hl
  unfold pX6_core at h
  refine lv_aload_n hx hb dX6_core_0 rfl (lv_at hl 0 rfl) ?_
  refine F_ra19 cx hH lkX6_15 dX6_core_1 ?_
  refine lv_iload_n hx hb dX6_core_4 rfl (lv_at hl 1 rfl) ?_
  obtain ⟨hi_1, h⟩ := fb_ck_s h
  refine F_l19 cx hH hi_1 dX6_core_5 ?_
  refine lv_aload_n hx hb dX6_core_6 rfl (lv_at hl 0 rfl) ?_
  refine F_ra20 cx hH lkX6_18 dX6_core_7 ?_
  refine lv_iload_n hx hb dX6_core_10 rfl (lv_at hl 1 rfl) ?_
  obtain ⟨hi_2, h⟩ := fb_ck_s h
  refine F_l20 cx hH hi_2 dX6_core_11 ?_
  refine lv_aload_n hx hb dX6_core_12 rfl (lv_at hl 0 rfl) ?_
  refine F_g10 cx hH lkX6_52 dX6_core_13 ?_
  refine lv_aload_n hx hb dX6_core_16 rfl (lv_at hl 0 rfl) ?_
  refine F_ra23 cx hH lkX6_27 dX6_core_17 ?_
  refine lv_iload_n hx hb dX6_core_20 rfl (lv_at hl 1 rfl) ?_
  obtain ⟨hi_3, h⟩ := fb_ck_s h
  refine F_l23 cx hH hi_3 dX6_core_21 ?_
  refine lv_isub hx hb dX6_core_22 ?_
  refine lv_imul hx hb dX6_core_23 ?_
  refine lv_isub hx hb dX6_core_24 ?_
  obtain ⟨x2_4, ex2_4, h⟩ := fb_vl_s h
  refine fb_top ex2_4 ?_
  refine lv_istore_n (lv' := [(2, .int x2_4), (0, .ref (b 5)), (1, .int x1)]) hx hb dX6_core_25 rfl hl (by decide) rfl (fun ls hl => ?_)
  refine lv_iload_n hx hb dX6_core_26 rfl (lv_at hl 0 rfl) ?_
  refine lv_bipush (v := 20) hx hb dX6_core_27 (by decide) ?_
  refine lv_icmp_ge (tgt := 37) hx hb dX6_core_29 (by decide) (fun c_5 => ?_) (fun c_5 => ?_)
  · replace h := fb_ip c_5 h
    refine lv_iload_n hx hb dX6_core_37 rfl (lv_at hl 0 rfl) ?_
    obtain rfl := Option.some.inj h
    exact fb_iret (wd := wF cI cZ b) cx rfl hH dX6_core_38
  · replace h := fb_in c_5 h
    refine lv_bipush (v := 20) hx hb dX6_core_32 (by decide) ?_
    refine lv_goto (tgt := 38) hx hb dX6_core_34 (by decide) ?_
    obtain rfl := Option.some.inj h
    exact fb_iret (wd := wF cI cZ b) cx rfl hH dX6_core_38
set_option maxHeartbeats 4000000 in
set_option maxRecDepth 100000 in
theorem ctX6_isHot (l : Launch) (D : va_G) (cI cZ : ClassId) (b : Nat → Nat) {S : Sg} {x1 : Int32} {r : Int32} (h : pX6_isHot S x1 = some r) : CTi l D cI cZ (wF cI cZ b) yX6_isHot cX6_isHot 2 (some .boolean) 1 [.ref (b 5), .int x1] S r S := by
  refine fb_starti (by decide) (Nat.le_of_ble_eq_true rfl) (fun p e s m args below meth c ls cx hH hl => ?_)
  obtain ⟨hx, hb, -⟩ := id cx
  have hl : lv_has ls 2 [(0, .ref (b 5)), (1, .int x1)] := hl
  unfold pX6_isHot at h
  refine lv_aload_n hx hb dX6_isHot_0 rfl (lv_at hl 0 rfl) ?_
  refine lv_iload_n hx hb dX6_isHot_1 rfl (lv_at hl 1 rfl) ?_
  obtain ⟨r_2, hc_1, h⟩ := fb_bd_s h
  refine fb_vi (wd := wF cI cZ b) (As := [.int x1]) (rest := []) cx hH mwX6_core (ctX6_core l D cI cZ b hc_1) (F_rc5 cx hH) mlX6_55 (by decide) rfl hl.1 (Nat.le_of_ble_eq_true rfl) rfl dX6_isHot_2 (fun H locs hH => ?_)
  refine lv_bipush (v := 60) hx hb dX6_isHot_5 (by decide) ?_
  refine lv_icmp_le (tgt := 14) hx hb dX6_isHot_7 (by decide) (fun c_3 => ?_) (fun c_3 => ?_)
  · replace h := fb_ip c_3 h
    refine lv_iconst (v := 0) hx hb dX6_isHot_14 (by decide) ?_
    obtain ⟨hn, h⟩ := fb_cb_s h
    obtain rfl := Option.some.inj h
    exact fb_zret (wd := wF cI cZ b) cx rfl hH hn dX6_isHot_15
  · replace h := fb_in c_3 h
    refine lv_iconst (v := 1) hx hb dX6_isHot_10 (by decide) ?_
    refine lv_goto (tgt := 15) hx hb dX6_isHot_11 (by decide) ?_
    obtain ⟨hn, h⟩ := fb_cb_s h
    obtain rfl := Option.some.inj h
    exact fb_zret (wd := wF cI cZ b) cx rfl hH hn dX6_isHot_15
set_option maxHeartbeats 4000000 in
set_option maxRecDepth 100000 in
theorem ctX6_isCured (l : Launch) (D : va_G) (cI cZ : ClassId) (b : Nat → Nat) {S : Sg} {x1 : Int32} {r : Int32} (h : pX6_isCured S x1 = some r) : CTi l D cI cZ (wF cI cZ b) yX6_isCured cX6_isCured 2 (some .boolean) 2 [.ref (b 5), .int x1] S r S := by
  refine fb_starti (by decide) (Nat.le_of_ble_eq_true rfl) (fun p e s m args below meth c ls cx hH hl => ?_)
  obtain ⟨hx, hb, -⟩ := id cx
  have hl : lv_has ls 2 [(0, .ref (b 5)), (1, .int x1)] := hl
  unfold pX6_isCured at h
  refine lv_aload_n hx hb dX6_isCured_0 rfl (lv_at hl 0 rfl) ?_
  refine lv_iload_n hx hb dX6_isCured_1 rfl (lv_at hl 1 rfl) ?_
  obtain ⟨r_2, hc_1, h⟩ := fb_bd_s h
  refine fb_vi (wd := wF cI cZ b) (As := [.int x1]) (rest := []) cx hH mwX6_state (ctX6_state l D cI cZ b hc_1) (F_rc5 cx hH) mlX6_59 (by decide) rfl hl.1 (Nat.le_of_ble_eq_true rfl) rfl dX6_isCured_2 (fun H locs hH => ?_)
  refine lv_iconst (v := 2) hx hb dX6_isCured_5 (by decide) ?_
  refine lv_icmp_eq (tgt := 32) hx hb dX6_isCured_6 (by decide) (fun c_3 => ?_) (fun c_3 => ?_)
  · replace h := fb_ip c_3 h
    refine lv_iconst (v := 0) hx hb dX6_isCured_32 (by decide) ?_
    obtain ⟨hn, h⟩ := fb_cb_s h
    obtain rfl := Option.some.inj h
    exact fb_zret (wd := wF cI cZ b) cx rfl hH hn dX6_isCured_33
  · replace h := fb_in c_3 h
    refine lv_aload_n hx hb dX6_isCured_9 rfl (lv_at hl 0 rfl) ?_
    refine F_ra24 cx hH lkX6_30 dX6_isCured_10 ?_
    refine lv_iload_n hx hb dX6_isCured_13 rfl (lv_at hl 1 rfl) ?_
    obtain ⟨hi_4, h⟩ := fb_ck_s h
    refine F_l24 cx hH hi_4 dX6_isCured_14 ?_
    refine lv_bipush (v := 24) hx hb dX6_isCured_15 (by decide) ?_
    refine lv_icmp_lt (tgt := 32) hx hb dX6_isCured_17 (by decide) (fun c_5 => ?_) (fun c_5 => ?_)
    · replace h := fb_ip c_5 h
      refine lv_iconst (v := 0) hx hb dX6_isCured_32 (by decide) ?_
      obtain ⟨hn, h⟩ := fb_cb_s h
      obtain rfl := Option.some.inj h
      exact fb_zret (wd := wF cI cZ b) cx rfl hH hn dX6_isCured_33
    · replace h := fb_in c_5 h
      refine lv_aload_n hx hb dX6_isCured_20 rfl (lv_at hl 0 rfl) ?_
      refine lv_iload_n hx hb dX6_isCured_21 rfl (lv_at hl 1 rfl) ?_
      obtain ⟨r_7, hc_6, h⟩ := fb_bd_s h
      refine fb_vi (wd := wF cI cZ b) (As := [.int x1]) (rest := []) cx hH mwX6_isHot (ctX6_isHot l D cI cZ b hc_6) (F_rc5 cx hH) mlX6_62 (by decide) rfl hl.1 (Nat.le_of_ble_eq_true rfl) rfl dX6_isCured_22 (fun H locs hH => ?_)
      refine lv_if_ne (tgt := 32) hx hb dX6_isCured_25 (by decide) (fun c_8 => ?_) (fun c_8 => ?_)
      · replace h := fb_in c_8 h
        refine lv_iconst (v := 0) hx hb dX6_isCured_32 (by decide) ?_
        obtain ⟨hn, h⟩ := fb_cb_s h
        obtain rfl := Option.some.inj h
        exact fb_zret (wd := wF cI cZ b) cx rfl hH hn dX6_isCured_33
      · replace h := fb_ip c_8 h
        refine lv_iconst (v := 1) hx hb dX6_isCured_28 (by decide) ?_
        refine lv_goto (tgt := 33) hx hb dX6_isCured_29 (by decide) ?_
        obtain ⟨hn, h⟩ := fb_cb_s h
        obtain rfl := Option.some.inj h
        exact fb_zret (wd := wF cI cZ b) cx rfl hH hn dX6_isCured_33
set_option maxHeartbeats 4000000 in
set_option maxRecDepth 100000 in
theorem ctX6_hasHot (l : Launch) (D : va_G) (cI cZ : ClassId) (b : Nat → Nat) {S : Sg} {x1 : Int32} {r : Int32} (h : pX6_hasHot S x1 = some r) : CTi l D cI cZ (wF cI cZ b) yX6_hasHot cX6_hasHot 2 (some .boolean) 2 [.ref (b 5), .int x1] S r S := by
  refine fb_starti (by decide) (Nat.le_of_ble_eq_true rfl) (fun p e s m args below meth c ls cx hH hl => ?_)
  obtain ⟨hx, hb, -⟩ := id cx
  have hl : lv_has ls 2 [(0, .ref (b 5)), (1, .int x1)] := hl
  unfold pX6_hasHot at h
  refine lv_iload_n hx hb dX6_hasHot_0 rfl (lv_at hl 1 rfl) ?_
  refine lv_if_lt (tgt := 38) hx hb dX6_hasHot_1 (by decide) (fun c_1 => ?_) (fun c_1 => ?_)
  · replace h := fb_ip c_1 h
    refine lv_iconst (v := 0) hx hb dX6_hasHot_38 (by decide) ?_
    obtain ⟨hn, h⟩ := fb_cb_s h
    obtain rfl := Option.some.inj h
    exact fb_zret (wd := wF cI cZ b) cx rfl hH hn dX6_hasHot_39
  · replace h := fb_in c_1 h
    refine lv_iload_n hx hb dX6_hasHot_4 rfl (lv_at hl 1 rfl) ?_
    refine lv_bipush (v := 24) hx hb dX6_hasHot_5 (by decide) ?_
    refine lv_icmp_ge (tgt := 38) hx hb dX6_hasHot_7 (by decide) (fun c_2 => ?_) (fun c_2 => ?_)
    · replace h := fb_ip c_2 h
      refine lv_iconst (v := 0) hx hb dX6_hasHot_38 (by decide) ?_
      obtain ⟨hn, h⟩ := fb_cb_s h
      obtain rfl := Option.some.inj h
      exact fb_zret (wd := wF cI cZ b) cx rfl hH hn dX6_hasHot_39
    · replace h := fb_in c_2 h
      refine lv_aload_n hx hb dX6_hasHot_10 rfl (lv_at hl 0 rfl) ?_
      refine F_ra27 cx hH lkX6_39 dX6_hasHot_11 ?_
      refine lv_iload_n hx hb dX6_hasHot_14 rfl (lv_at hl 1 rfl) ?_
      obtain ⟨hi_3, h⟩ := fb_ck_s h
      refine F_l27 cx hH hi_3 dX6_hasHot_15 ?_
      refine lv_bipush (v := (-2)) hx hb dX6_hasHot_16 (by decide) ?_
      refine lv_icmp_eq (tgt := 38) hx hb dX6_hasHot_18 (by decide) (fun c_4 => ?_) (fun c_4 => ?_)
      · replace h := fb_ip c_4 h
        refine lv_iconst (v := 0) hx hb dX6_hasHot_38 (by decide) ?_
        obtain ⟨hn, h⟩ := fb_cb_s h
        obtain rfl := Option.some.inj h
        exact fb_zret (wd := wF cI cZ b) cx rfl hH hn dX6_hasHot_39
      · replace h := fb_in c_4 h
        refine lv_aload_n hx hb dX6_hasHot_21 rfl (lv_at hl 0 rfl) ?_
        refine lv_aload_n hx hb dX6_hasHot_22 rfl (lv_at hl 0 rfl) ?_
        refine F_ra27 cx hH lkX6_39 dX6_hasHot_23 ?_
        refine lv_iload_n hx hb dX6_hasHot_26 rfl (lv_at hl 1 rfl) ?_
        obtain ⟨hi_5, h⟩ := fb_ck_s h
        refine F_l27 cx hH hi_5 dX6_hasHot_27 ?_
        obtain ⟨r_7, hc_6, h⟩ := fb_bd_s h
        refine fb_vi (wd := wF cI cZ b) (As := [.int (S.2 27 x1.toNatClampNeg)]) (rest := []) cx hH mwX6_isHot (ctX6_isHot l D cI cZ b hc_6) (F_rc5 cx hH) mlX6_62 (by decide) rfl hl.1 (Nat.le_of_ble_eq_true rfl) rfl dX6_hasHot_28 (fun H locs hH => ?_)
        refine lv_if_eq (tgt := 38) hx hb dX6_hasHot_31 (by decide) (fun c_8 => ?_) (fun c_8 => ?_)
        · replace h := fb_ip c_8 h
          refine lv_iconst (v := 0) hx hb dX6_hasHot_38 (by decide) ?_
          obtain ⟨hn, h⟩ := fb_cb_s h
          obtain rfl := Option.some.inj h
          exact fb_zret (wd := wF cI cZ b) cx rfl hH hn dX6_hasHot_39
        · replace h := fb_in c_8 h
          refine lv_iconst (v := 1) hx hb dX6_hasHot_34 (by decide) ?_
          refine lv_goto (tgt := 39) hx hb dX6_hasHot_35 (by decide) ?_
          obtain ⟨hn, h⟩ := fb_cb_s h
          obtain rfl := Option.some.inj h
          exact fb_zret (wd := wF cI cZ b) cx rfl hH hn dX6_hasHot_39
set_option maxHeartbeats 4000000 in
set_option maxRecDepth 100000 in
theorem ctX6_firstCalmPlace (l : Launch) (D : va_G) (cI cZ : ClassId) (b : Nat → Nat) {S : Sg} {r : Int32} (h : pX6_firstCalmPlace S = some r) : CTi l D cI cZ (wF cI cZ b) yX6_firstCalmPlace cX6_firstCalmPlace 2 (some .int) 3 [.ref (b 5)] S r S := by
  refine fb_starti (by decide) (Nat.le_of_ble_eq_true rfl) (fun p e s m args below meth c ls cx hH hl => ?_)
  obtain ⟨hx, hb, -⟩ := id cx
  have hl : lv_has ls 2 [(0, .ref (b 5))] := hl
  have hL2 : ∀ (n : Nat), ∀ (x1 : Int32) (H : Heap) (locs : List Loc) (ls : Array Slot), pX6_firstCalmPlace_l2 S n x1 = some r → HB D (wF cI cZ b S) (wF cI cZ b S) s H locs → lv_has ls 2 [(0, .ref (b 5)), (1, .int x1)] → W p l e (rmk 3) s m args below meth c H locs 0 0 (Ei D cI cZ (wF cI cZ b) S r S below args s) (F0 m 2 ls []) := by
    intro n2
    induction n2 with
    | zero => intro x1 H locs ls h hH hl; simp [pX6_firstCalmPlace_l2] at h
    | succ n2 ih2 =>
      intro x1 H locs ls h hH hl
      rw [pX6_firstCalmPlace_l2] at h
      refine lv_iload_n hx hb dX6_firstCalmPlace_2 rfl (lv_at hl 1 rfl) ?_
      refine lv_bipush (v := 24) hx hb dX6_firstCalmPlace_3 (by decide) ?_
      refine lv_icmp_ge (tgt := 47) hx hb dX6_firstCalmPlace_5 (by decide) (fun c_14 => ?_) (fun c_14 => ?_)
      · replace h := fb_ip c_14 h
        refine lv_iconst (v := (-1)) hx hb dX6_firstCalmPlace_47 (by decide) ?_
        obtain rfl := Option.some.inj h
        exact fb_iret (wd := wF cI cZ b) cx rfl hH dX6_firstCalmPlace_48
      · replace h := fb_in c_14 h
        refine lv_aload_n hx hb dX6_firstCalmPlace_8 rfl (lv_at hl 0 rfl) ?_
        refine F_ra27 cx hH lkX6_39 dX6_firstCalmPlace_9 ?_
        refine lv_iload_n hx hb dX6_firstCalmPlace_12 rfl (lv_at hl 1 rfl) ?_
        obtain ⟨hi_15, h⟩ := fb_ck_s h
        refine F_l27 cx hH hi_15 dX6_firstCalmPlace_13 ?_
        refine lv_bipush (v := (-2)) hx hb dX6_firstCalmPlace_14 (by decide) ?_
        refine lv_icmp_ne (tgt := 41) hx hb dX6_firstCalmPlace_16 (by decide) (fun c_16 => ?_) (fun c_16 => ?_)
        · replace h := fb_in c_16 h
          obtain ⟨x1_17, ex1_17, h⟩ := fb_vl_s h
          refine lv_iinc (v := x1_17) (lv' := [(1, .int x1_17), (0, .ref (b 5))]) hx hb dX6_firstCalmPlace_41 hl (k := 1) rfl (by rw [ex1_17]; rfl) (by decide) rfl (fun ls hl => ?_)
          refine lv_goto (tgt := 2) hx hb dX6_firstCalmPlace_44 (by decide) ?_
          exact ih2 _ _ _ _ h hH (lv_sub hl [1, 0] rfl)
        · replace h := fb_ip c_16 h
          refine lv_aload_n hx hb dX6_firstCalmPlace_19 rfl (lv_at hl 0 rfl) ?_
          refine lv_iload_n hx hb dX6_firstCalmPlace_20 rfl (lv_at hl 1 rfl) ?_
          refine lv_iconst (v := 1) hx hb dX6_firstCalmPlace_21 (by decide) ?_
          refine lv_isub hx hb dX6_firstCalmPlace_22 ?_
          obtain ⟨r_19, hc_18, h⟩ := fb_bd_s h
          refine fb_vi (wd := wF cI cZ b) (As := [.int (x1 - 1)]) (rest := []) cx hH mwX6_hasHot (ctX6_hasHot l D cI cZ b hc_18) (F_rc5 cx hH) mlX6_76 (by decide) rfl hl.1 (Nat.le_of_ble_eq_true rfl) rfl dX6_firstCalmPlace_23 (fun H locs hH => ?_)
          refine lv_if_ne (tgt := 41) hx hb dX6_firstCalmPlace_26 (by decide) (fun c_20 => ?_) (fun c_20 => ?_)
          · replace h := fb_in c_20 h
            obtain ⟨x1_21, ex1_21, h⟩ := fb_vl_s h
            refine lv_iinc (v := x1_21) (lv' := [(1, .int x1_21), (0, .ref (b 5))]) hx hb dX6_firstCalmPlace_41 hl (k := 1) rfl (by rw [ex1_21]; rfl) (by decide) rfl (fun ls hl => ?_)
            refine lv_goto (tgt := 2) hx hb dX6_firstCalmPlace_44 (by decide) ?_
            exact ih2 _ _ _ _ h hH (lv_sub hl [1, 0] rfl)
          · replace h := fb_ip c_20 h
            refine lv_aload_n hx hb dX6_firstCalmPlace_29 rfl (lv_at hl 0 rfl) ?_
            refine lv_iload_n hx hb dX6_firstCalmPlace_30 rfl (lv_at hl 1 rfl) ?_
            refine lv_iconst (v := 1) hx hb dX6_firstCalmPlace_31 (by decide) ?_
            refine lv_iadd hx hb dX6_firstCalmPlace_32 ?_
            obtain ⟨r_23, hc_22, h⟩ := fb_bd_s h
            refine fb_vi (wd := wF cI cZ b) (As := [.int (x1 + 1)]) (rest := []) cx hH mwX6_hasHot (ctX6_hasHot l D cI cZ b hc_22) (F_rc5 cx hH) mlX6_76 (by decide) rfl hl.1 (Nat.le_of_ble_eq_true rfl) rfl dX6_firstCalmPlace_33 (fun H locs hH => ?_)
            refine lv_if_ne (tgt := 41) hx hb dX6_firstCalmPlace_36 (by decide) (fun c_24 => ?_) (fun c_24 => ?_)
            · replace h := fb_in c_24 h
              obtain ⟨x1_25, ex1_25, h⟩ := fb_vl_s h
              refine lv_iinc (v := x1_25) (lv' := [(1, .int x1_25), (0, .ref (b 5))]) hx hb dX6_firstCalmPlace_41 hl (k := 1) rfl (by rw [ex1_25]; rfl) (by decide) rfl (fun ls hl => ?_)
              refine lv_goto (tgt := 2) hx hb dX6_firstCalmPlace_44 (by decide) ?_
              exact ih2 _ _ _ _ h hH (lv_sub hl [1, 0] rfl)
            · replace h := fb_ip c_24 h
              refine lv_iload_n hx hb dX6_firstCalmPlace_39 rfl (lv_at hl 1 rfl) ?_
              obtain rfl := Option.some.inj h
              exact fb_iret (wd := wF cI cZ b) cx rfl hH dX6_firstCalmPlace_40
  unfold pX6_firstCalmPlace at h
  refine lv_iconst (v := 0) hx hb dX6_firstCalmPlace_0 (by decide) ?_
  obtain ⟨x1_13, ex1_13, h⟩ := fb_vl_s h
  refine fb_top ex1_13 ?_
  refine lv_istore_n (lv' := [(1, .int x1_13), (0, .ref (b 5))]) hx hb dX6_firstCalmPlace_1 rfl hl (by decide) rfl (fun ls hl => ?_)
  exact hL2 5000 _ _ _ _ h hH (lv_sub hl [1, 0] rfl)
set_option maxHeartbeats 4000000 in
set_option maxRecDepth 100000 in
theorem ctX6_lastFreePlace (l : Launch) (D : va_G) (cI cZ : ClassId) (b : Nat → Nat) {S : Sg} {r : Int32} (h : pX6_lastFreePlace S = some r) : CTi l D cI cZ (wF cI cZ b) yX6_lastFreePlace cX6_lastFreePlace 2 (some .int) 0 [.ref (b 5)] S r S := by
  refine fb_starti (by decide) (Nat.le_of_ble_eq_true rfl) (fun p e s m args below meth c ls cx hH hl => ?_)
  obtain ⟨hx, hb, -⟩ := id cx
  have hl : lv_has ls 2 [(0, .ref (b 5))] := hl
  have hL3 : ∀ (n : Nat), ∀ (x1 : Int32) (H : Heap) (locs : List Loc) (ls : Array Slot), pX6_lastFreePlace_l3 S n x1 = some r → HB D (wF cI cZ b S) (wF cI cZ b S) s H locs → lv_has ls 2 [(0, .ref (b 5)), (1, .int x1)] → W p l e (rmk 0) s m args below meth c H locs 0 0 (Ei D cI cZ (wF cI cZ b) S r S below args s) (F0 m 3 ls []) := by
    intro n3
    induction n3 with
    | zero => intro x1 H locs ls h hH hl; simp [pX6_lastFreePlace_l3] at h
    | succ n3 ih3 =>
      intro x1 H locs ls h hH hl
      rw [pX6_lastFreePlace_l3] at h
      refine lv_iload_n hx hb dX6_lastFreePlace_3 rfl (lv_at hl 1 rfl) ?_
      refine lv_if_lt (tgt := 26) hx hb dX6_lastFreePlace_4 (by decide) (fun c_6 => ?_) (fun c_6 => ?_)
      · replace h := fb_ip c_6 h
        refine lv_iconst (v := (-1)) hx hb dX6_lastFreePlace_26 (by decide) ?_
        obtain rfl := Option.some.inj h
        exact fb_iret (wd := wF cI cZ b) cx rfl hH dX6_lastFreePlace_27
      · replace h := fb_in c_6 h
        refine lv_aload_n hx hb dX6_lastFreePlace_7 rfl (lv_at hl 0 rfl) ?_
        refine F_ra27 cx hH lkX6_39 dX6_lastFreePlace_8 ?_
        refine lv_iload_n hx hb dX6_lastFreePlace_11 rfl (lv_at hl 1 rfl) ?_
        obtain ⟨hi_7, h⟩ := fb_ck_s h
        refine F_l27 cx hH hi_7 dX6_lastFreePlace_12 ?_
        refine lv_bipush (v := (-2)) hx hb dX6_lastFreePlace_13 (by decide) ?_
        refine lv_icmp_ne (tgt := 20) hx hb dX6_lastFreePlace_15 (by decide) (fun c_8 => ?_) (fun c_8 => ?_)
        · replace h := fb_in c_8 h
          obtain ⟨x1_9, ex1_9, h⟩ := fb_vl_s h
          refine lv_iinc (v := x1_9) (lv' := [(1, .int x1_9), (0, .ref (b 5))]) hx hb dX6_lastFreePlace_20 hl (k := 1) rfl (by rw [ex1_9]; rfl) (by decide) rfl (fun ls hl => ?_)
          refine lv_goto (tgt := 3) hx hb dX6_lastFreePlace_23 (by decide) ?_
          exact ih3 _ _ _ _ h hH (lv_sub hl [1, 0] rfl)
        · replace h := fb_ip c_8 h
          refine lv_iload_n hx hb dX6_lastFreePlace_18 rfl (lv_at hl 1 rfl) ?_
          obtain rfl := Option.some.inj h
          exact fb_iret (wd := wF cI cZ b) cx rfl hH dX6_lastFreePlace_19
  unfold pX6_lastFreePlace at h
  refine lv_bipush (v := 23) hx hb dX6_lastFreePlace_0 (by decide) ?_
  obtain ⟨x1_5, ex1_5, h⟩ := fb_vl_s h
  refine fb_top ex1_5 ?_
  refine lv_istore_n (lv' := [(1, .int x1_5), (0, .ref (b 5))]) hx hb dX6_lastFreePlace_2 rfl hl (by decide) rfl (fun ls hl => ?_)
  exact hL3 5000 _ _ _ _ h hH (lv_sub hl [1, 0] rfl)
set_option maxHeartbeats 4000000 in
set_option maxRecDepth 100000 in
theorem ctX6_layOne (l : Launch) (D : va_G) (cI cZ : ClassId) (b : Nat → Nat) {S : Sg} {x1 : Int32} {r : Int32} {S9 : Sg} (h : pX6_layOne S x1 = some (r, S9)) : CTi l D cI cZ (wF cI cZ b) yX6_layOne cX6_layOne 3 (some .boolean) 4 [.ref (b 5), .int x1] S r S9 := by
  refine fb_starti (by decide) (Nat.le_of_ble_eq_true rfl) (fun p e s m args below meth c ls cx hH hl => ?_)
  obtain ⟨hx, hb, -⟩ := id cx
  have hl : lv_has ls 3 [(0, .ref (b 5)), (1, .int x1)] := hl
  unfold pX6_layOne at h
  refine lv_aload_n hx hb dX6_layOne_0 rfl (lv_at hl 0 rfl) ?_
  obtain ⟨r_2, hc_1, h⟩ := fb_bd_s h
  refine fb_vi (wd := wF cI cZ b) (As := []) (rest := []) cx hH mwX6_firstCalmPlace (ctX6_firstCalmPlace l D cI cZ b hc_1) (F_rc5 cx hH) mlX6_69 (by decide) rfl hl.1 (Nat.le_of_ble_eq_true rfl) rfl dX6_layOne_1 (fun H locs hH => ?_)
  obtain ⟨x2_3, ex2_3, h⟩ := fb_vl_s h
  refine fb_top ex2_3 ?_
  refine lv_istore_n (lv' := [(2, .int x2_3), (0, .ref (b 5)), (1, .int x1)]) hx hb dX6_layOne_4 rfl hl (by decide) rfl (fun ls hl => ?_)
  refine lv_iload_n hx hb dX6_layOne_5 rfl (lv_at hl 0 rfl) ?_
  refine lv_iconst (v := (-1)) hx hb dX6_layOne_6 (by decide) ?_
  refine lv_icmp_ne (tgt := 23) hx hb dX6_layOne_7 (by decide) (fun c_4 => ?_) (fun c_4 => ?_)
  · replace h := fb_in c_4 h
    refine lv_iload_n hx hb dX6_layOne_23 rfl (lv_at hl 0 rfl) ?_
    refine lv_iconst (v := (-1)) hx hb dX6_layOne_24 (by decide) ?_
    refine lv_icmp_ne (tgt := 30) hx hb dX6_layOne_25 (by decide) (fun c_5 => ?_) (fun c_5 => ?_)
    · replace h := fb_in c_5 h
      refine lv_aload_n hx hb dX6_layOne_30 rfl (lv_at hl 1 rfl) ?_
      refine F_ra27 cx hH lkX6_39 dX6_layOne_31 ?_
      refine lv_iload_n hx hb dX6_layOne_34 rfl (lv_at hl 0 rfl) ?_
      refine lv_iload_n hx hb dX6_layOne_35 rfl (lv_at hl 2 rfl) ?_
      obtain ⟨hi_7, h⟩ := fb_ck_s h
      obtain ⟨S_6, eS_6, h⟩ := fb_st_s h
      refine F_s27 cx hH hi_7 dX6_layOne_36 (fun H locs hH => ?_)
      rw [← eS_6] at hH
      refine lv_aload_n hx hb dX6_layOne_37 rfl (lv_at hl 1 rfl) ?_
      refine F_ra25 cx hH lkX6_33 dX6_layOne_38 ?_
      refine lv_iload_n hx hb dX6_layOne_41 rfl (lv_at hl 2 rfl) ?_
      refine lv_iload_n hx hb dX6_layOne_42 rfl (lv_at hl 0 rfl) ?_
      obtain ⟨hi_9, h⟩ := fb_ck_s h
      obtain ⟨S_8, eS_8, h⟩ := fb_st_s h
      refine F_s25 cx hH hi_9 dX6_layOne_43 (fun H locs hH => ?_)
      rw [← eS_8] at hH
      refine lv_iconst (v := 1) hx hb dX6_layOne_44 (by decide) ?_
      obtain ⟨hn, h⟩ := fb_cb_s h
      obtain ⟨rfl, rfl⟩ := Prod.mk.inj (Option.some.inj h)
      exact fb_zret (wd := wF cI cZ b) cx rfl hH hn dX6_layOne_45
    · replace h := fb_ip c_5 h
      refine lv_iconst (v := 0) hx hb dX6_layOne_28 (by decide) ?_
      obtain ⟨hn, h⟩ := fb_cb_s h
      obtain ⟨rfl, rfl⟩ := Prod.mk.inj (Option.some.inj h)
      exact fb_zret (wd := wF cI cZ b) cx rfl hH hn dX6_layOne_29
  · replace h := fb_ip c_4 h
    refine lv_aload_n hx hb dX6_layOne_10 rfl (lv_at hl 1 rfl) ?_
    refine lv_iload_n hx hb dX6_layOne_11 rfl (lv_at hl 2 rfl) ?_
    obtain ⟨r_11, hc_10, h⟩ := fb_bd_s h
    refine fb_vi (wd := wF cI cZ b) (As := [.int x1]) (rest := []) cx hH mwX6_isHot (ctX6_isHot l D cI cZ b hc_10) (F_rc5 cx hH) mlX6_62 (by decide) rfl hl.1 (Nat.le_of_ble_eq_true rfl) rfl dX6_layOne_12 (fun H locs hH => ?_)
    refine lv_if_ne (tgt := 23) hx hb dX6_layOne_15 (by decide) (fun c_12 => ?_) (fun c_12 => ?_)
    · replace h := fb_in c_12 h
      refine lv_iload_n hx hb dX6_layOne_23 rfl (lv_at hl 0 rfl) ?_
      refine lv_iconst (v := (-1)) hx hb dX6_layOne_24 (by decide) ?_
      refine lv_icmp_ne (tgt := 30) hx hb dX6_layOne_25 (by decide) (fun c_13 => ?_) (fun c_13 => ?_)
      · replace h := fb_in c_13 h
        refine lv_aload_n hx hb dX6_layOne_30 rfl (lv_at hl 1 rfl) ?_
        refine F_ra27 cx hH lkX6_39 dX6_layOne_31 ?_
        refine lv_iload_n hx hb dX6_layOne_34 rfl (lv_at hl 0 rfl) ?_
        refine lv_iload_n hx hb dX6_layOne_35 rfl (lv_at hl 2 rfl) ?_
        obtain ⟨hi_15, h⟩ := fb_ck_s h
        obtain ⟨S_14, eS_14, h⟩ := fb_st_s h
        refine F_s27 cx hH hi_15 dX6_layOne_36 (fun H locs hH => ?_)
        rw [← eS_14] at hH
        refine lv_aload_n hx hb dX6_layOne_37 rfl (lv_at hl 1 rfl) ?_
        refine F_ra25 cx hH lkX6_33 dX6_layOne_38 ?_
        refine lv_iload_n hx hb dX6_layOne_41 rfl (lv_at hl 2 rfl) ?_
        refine lv_iload_n hx hb dX6_layOne_42 rfl (lv_at hl 0 rfl) ?_
        obtain ⟨hi_17, h⟩ := fb_ck_s h
        obtain ⟨S_16, eS_16, h⟩ := fb_st_s h
        refine F_s25 cx hH hi_17 dX6_layOne_43 (fun H locs hH => ?_)
        rw [← eS_16] at hH
        refine lv_iconst (v := 1) hx hb dX6_layOne_44 (by decide) ?_
        obtain ⟨hn, h⟩ := fb_cb_s h
        obtain ⟨rfl, rfl⟩ := Prod.mk.inj (Option.some.inj h)
        exact fb_zret (wd := wF cI cZ b) cx rfl hH hn dX6_layOne_45
      · replace h := fb_ip c_13 h
        refine lv_iconst (v := 0) hx hb dX6_layOne_28 (by decide) ?_
        obtain ⟨hn, h⟩ := fb_cb_s h
        obtain ⟨rfl, rfl⟩ := Prod.mk.inj (Option.some.inj h)
        exact fb_zret (wd := wF cI cZ b) cx rfl hH hn dX6_layOne_29
    · replace h := fb_ip c_12 h
      refine lv_aload_n hx hb dX6_layOne_18 rfl (lv_at hl 1 rfl) ?_
      obtain ⟨r_19, hc_18, h⟩ := fb_bd_s h
      refine fb_vi (wd := wF cI cZ b) (As := []) (rest := []) cx hH mwX6_lastFreePlace (ctX6_lastFreePlace l D cI cZ b hc_18) (F_rc5 cx hH) mlX6_73 (by decide) rfl hl.1 (Nat.le_of_ble_eq_true rfl) rfl dX6_layOne_19 (fun H locs hH => ?_)
      obtain ⟨x2_20, ex2_20, h⟩ := fb_vl_s h
      refine fb_top ex2_20 ?_
      refine lv_istore_n (lv' := [(2, .int x2_20), (0, .ref (b 5)), (1, .int x1)]) hx hb dX6_layOne_22 rfl hl (by decide) rfl (fun ls hl => ?_)
      refine lv_iload_n hx hb dX6_layOne_23 rfl (lv_at hl 0 rfl) ?_
      refine lv_iconst (v := (-1)) hx hb dX6_layOne_24 (by decide) ?_
      refine lv_icmp_ne (tgt := 30) hx hb dX6_layOne_25 (by decide) (fun c_21 => ?_) (fun c_21 => ?_)
      · replace h := fb_in c_21 h
        refine lv_aload_n hx hb dX6_layOne_30 rfl (lv_at hl 1 rfl) ?_
        refine F_ra27 cx hH lkX6_39 dX6_layOne_31 ?_
        refine lv_iload_n hx hb dX6_layOne_34 rfl (lv_at hl 0 rfl) ?_
        refine lv_iload_n hx hb dX6_layOne_35 rfl (lv_at hl 2 rfl) ?_
        obtain ⟨hi_23, h⟩ := fb_ck_s h
        obtain ⟨S_22, eS_22, h⟩ := fb_st_s h
        refine F_s27 cx hH hi_23 dX6_layOne_36 (fun H locs hH => ?_)
        rw [← eS_22] at hH
        refine lv_aload_n hx hb dX6_layOne_37 rfl (lv_at hl 1 rfl) ?_
        refine F_ra25 cx hH lkX6_33 dX6_layOne_38 ?_
        refine lv_iload_n hx hb dX6_layOne_41 rfl (lv_at hl 2 rfl) ?_
        refine lv_iload_n hx hb dX6_layOne_42 rfl (lv_at hl 0 rfl) ?_
        obtain ⟨hi_25, h⟩ := fb_ck_s h
        obtain ⟨S_24, eS_24, h⟩ := fb_st_s h
        refine F_s25 cx hH hi_25 dX6_layOne_43 (fun H locs hH => ?_)
        rw [← eS_24] at hH
        refine lv_iconst (v := 1) hx hb dX6_layOne_44 (by decide) ?_
        obtain ⟨hn, h⟩ := fb_cb_s h
        obtain ⟨rfl, rfl⟩ := Prod.mk.inj (Option.some.inj h)
        exact fb_zret (wd := wF cI cZ b) cx rfl hH hn dX6_layOne_45
      · replace h := fb_ip c_21 h
        refine lv_iconst (v := 0) hx hb dX6_layOne_28 (by decide) ?_
        obtain ⟨hn, h⟩ := fb_cb_s h
        obtain ⟨rfl, rfl⟩ := Prod.mk.inj (Option.some.inj h)
        exact fb_zret (wd := wF cI cZ b) cx rfl hH hn dX6_layOne_29
set_option maxHeartbeats 4000000 in
set_option maxRecDepth 100000 in
theorem ctX6_layAll (l : Launch) (D : va_G) (cI cZ : ClassId) (b : Nat → Nat) {S : Sg} {r : Int32} {S9 : Sg} (h : pX6_layAll S = some (r, S9)) : CTi l D cI cZ (wF cI cZ b) yX6_layAll cX6_layAll 3 (some .int) 5 [.ref (b 5)] S r S9 := by
  refine fb_starti (by decide) (Nat.le_of_ble_eq_true rfl) (fun p e s m args below meth c ls cx hH hl => ?_)
  obtain ⟨hx, hb, -⟩ := id cx
  have hl : lv_has ls 3 [(0, .ref (b 5))] := hl
  have hL4 : ∀ (n : Nat), ∀ (T : Sg) (x1 x2 : Int32) (H : Heap) (locs : List Loc) (ls : Array Slot), pX6_layAll_l4 n T x1 x2 = some (r, S9) → HB D (wF cI cZ b S) (wF cI cZ b T) s H locs → lv_has ls 3 [(0, .ref (b 5)), (1, .int x1), (2, .int x2)] → W p l e (rmk 5) s m args below meth c H locs 0 0 (Ei D cI cZ (wF cI cZ b) S r S9 below args s) (F0 m 4 ls []) := by
    intro n4
    induction n4 with
    | zero => intro T x1 x2 H locs ls h hH hl; simp [pX6_layAll_l4] at h
    | succ n4 ih4 =>
      intro T x1 x2 H locs ls h hH hl
      rw [pX6_layAll_l4] at h
      refine lv_iload_n hx hb dX6_layAll_4 rfl (lv_at hl 2 rfl) ?_
      refine lv_aload_n hx hb dX6_layAll_5 rfl (lv_at hl 0 rfl) ?_
      refine F_g9 cx hH lkX6_48 dX6_layAll_6 ?_
      refine lv_icmp_ge (tgt := 37) hx hb dX6_layAll_9 (by decide) (fun c_15 => ?_) (fun c_15 => ?_)
      · replace h := fb_ip c_15 h
        refine lv_iload_n hx hb dX6_layAll_37 rfl (lv_at hl 1 rfl) ?_
        obtain ⟨rfl, rfl⟩ := Prod.mk.inj (Option.some.inj h)
        exact fb_iret (wd := wF cI cZ b) cx rfl hH dX6_layAll_38
      · replace h := fb_in c_15 h
        refine lv_aload_n hx hb dX6_layAll_12 rfl (lv_at hl 0 rfl) ?_
        refine lv_iload_n hx hb dX6_layAll_13 rfl (lv_at hl 2 rfl) ?_
        obtain ⟨r_17, hc_16, h⟩ := fb_bd_s h
        refine fb_vi (wd := wF cI cZ b) (As := [.int x2]) (rest := []) cx hH mwX6_state (ctX6_state l D cI cZ b hc_16) (F_rc5 cx hH) mlX6_59 (by decide) rfl hl.1 (Nat.le_of_ble_eq_true rfl) rfl dX6_layAll_14 (fun H locs hH => ?_)
        refine lv_if_ne (tgt := 31) hx hb dX6_layAll_17 (by decide) (fun c_18 => ?_) (fun c_18 => ?_)
        · replace h := fb_in c_18 h
          obtain ⟨x2_19, ex2_19, h⟩ := fb_vl_s h
          refine lv_iinc (v := x2_19) (lv' := [(2, .int x2_19), (0, .ref (b 5)), (1, .int x1)]) hx hb dX6_layAll_31 hl (k := 2) rfl (by rw [ex2_19]; rfl) (by decide) rfl (fun ls hl => ?_)
          refine lv_goto (tgt := 4) hx hb dX6_layAll_34 (by decide) ?_
          exact ih4 _ _ _ _ _ _ h hH (lv_sub hl [1, 2, 0] rfl)
        · replace h := fb_ip c_18 h
          refine lv_aload_n hx hb dX6_layAll_20 rfl (lv_at hl 0 rfl) ?_
          refine lv_iload_n hx hb dX6_layAll_21 rfl (lv_at hl 2 rfl) ?_
          obtain ⟨r_21, S_22, hc_20, h⟩ := fb_bd2_s h
          refine fb_vi (wd := wF cI cZ b) (As := [.int x2]) (rest := []) cx hH mwX6_layOne (ctX6_layOne l D cI cZ b hc_20) (F_rc5 cx hH) mlX6_66 (by decide) rfl hl.1 (Nat.le_of_ble_eq_true rfl) rfl dX6_layAll_22 (fun H locs hH => ?_)
          refine lv_if_eq (tgt := 31) hx hb dX6_layAll_25 (by decide) (fun c_23 => ?_) (fun c_23 => ?_)
          · replace h := fb_ip c_23 h
            obtain ⟨x2_24, ex2_24, h⟩ := fb_vl_s h
            refine lv_iinc (v := x2_24) (lv' := [(2, .int x2_24), (0, .ref (b 5)), (1, .int x1)]) hx hb dX6_layAll_31 hl (k := 2) rfl (by rw [ex2_24]; rfl) (by decide) rfl (fun ls hl => ?_)
            refine lv_goto (tgt := 4) hx hb dX6_layAll_34 (by decide) ?_
            exact ih4 _ _ _ _ _ _ h hH (lv_sub hl [1, 2, 0] rfl)
          · replace h := fb_in c_23 h
            obtain ⟨x1_25, ex1_25, h⟩ := fb_vl_s h
            refine lv_iinc (v := x1_25) (lv' := [(1, .int x1_25), (0, .ref (b 5)), (2, .int x2)]) hx hb dX6_layAll_28 hl (k := 1) rfl (by rw [ex1_25]; rfl) (by decide) rfl (fun ls hl => ?_)
            obtain ⟨x2_26, ex2_26, h⟩ := fb_vl_s h
            refine lv_iinc (v := x2_26) (lv' := [(2, .int x2_26), (1, .int x1_25), (0, .ref (b 5))]) hx hb dX6_layAll_31 hl (k := 2) rfl (by rw [ex2_26]; rfl) (by decide) rfl (fun ls hl => ?_)
            refine lv_goto (tgt := 4) hx hb dX6_layAll_34 (by decide) ?_
            exact ih4 _ _ _ _ _ _ h hH (lv_sub hl [2, 1, 0] rfl)
  unfold pX6_layAll at h
  refine lv_iconst (v := 0) hx hb dX6_layAll_0 (by decide) ?_
  obtain ⟨x1_13, ex1_13, h⟩ := fb_vl_s h
  refine fb_top ex1_13 ?_
  refine lv_istore_n (lv' := [(1, .int x1_13), (0, .ref (b 5))]) hx hb dX6_layAll_1 rfl hl (by decide) rfl (fun ls hl => ?_)
  refine lv_iconst (v := 0) hx hb dX6_layAll_2 (by decide) ?_
  obtain ⟨x2_14, ex2_14, h⟩ := fb_vl_s h
  refine fb_top ex2_14 ?_
  refine lv_istore_n (lv' := [(2, .int x2_14), (1, .int x1_13), (0, .ref (b 5))]) hx hb dX6_layAll_3 rfl hl (by decide) rfl (fun ls hl => ?_)
  exact hL4 5000 _ _ _ _ _ _ h hH (lv_sub hl [2, 1, 0] rfl)
set_option maxHeartbeats 4000000 in
set_option maxRecDepth 100000 in
theorem ctX6_placesTaken (l : Launch) (D : va_G) (cI cZ : ClassId) (b : Nat → Nat) {S : Sg} {r : Int32} (h : pX6_placesTaken S = some r) : CTi l D cI cZ (wF cI cZ b) yX6_placesTaken cX6_placesTaken 3 (some .int) 0 [.ref (b 5)] S r S := by
  refine fb_starti (by decide) (Nat.le_of_ble_eq_true rfl) (fun p e s m args below meth c ls cx hH hl => ?_)
  obtain ⟨hx, hb, -⟩ := id cx
  have hl : lv_has ls 3 [(0, .ref (b 5))] := hl
  have hL4 : ∀ (n : Nat), ∀ (x1 x2 : Int32) (H : Heap) (locs : List Loc) (ls : Array Slot), pX6_placesTaken_l4 S n x1 x2 = some r → HB D (wF cI cZ b S) (wF cI cZ b S) s H locs → lv_has ls 3 [(0, .ref (b 5)), (1, .int x1), (2, .int x2)] → W p l e (rmk 0) s m args below meth c H locs 0 0 (Ei D cI cZ (wF cI cZ b) S r S below args s) (F0 m 4 ls []) := by
    intro n4
    induction n4 with
    | zero => intro x1 x2 H locs ls h hH hl; simp [pX6_placesTaken_l4] at h
    | succ n4 ih4 =>
      intro x1 x2 H locs ls h hH hl
      rw [pX6_placesTaken_l4] at h
      refine lv_iload_n hx hb dX6_placesTaken_4 rfl (lv_at hl 2 rfl) ?_
      refine lv_bipush (v := 24) hx hb dX6_placesTaken_5 (by decide) ?_
      refine lv_icmp_ge (tgt := 30) hx hb dX6_placesTaken_7 (by decide) (fun c_9 => ?_) (fun c_9 => ?_)
      · replace h := fb_ip c_9 h
        refine lv_iload_n hx hb dX6_placesTaken_30 rfl (lv_at hl 1 rfl) ?_
        obtain rfl := Option.some.inj h
        exact fb_iret (wd := wF cI cZ b) cx rfl hH dX6_placesTaken_31
      · replace h := fb_in c_9 h
        refine lv_aload_n hx hb dX6_placesTaken_10 rfl (lv_at hl 0 rfl) ?_
        refine F_ra27 cx hH lkX6_39 dX6_placesTaken_11 ?_
        refine lv_iload_n hx hb dX6_placesTaken_14 rfl (lv_at hl 2 rfl) ?_
        obtain ⟨hi_10, h⟩ := fb_ck_s h
        refine F_l27 cx hH hi_10 dX6_placesTaken_15 ?_
        refine lv_bipush (v := (-2)) hx hb dX6_placesTaken_16 (by decide) ?_
        refine lv_icmp_eq (tgt := 24) hx hb dX6_placesTaken_18 (by decide) (fun c_11 => ?_) (fun c_11 => ?_)
        · replace h := fb_ip c_11 h
          obtain ⟨x2_12, ex2_12, h⟩ := fb_vl_s h
          refine lv_iinc (v := x2_12) (lv' := [(2, .int x2_12), (0, .ref (b 5)), (1, .int x1)]) hx hb dX6_placesTaken_24 hl (k := 2) rfl (by rw [ex2_12]; rfl) (by decide) rfl (fun ls hl => ?_)
          refine lv_goto (tgt := 4) hx hb dX6_placesTaken_27 (by decide) ?_
          exact ih4 _ _ _ _ _ h hH (lv_sub hl [1, 2, 0] rfl)
        · replace h := fb_in c_11 h
          obtain ⟨x1_13, ex1_13, h⟩ := fb_vl_s h
          refine lv_iinc (v := x1_13) (lv' := [(1, .int x1_13), (0, .ref (b 5)), (2, .int x2)]) hx hb dX6_placesTaken_21 hl (k := 1) rfl (by rw [ex1_13]; rfl) (by decide) rfl (fun ls hl => ?_)
          obtain ⟨x2_14, ex2_14, h⟩ := fb_vl_s h
          refine lv_iinc (v := x2_14) (lv' := [(2, .int x2_14), (1, .int x1_13), (0, .ref (b 5))]) hx hb dX6_placesTaken_24 hl (k := 2) rfl (by rw [ex2_14]; rfl) (by decide) rfl (fun ls hl => ?_)
          refine lv_goto (tgt := 4) hx hb dX6_placesTaken_27 (by decide) ?_
          exact ih4 _ _ _ _ _ h hH (lv_sub hl [2, 1, 0] rfl)
  unfold pX6_placesTaken at h
  refine lv_iconst (v := 0) hx hb dX6_placesTaken_0 (by decide) ?_
  obtain ⟨x1_7, ex1_7, h⟩ := fb_vl_s h
  refine fb_top ex1_7 ?_
  refine lv_istore_n (lv' := [(1, .int x1_7), (0, .ref (b 5))]) hx hb dX6_placesTaken_1 rfl hl (by decide) rfl (fun ls hl => ?_)
  refine lv_iconst (v := 0) hx hb dX6_placesTaken_2 (by decide) ?_
  obtain ⟨x2_8, ex2_8, h⟩ := fb_vl_s h
  refine fb_top ex2_8 ?_
  refine lv_istore_n (lv' := [(2, .int x2_8), (1, .int x1_7), (0, .ref (b 5))]) hx hb dX6_placesTaken_3 rfl hl (by decide) rfl (fun ls hl => ?_)
  exact hL4 5000 _ _ _ _ _ h hH (lv_sub hl [2, 1, 0] rfl)
set_option maxHeartbeats 4000000 in
set_option maxRecDepth 100000 in
theorem ctX6_takeOut (l : Launch) (D : va_G) (cI cZ : ClassId) (b : Nat → Nat) {S : Sg} {x1 : Int32} {S9 : Sg} (h : pX6_takeOut S x1 = some S9) : CTv l D cI cZ (wF cI cZ b) yX6_takeOut cX6_takeOut 2 0 [.ref (b 5), .int x1] S S9 := by
  refine fb_startv (by decide) (Nat.le_of_ble_eq_true rfl) (fun p e s m args below meth c ls cx hH hl => ?_)
  obtain ⟨hx, hb, -⟩ := id cx
  have hl : lv_has ls 2 [(0, .ref (b 5)), (1, .int x1)] := hl
  unfold pX6_takeOut at h
  refine lv_aload_n hx hb dX6_takeOut_0 rfl (lv_at hl 0 rfl) ?_
  refine F_ra25 cx hH lkX6_33 dX6_takeOut_1 ?_
  refine lv_iload_n hx hb dX6_takeOut_4 rfl (lv_at hl 1 rfl) ?_
  obtain ⟨hi_1, h⟩ := fb_ck_s h
  refine F_l25 cx hH hi_1 dX6_takeOut_5 ?_
  refine lv_iconst (v := (-1)) hx hb dX6_takeOut_6 (by decide) ?_
  refine lv_icmp_eq (tgt := 30) hx hb dX6_takeOut_7 (by decide) (fun c_2 => ?_) (fun c_2 => ?_)
  · replace h := fb_ip c_2 h
    obtain rfl := Option.some.inj h
    exact fb_vret (wd := wF cI cZ b) cx hH dX6_takeOut_30
  · replace h := fb_in c_2 h
    refine lv_aload_n hx hb dX6_takeOut_10 rfl (lv_at hl 0 rfl) ?_
    refine F_ra27 cx hH lkX6_39 dX6_takeOut_11 ?_
    refine lv_aload_n hx hb dX6_takeOut_14 rfl (lv_at hl 0 rfl) ?_
    refine F_ra25 cx hH lkX6_33 dX6_takeOut_15 ?_
    refine lv_iload_n hx hb dX6_takeOut_18 rfl (lv_at hl 1 rfl) ?_
    obtain ⟨hi_3, h⟩ := fb_ck_s h
    refine F_l25 cx hH hi_3 dX6_takeOut_19 ?_
    refine lv_bipush (v := (-2)) hx hb dX6_takeOut_20 (by decide) ?_
    obtain ⟨hi_5, h⟩ := fb_ck_s h
    obtain ⟨S_4, eS_4, h⟩ := fb_st_s h
    refine F_s27 cx hH hi_5 dX6_takeOut_22 (fun H locs hH => ?_)
    rw [← eS_4] at hH
    refine lv_aload_n hx hb dX6_takeOut_23 rfl (lv_at hl 0 rfl) ?_
    refine F_ra25 cx hH lkX6_33 dX6_takeOut_24 ?_
    refine lv_iload_n hx hb dX6_takeOut_27 rfl (lv_at hl 1 rfl) ?_
    refine lv_iconst (v := (-1)) hx hb dX6_takeOut_28 (by decide) ?_
    obtain ⟨hi_7, h⟩ := fb_ck_s h
    obtain ⟨S_6, eS_6, h⟩ := fb_st_s h
    refine F_s25 cx hH hi_7 dX6_takeOut_29 (fun H locs hH => ?_)
    rw [← eS_6] at hH
    obtain rfl := Option.some.inj h
    exact fb_vret (wd := wF cI cZ b) cx hH dX6_takeOut_30
set_option maxHeartbeats 4000000 in
set_option maxRecDepth 100000 in
theorem ctX6_goOn (l : Launch) (D : va_G) (cI cZ : ClassId) (b : Nat → Nat) {S : Sg} {x1 : Int32} {S9 : Sg} (h : pX6_goOn S x1 = some S9) : CTv l D cI cZ (wF cI cZ b) yX6_goOn cX6_goOn 3 0 [.ref (b 5), .int x1] S S9 := by
  refine fb_startv (by decide) (Nat.le_of_ble_eq_true rfl) (fun p e s m args below meth c ls cx hH hl => ?_)
  obtain ⟨hx, hb, -⟩ := id cx
  have hl : lv_has ls 3 [(0, .ref (b 5)), (1, .int x1)] := hl
  have hL12 : ∀ (n : Nat), ∀ (T : Sg) (x1 x2 : Int32) (H : Heap) (locs : List Loc) (ls : Array Slot), pX6_goOn_l12 n T x1 x2 = some S9 → HB D (wF cI cZ b S) (wF cI cZ b T) s H locs → lv_has ls 3 [(0, .ref (b 5)), (1, .int x1), (2, .int x2)] → W p l e (rmk 0) s m args below meth c H locs 0 0 (Ev D cI cZ (wF cI cZ b) S S9 below args s) (F0 m 12 ls []) := by
    intro n12
    induction n12 with
    | zero => intro T x1 x2 H locs ls h hH hl; simp [pX6_goOn_l12] at h
    | succ n12 ih12 =>
      intro T x1 x2 H locs ls h hH hl
      rw [pX6_goOn_l12] at h
      refine lv_iload_n hx hb dX6_goOn_12 rfl (lv_at hl 2 rfl) ?_
      refine lv_bipush (v := 24) hx hb dX6_goOn_13 (by decide) ?_
      refine lv_icmp_ge (tgt := 50) hx hb dX6_goOn_15 (by decide) (fun c_12 => ?_) (fun c_12 => ?_)
      · replace h := fb_ip c_12 h
        obtain rfl := Option.some.inj h
        exact fb_vret (wd := wF cI cZ b) cx hH dX6_goOn_50
      · replace h := fb_in c_12 h
        refine lv_aload_n hx hb dX6_goOn_18 rfl (lv_at hl 0 rfl) ?_
        refine F_ra27 cx hH lkX6_39 dX6_goOn_19 ?_
        refine lv_iload_n hx hb dX6_goOn_22 rfl (lv_at hl 2 rfl) ?_
        obtain ⟨hi_13, h⟩ := fb_ck_s h
        refine F_l27 cx hH hi_13 dX6_goOn_23 ?_
        refine lv_bipush (v := (-2)) hx hb dX6_goOn_24 (by decide) ?_
        refine lv_icmp_eq (tgt := 44) hx hb dX6_goOn_26 (by decide) (fun c_14 => ?_) (fun c_14 => ?_)
        · replace h := fb_ip c_14 h
          obtain ⟨x2_15, ex2_15, h⟩ := fb_vl_s h
          refine lv_iinc (v := x2_15) (lv' := [(2, .int x2_15), (0, .ref (b 5)), (1, .int x1)]) hx hb dX6_goOn_44 hl (k := 2) rfl (by rw [ex2_15]; rfl) (by decide) rfl (fun ls hl => ?_)
          refine lv_goto (tgt := 12) hx hb dX6_goOn_47 (by decide) ?_
          exact ih12 _ _ _ _ _ _ h hH (lv_sub hl [1, 2, 0] rfl)
        · replace h := fb_in c_14 h
          refine lv_aload_n hx hb dX6_goOn_29 rfl (lv_at hl 0 rfl) ?_
          refine F_ra24 cx hH lkX6_30 dX6_goOn_30 ?_
          refine lv_aload_n hx hb dX6_goOn_33 rfl (lv_at hl 0 rfl) ?_
          refine F_ra27 cx hH lkX6_39 dX6_goOn_34 ?_
          refine lv_iload_n hx hb dX6_goOn_37 rfl (lv_at hl 2 rfl) ?_
          obtain ⟨hi_16, h⟩ := fb_ck_s h
          refine F_l27 cx hH hi_16 dX6_goOn_38 ?_
          refine lv_dup2_11 hx hb dX6_goOn_39 rfl rfl ?_
          obtain ⟨hi_17, h⟩ := fb_ck_s h
          refine F_l24 cx hH hi_17 dX6_goOn_40 ?_
          refine lv_iload_n hx hb dX6_goOn_41 rfl (lv_at hl 1 rfl) ?_
          refine lv_iadd hx hb dX6_goOn_42 ?_
          obtain ⟨hi_19, h⟩ := fb_ck_s h
          obtain ⟨S_18, eS_18, h⟩ := fb_st_s h
          refine F_s24 cx hH hi_19 dX6_goOn_43 (fun H locs hH => ?_)
          rw [← eS_18] at hH
          obtain ⟨x2_20, ex2_20, h⟩ := fb_vl_s h
          refine lv_iinc (v := x2_20) (lv' := [(2, .int x2_20), (0, .ref (b 5)), (1, .int x1)]) hx hb dX6_goOn_44 hl (k := 2) rfl (by rw [ex2_20]; rfl) (by decide) rfl (fun ls hl => ?_)
          refine lv_goto (tgt := 12) hx hb dX6_goOn_47 (by decide) ?_
          exact ih12 _ _ _ _ _ _ h hH (lv_sub hl [1, 2, 0] rfl)
  unfold pX6_goOn at h
  refine lv_aload_n hx hb dX6_goOn_0 rfl (lv_at hl 0 rfl) ?_
  refine lv_dup hx hb dX6_goOn_1 rfl ?_
  refine F_g10 cx hH lkX6_52 dX6_goOn_2 ?_
  refine lv_iload_n hx hb dX6_goOn_5 rfl (lv_at hl 1 rfl) ?_
  refine lv_iadd hx hb dX6_goOn_6 ?_
  obtain ⟨S_10, eS_10, h⟩ := fb_st_s h
  refine F_p10 cx hH lkX6_52 dX6_goOn_7 (fun H locs hH => ?_)
  rw [← eS_10] at hH
  refine lv_iconst (v := 0) hx hb dX6_goOn_10 (by decide) ?_
  obtain ⟨x2_11, ex2_11, h⟩ := fb_vl_s h
  refine fb_top ex2_11 ?_
  refine lv_istore_n (lv' := [(2, .int x2_11), (0, .ref (b 5)), (1, .int x1)]) hx hb dX6_goOn_11 rfl hl (by decide) rfl (fun ls hl => ?_)
  exact hL12 5000 _ _ _ _ _ _ h hH (lv_sub hl [1, 2, 0] rfl)
set_option maxHeartbeats 4000000 in
set_option maxRecDepth 100000 in
theorem ctX6_isCuredOf (l : Launch) (D : va_G) (cI cZ : ClassId) (b : Nat → Nat) {S : Sg} {x1 x2 x3 : Int32} {r : Int32} (h : pX6_isCuredOf S x1 x2 x3 = some r) : CTi l D cI cZ (wF cI cZ b) yX6_isCuredOf cX6_isCuredOf 4 (some .boolean) 3 [.ref (b 5), .int x1, .int x2, .int x3] S r S := by
  refine fb_starti (by decide) (Nat.le_of_ble_eq_true rfl) (fun p e s m args below meth c ls cx hH hl => ?_)
  obtain ⟨hx, hb, -⟩ := id cx
  have hl : lv_has ls 4 [(0, .ref (b 5)), (1, .int x1), (2, .int x2), (3, .int x3)] := hl
  unfold pX6_isCuredOf at h
  refine lv_aload_n hx hb dX6_isCuredOf_0 rfl (lv_at hl 0 rfl) ?_
  refine F_ra18 cx hH lkX6_9 dX6_isCuredOf_1 ?_
  refine lv_iload_n hx hb dX6_isCuredOf_4 rfl (lv_at hl 1 rfl) ?_
  obtain ⟨hi_1, h⟩ := fb_ck_s h
  refine F_l18 cx hH hi_1 dX6_isCuredOf_5 ?_
  refine lv_iload_n hx hb dX6_isCuredOf_6 rfl (lv_at hl 2 rfl) ?_
  refine lv_icmp_ne (tgt := 32) hx hb dX6_isCuredOf_7 (by decide) (fun c_2 => ?_) (fun c_2 => ?_)
  · replace h := fb_in c_2 h
    refine lv_iconst (v := 0) hx hb dX6_isCuredOf_32 (by decide) ?_
    obtain ⟨hn, h⟩ := fb_cb_s h
    obtain rfl := Option.some.inj h
    exact fb_zret (wd := wF cI cZ b) cx rfl hH hn dX6_isCuredOf_33
  · replace h := fb_ip c_2 h
    refine lv_aload_n hx hb dX6_isCuredOf_10 rfl (lv_at hl 0 rfl) ?_
    refine F_ra21 cx hH lkX6_21 dX6_isCuredOf_11 ?_
    refine lv_iload_n hx hb dX6_isCuredOf_14 rfl (lv_at hl 1 rfl) ?_
    obtain ⟨hi_3, h⟩ := fb_ck_s h
    refine F_l21 cx hH hi_3 dX6_isCuredOf_15 ?_
    refine lv_iload_n hx hb dX6_isCuredOf_16 rfl (lv_at hl 3 rfl) ?_
    refine lv_icmp_ne (tgt := 32) hx hb dX6_isCuredOf_17 (by decide) (fun c_4 => ?_) (fun c_4 => ?_)
    · replace h := fb_in c_4 h
      refine lv_iconst (v := 0) hx hb dX6_isCuredOf_32 (by decide) ?_
      obtain ⟨hn, h⟩ := fb_cb_s h
      obtain rfl := Option.some.inj h
      exact fb_zret (wd := wF cI cZ b) cx rfl hH hn dX6_isCuredOf_33
    · replace h := fb_ip c_4 h
      refine lv_aload_n hx hb dX6_isCuredOf_20 rfl (lv_at hl 0 rfl) ?_
      refine lv_iload_n hx hb dX6_isCuredOf_21 rfl (lv_at hl 1 rfl) ?_
      obtain ⟨r_6, hc_5, h⟩ := fb_bd_s h
      refine fb_vi (wd := wF cI cZ b) (As := [.int x1]) (rest := []) cx hH mwX6_isCured (ctX6_isCured l D cI cZ b hc_5) (F_rc5 cx hH) mlX6_79 (by decide) rfl hl.1 (Nat.le_of_ble_eq_true rfl) rfl dX6_isCuredOf_22 (fun H locs hH => ?_)
      refine lv_if_eq (tgt := 32) hx hb dX6_isCuredOf_25 (by decide) (fun c_7 => ?_) (fun c_7 => ?_)
      · replace h := fb_ip c_7 h
        refine lv_iconst (v := 0) hx hb dX6_isCuredOf_32 (by decide) ?_
        obtain ⟨hn, h⟩ := fb_cb_s h
        obtain rfl := Option.some.inj h
        exact fb_zret (wd := wF cI cZ b) cx rfl hH hn dX6_isCuredOf_33
      · replace h := fb_in c_7 h
        refine lv_iconst (v := 1) hx hb dX6_isCuredOf_28 (by decide) ?_
        refine lv_goto (tgt := 33) hx hb dX6_isCuredOf_29 (by decide) ?_
        obtain ⟨hn, h⟩ := fb_cb_s h
        obtain rfl := Option.some.inj h
        exact fb_zret (wd := wF cI cZ b) cx rfl hH hn dX6_isCuredOf_33
set_option maxHeartbeats 4000000 in
set_option maxRecDepth 100000 in
theorem ctX6_curedOf (l : Launch) (D : va_G) (cI cZ : ClassId) (b : Nat → Nat) {S : Sg} {x1 x2 : Int32} {r : Int32} (h : pX6_curedOf S x1 x2 = some r) : CTi l D cI cZ (wF cI cZ b) yX6_curedOf cX6_curedOf 5 (some .int) 4 [.ref (b 5), .int x1, .int x2] S r S := by
  refine fb_starti (by decide) (Nat.le_of_ble_eq_true rfl) (fun p e s m args below meth c ls cx hH hl => ?_)
  obtain ⟨hx, hb, -⟩ := id cx
  have hl : lv_has ls 5 [(0, .ref (b 5)), (1, .int x1), (2, .int x2)] := hl
  have hL5 : ∀ (n : Nat), ∀ (x1 x2 x3 x4 : Int32) (H : Heap) (locs : List Loc) (ls : Array Slot), pX6_curedOf_l5 S n x1 x2 x3 x4 = some r → HB D (wF cI cZ b S) (wF cI cZ b S) s H locs → lv_has ls 5 [(0, .ref (b 5)), (1, .int x1), (2, .int x2), (3, .int x3), (4, .int x4)] → W p l e (rmk 4) s m args below meth c H locs 0 0 (Ei D cI cZ (wF cI cZ b) S r S below args s) (F0 m 5 ls []) := by
    intro n5
    induction n5 with
    | zero => intro x1 x2 x3 x4 H locs ls h hH hl; simp [pX6_curedOf_l5] at h
    | succ n5 ih5 =>
      intro x1 x2 x3 x4 H locs ls h hH hl
      rw [pX6_curedOf_l5] at h
      refine lv_iload hx hb dX6_curedOf_5 (lv_at hl 4 rfl) ?_
      refine lv_aload_n hx hb dX6_curedOf_7 rfl (lv_at hl 0 rfl) ?_
      refine F_g9 cx hH lkX6_48 dX6_curedOf_8 ?_
      refine lv_icmp_ge (tgt := 34) hx hb dX6_curedOf_11 (by decide) (fun c_10 => ?_) (fun c_10 => ?_)
      · replace h := fb_ip c_10 h
        refine lv_iload_n hx hb dX6_curedOf_34 rfl (lv_at hl 3 rfl) ?_
        obtain rfl := Option.some.inj h
        exact fb_iret (wd := wF cI cZ b) cx rfl hH dX6_curedOf_35
      · replace h := fb_in c_10 h
        refine lv_aload_n hx hb dX6_curedOf_14 rfl (lv_at hl 0 rfl) ?_
        refine lv_iload hx hb dX6_curedOf_15 (lv_at hl 4 rfl) ?_
        refine lv_iload_n hx hb dX6_curedOf_17 rfl (lv_at hl 1 rfl) ?_
        refine lv_iload_n hx hb dX6_curedOf_18 rfl (lv_at hl 2 rfl) ?_
        obtain ⟨r_12, hc_11, h⟩ := fb_bd_s h
        refine fb_vi (wd := wF cI cZ b) (As := [.int x4, .int x1, .int x2]) (rest := []) cx hH mwX6_isCuredOf (ctX6_isCuredOf l D cI cZ b hc_11) (F_rc5 cx hH) mlX6_82 (by decide) rfl hl.1 (Nat.le_of_ble_eq_true rfl) rfl dX6_curedOf_19 (fun H locs hH => ?_)
        refine lv_if_eq (tgt := 28) hx hb dX6_curedOf_22 (by decide) (fun c_13 => ?_) (fun c_13 => ?_)
        · replace h := fb_ip c_13 h
          obtain ⟨x4_14, ex4_14, h⟩ := fb_vl_s h
          refine lv_iinc (v := x4_14) (lv' := [(4, .int x4_14), (0, .ref (b 5)), (1, .int x1), (2, .int x2), (3, .int x3)]) hx hb dX6_curedOf_28 hl (k := 4) rfl (by rw [ex4_14]; rfl) (by decide) rfl (fun ls hl => ?_)
          refine lv_goto (tgt := 5) hx hb dX6_curedOf_31 (by decide) ?_
          exact ih5 _ _ _ _ _ _ _ h hH (lv_sub hl [1, 2, 3, 4, 0] rfl)
        · replace h := fb_in c_13 h
          obtain ⟨x3_15, ex3_15, h⟩ := fb_vl_s h
          refine lv_iinc (v := x3_15) (lv' := [(3, .int x3_15), (0, .ref (b 5)), (1, .int x1), (2, .int x2), (4, .int x4)]) hx hb dX6_curedOf_25 hl (k := 3) rfl (by rw [ex3_15]; rfl) (by decide) rfl (fun ls hl => ?_)
          obtain ⟨x4_16, ex4_16, h⟩ := fb_vl_s h
          refine lv_iinc (v := x4_16) (lv' := [(4, .int x4_16), (3, .int x3_15), (0, .ref (b 5)), (1, .int x1), (2, .int x2)]) hx hb dX6_curedOf_28 hl (k := 4) rfl (by rw [ex4_16]; rfl) (by decide) rfl (fun ls hl => ?_)
          refine lv_goto (tgt := 5) hx hb dX6_curedOf_31 (by decide) ?_
          exact ih5 _ _ _ _ _ _ _ h hH (lv_sub hl [2, 3, 4, 1, 0] rfl)
  unfold pX6_curedOf at h
  refine lv_iconst (v := 0) hx hb dX6_curedOf_0 (by decide) ?_
  obtain ⟨x3_8, ex3_8, h⟩ := fb_vl_s h
  refine fb_top ex3_8 ?_
  refine lv_istore_n (lv' := [(3, .int x3_8), (0, .ref (b 5)), (1, .int x1), (2, .int x2)]) hx hb dX6_curedOf_1 rfl hl (by decide) rfl (fun ls hl => ?_)
  refine lv_iconst (v := 0) hx hb dX6_curedOf_2 (by decide) ?_
  obtain ⟨x4_9, ex4_9, h⟩ := fb_vl_s h
  refine fb_top ex4_9 ?_
  refine lv_istore (lv' := [(4, .int x4_9), (3, .int x3_8), (0, .ref (b 5)), (1, .int x1), (2, .int x2)]) hx hb dX6_curedOf_3 hl (by decide) rfl (fun ls hl => ?_)
  exact hL5 5000 _ _ _ _ _ _ _ h hH (lv_sub hl [2, 3, 4, 1, 0] rfl)
set_option maxHeartbeats 4000000 in
set_option maxRecDepth 100000 in
theorem ctX6_longestCured (l : Launch) (D : va_G) (cI cZ : ClassId) (b : Nat → Nat) {S : Sg} {x1 x2 : Int32} {r : Int32} (h : pX6_longestCured S x1 x2 = some r) : CTi l D cI cZ (wF cI cZ b) yX6_longestCured cX6_longestCured 6 (some .int) 4 [.ref (b 5), .int x1, .int x2] S r S := by
  refine fb_starti (by decide) (Nat.le_of_ble_eq_true rfl) (fun p e s m args below meth c ls cx hH hl => ?_)
  obtain ⟨hx, hb, -⟩ := id cx
  have hl : lv_has ls 6 [(0, .ref (b 5)), (1, .int x1), (2, .int x2)] := hl
  have hL5 : ∀ (n : Nat), ∀ (x1 x2 x3 x4 : Int32) (H : Heap) (locs : List Loc) (ls : Array Slot), pX6_longestCured_l5 S n x1 x2 x3 x4 = some r → HB D (wF cI cZ b S) (wF cI cZ b S) s H locs → lv_has ls 6 [(0, .ref (b 5)), (1, .int x1), (2, .int x2), (3, .int x3), (4, .int x4)] → W p l e (rmk 4) s m args below meth c H locs 0 0 (Ei D cI cZ (wF cI cZ b) S r S below args s) (F0 m 5 ls []) := by
    intro n5
    induction n5 with
    | zero => intro x1 x2 x3 x4 H locs ls h hH hl; simp [pX6_longestCured_l5] at h
    | succ n5 ih5 =>
      intro x1 x2 x3 x4 H locs ls h hH hl
      rw [pX6_longestCured_l5] at h
      refine lv_iload hx hb dX6_longestCured_5 (lv_at hl 4 rfl) ?_
      refine lv_aload_n hx hb dX6_longestCured_7 rfl (lv_at hl 0 rfl) ?_
      refine F_g9 cx hH lkX6_48 dX6_longestCured_8 ?_
      refine lv_icmp_ge (tgt := 59) hx hb dX6_longestCured_11 (by decide) (fun c_18 => ?_) (fun c_18 => ?_)
      · replace h := fb_ip c_18 h
        refine lv_iload_n hx hb dX6_longestCured_59 rfl (lv_at hl 3 rfl) ?_
        obtain rfl := Option.some.inj h
        exact fb_iret (wd := wF cI cZ b) cx rfl hH dX6_longestCured_60
      · replace h := fb_in c_18 h
        refine lv_aload_n hx hb dX6_longestCured_14 rfl (lv_at hl 0 rfl) ?_
        refine lv_iload hx hb dX6_longestCured_15 (lv_at hl 4 rfl) ?_
        refine lv_iload_n hx hb dX6_longestCured_17 rfl (lv_at hl 1 rfl) ?_
        refine lv_iload_n hx hb dX6_longestCured_18 rfl (lv_at hl 2 rfl) ?_
        obtain ⟨r_20, hc_19, h⟩ := fb_bd_s h
        refine fb_vi (wd := wF cI cZ b) (As := [.int x4, .int x1, .int x2]) (rest := []) cx hH mwX6_isCuredOf (ctX6_isCuredOf l D cI cZ b hc_19) (F_rc5 cx hH) mlX6_82 (by decide) rfl hl.1 (Nat.le_of_ble_eq_true rfl) rfl dX6_longestCured_19 (fun H locs hH => ?_)
        obtain ⟨x5_21, ex5_21, h⟩ := fb_vl_s h
        refine fb_top ex5_21 ?_
        refine lv_istore (lv' := [(5, .int x5_21), (0, .ref (b 5)), (1, .int x1), (2, .int x2), (3, .int x3), (4, .int x4)]) hx hb dX6_longestCured_22 hl (by decide) rfl (fun ls hl => ?_)
        refine lv_iload hx hb dX6_longestCured_24 (lv_at hl 0 rfl) ?_
        refine lv_if_eq (tgt := 53) hx hb dX6_longestCured_26 (by decide) (fun c_22 => ?_) (fun c_22 => ?_)
        · replace h := fb_ip c_22 h
          obtain ⟨x4_23, ex4_23, h⟩ := fb_vl_s h
          refine lv_iinc (v := x4_23) (lv' := [(4, .int x4_23), (5, .int x5_21), (0, .ref (b 5)), (1, .int x1), (2, .int x2), (3, .int x3)]) hx hb dX6_longestCured_53 hl (k := 5) rfl (by rw [ex4_23]; rfl) (by decide) rfl (fun ls hl => ?_)
          refine lv_goto (tgt := 5) hx hb dX6_longestCured_56 (by decide) ?_
          exact ih5 _ _ _ _ _ _ _ h hH (lv_sub hl [2, 3, 4, 5, 0] rfl)
        · replace h := fb_in c_22 h
          refine lv_iload_n hx hb dX6_longestCured_29 rfl (lv_at hl 4 rfl) ?_
          refine lv_iconst (v := (-1)) hx hb dX6_longestCured_30 (by decide) ?_
          refine lv_icmp_eq (tgt := 50) hx hb dX6_longestCured_31 (by decide) (fun c_24 => ?_) (fun c_24 => ?_)
          · replace h := fb_ip c_24 h
            refine lv_iload hx hb dX6_longestCured_50 (lv_at hl 5 rfl) ?_
            obtain ⟨x3_25, ex3_25, h⟩ := fb_vl_s h
            refine fb_top ex3_25 ?_
            refine lv_istore_n (lv' := [(3, .int x3_25), (5, .int x5_21), (0, .ref (b 5)), (1, .int x1), (2, .int x2), (4, .int x4)]) hx hb dX6_longestCured_52 rfl hl (by decide) rfl (fun ls hl => ?_)
            obtain ⟨x4_26, ex4_26, h⟩ := fb_vl_s h
            refine lv_iinc (v := x4_26) (lv' := [(4, .int x4_26), (3, .int x3_25), (5, .int x5_21), (0, .ref (b 5)), (1, .int x1), (2, .int x2)]) hx hb dX6_longestCured_53 hl (k := 5) rfl (by rw [ex4_26]; rfl) (by decide) rfl (fun ls hl => ?_)
            refine lv_goto (tgt := 5) hx hb dX6_longestCured_56 (by decide) ?_
            exact ih5 _ _ _ _ _ _ _ h hH (lv_sub hl [3, 4, 5, 1, 0] rfl)
          · replace h := fb_in c_24 h
            refine lv_aload_n hx hb dX6_longestCured_34 rfl (lv_at hl 1 rfl) ?_
            refine F_ra24 cx hH lkX6_30 dX6_longestCured_35 ?_
            refine lv_iload hx hb dX6_longestCured_38 (lv_at hl 5 rfl) ?_
            obtain ⟨hi_27, h⟩ := fb_ck_s h
            refine F_l24 cx hH hi_27 dX6_longestCured_40 ?_
            refine lv_aload_n hx hb dX6_longestCured_41 rfl (lv_at hl 1 rfl) ?_
            refine F_ra24 cx hH lkX6_30 dX6_longestCured_42 ?_
            refine lv_iload_n hx hb dX6_longestCured_45 rfl (lv_at hl 4 rfl) ?_
            obtain ⟨hi_28, h⟩ := fb_ck_s h
            refine F_l24 cx hH hi_28 dX6_longestCured_46 ?_
            refine lv_icmp_le (tgt := 53) hx hb dX6_longestCured_47 (by decide) (fun c_29 => ?_) (fun c_29 => ?_)
            · replace h := fb_ip c_29 h
              obtain ⟨x4_30, ex4_30, h⟩ := fb_vl_s h
              refine lv_iinc (v := x4_30) (lv' := [(4, .int x4_30), (5, .int x5_21), (0, .ref (b 5)), (1, .int x1), (2, .int x2), (3, .int x3)]) hx hb dX6_longestCured_53 hl (k := 5) rfl (by rw [ex4_30]; rfl) (by decide) rfl (fun ls hl => ?_)
              refine lv_goto (tgt := 5) hx hb dX6_longestCured_56 (by decide) ?_
              exact ih5 _ _ _ _ _ _ _ h hH (lv_sub hl [2, 3, 4, 5, 0] rfl)
            · replace h := fb_in c_29 h
              refine lv_iload hx hb dX6_longestCured_50 (lv_at hl 5 rfl) ?_
              obtain ⟨x3_31, ex3_31, h⟩ := fb_vl_s h
              refine fb_top ex3_31 ?_
              refine lv_istore_n (lv' := [(3, .int x3_31), (5, .int x5_21), (0, .ref (b 5)), (1, .int x1), (2, .int x2), (4, .int x4)]) hx hb dX6_longestCured_52 rfl hl (by decide) rfl (fun ls hl => ?_)
              obtain ⟨x4_32, ex4_32, h⟩ := fb_vl_s h
              refine lv_iinc (v := x4_32) (lv' := [(4, .int x4_32), (3, .int x3_31), (5, .int x5_21), (0, .ref (b 5)), (1, .int x1), (2, .int x2)]) hx hb dX6_longestCured_53 hl (k := 5) rfl (by rw [ex4_32]; rfl) (by decide) rfl (fun ls hl => ?_)
              refine lv_goto (tgt := 5) hx hb dX6_longestCured_56 (by decide) ?_
              exact ih5 _ _ _ _ _ _ _ h hH (lv_sub hl [3, 4, 5, 1, 0] rfl)
  unfold pX6_longestCured at h
  refine lv_iconst (v := (-1)) hx hb dX6_longestCured_0 (by decide) ?_
  obtain ⟨x3_16, ex3_16, h⟩ := fb_vl_s h
  refine fb_top ex3_16 ?_
  refine lv_istore_n (lv' := [(3, .int x3_16), (0, .ref (b 5)), (1, .int x1), (2, .int x2)]) hx hb dX6_longestCured_1 rfl hl (by decide) rfl (fun ls hl => ?_)
  refine lv_iconst (v := 0) hx hb dX6_longestCured_2 (by decide) ?_
  obtain ⟨x4_17, ex4_17, h⟩ := fb_vl_s h
  refine fb_top ex4_17 ?_
  refine lv_istore (lv' := [(4, .int x4_17), (3, .int x3_16), (0, .ref (b 5)), (1, .int x1), (2, .int x2)]) hx hb dX6_longestCured_3 hl (by decide) rfl (fun ls hl => ?_)
  exact hL5 5000 _ _ _ _ _ _ _ h hH (lv_sub hl [2, 3, 4, 1, 0] rfl)
set_option maxHeartbeats 4000000 in
set_option maxRecDepth 100000 in
theorem ctX6_use (l : Launch) (D : va_G) (cI cZ : ClassId) (b : Nat → Nat) {S : Sg} {x1 x2 : Int32} {S9 : Sg} (h : pX6_use S x1 x2 = some S9) : CTv l D cI cZ (wF cI cZ b) yX6_use cX6_use 3 1 [.ref (b 5), .int x1, .int x2] S S9 := by
  refine fb_startv (by decide) (Nat.le_of_ble_eq_true rfl) (fun p e s m args below meth c ls cx hH hl => ?_)
  obtain ⟨hx, hb, -⟩ := id cx
  have hl : lv_has ls 3 [(0, .ref (b 5)), (1, .int x1), (2, .int x2)] := hl
  unfold pX6_use at h
  refine lv_aload_n hx hb dX6_use_0 rfl (lv_at hl 0 rfl) ?_
  refine lv_iload_n hx hb dX6_use_1 rfl (lv_at hl 1 rfl) ?_
  obtain ⟨S_2, hc_1, h⟩ := fb_bd_s h
  refine fb_vv (wd := wF cI cZ b) (As := [.int x1]) (rest := []) cx hH mwX6_takeOut (ctX6_takeOut l D cI cZ b hc_1) (F_rc5 cx hH) mlX6_86 (by decide) rfl hl.1 (Nat.le_of_ble_eq_true rfl) rfl dX6_use_2 (fun H locs hH => ?_)
  refine lv_aload_n hx hb dX6_use_5 rfl (lv_at hl 0 rfl) ?_
  refine F_ra26 cx hH lkX6_36 dX6_use_6 ?_
  refine lv_iload_n hx hb dX6_use_9 rfl (lv_at hl 1 rfl) ?_
  refine lv_iload_n hx hb dX6_use_10 rfl (lv_at hl 2 rfl) ?_
  obtain ⟨hi_4, h⟩ := fb_ck_s h
  obtain ⟨S_3, eS_3, h⟩ := fb_st_s h
  refine F_s26 cx hH hi_4 dX6_use_11 (fun H locs hH => ?_)
  rw [← eS_3] at hH
  obtain rfl := Option.some.inj h
  exact fb_vret (wd := wF cI cZ b) cx hH dX6_use_12
set_option maxHeartbeats 4000000 in
set_option maxRecDepth 100000 in
theorem ctX6_piecesOfLot (l : Launch) (D : va_G) (cI cZ : ClassId) (b : Nat → Nat) {S : Sg} {x1 : Int32} {r : Int32} (h : pX6_piecesOfLot S x1 = some r) : CTi l D cI cZ (wF cI cZ b) yX6_piecesOfLot cX6_piecesOfLot 4 (some .int) 0 [.ref (b 5), .int x1] S r S := by
  refine fb_starti (by decide) (Nat.le_of_ble_eq_true rfl) (fun p e s m args below meth c ls cx hH hl => ?_)
  obtain ⟨hx, hb, -⟩ := id cx
  have hl : lv_has ls 4 [(0, .ref (b 5)), (1, .int x1)] := hl
  have hL4 : ∀ (n : Nat), ∀ (x1 x2 x3 : Int32) (H : Heap) (locs : List Loc) (ls : Array Slot), pX6_piecesOfLot_l4 S n x1 x2 x3 = some r → HB D (wF cI cZ b S) (wF cI cZ b S) s H locs → lv_has ls 4 [(0, .ref (b 5)), (1, .int x1), (2, .int x2), (3, .int x3)] → W p l e (rmk 0) s m args below meth c H locs 0 0 (Ei D cI cZ (wF cI cZ b) S r S below args s) (F0 m 4 ls []) := by
    intro n4
    induction n4 with
    | zero => intro x1 x2 x3 H locs ls h hH hl; simp [pX6_piecesOfLot_l4] at h
    | succ n4 ih4 =>
      intro x1 x2 x3 H locs ls h hH hl
      rw [pX6_piecesOfLot_l4] at h
      refine lv_iload_n hx hb dX6_piecesOfLot_4 rfl (lv_at hl 3 rfl) ?_
      refine lv_aload_n hx hb dX6_piecesOfLot_5 rfl (lv_at hl 0 rfl) ?_
      refine F_g9 cx hH lkX6_48 dX6_piecesOfLot_6 ?_
      refine lv_icmp_ge (tgt := 37) hx hb dX6_piecesOfLot_9 (by decide) (fun c_10 => ?_) (fun c_10 => ?_)
      · replace h := fb_ip c_10 h
        refine lv_iload_n hx hb dX6_piecesOfLot_37 rfl (lv_at hl 2 rfl) ?_
        obtain rfl := Option.some.inj h
        exact fb_iret (wd := wF cI cZ b) cx rfl hH dX6_piecesOfLot_38
      · replace h := fb_in c_10 h
        refine lv_aload_n hx hb dX6_piecesOfLot_12 rfl (lv_at hl 0 rfl) ?_
        refine F_ra22 cx hH lkX6_24 dX6_piecesOfLot_13 ?_
        refine lv_iload_n hx hb dX6_piecesOfLot_16 rfl (lv_at hl 3 rfl) ?_
        obtain ⟨hi_11, h⟩ := fb_ck_s h
        refine F_l22 cx hH hi_11 dX6_piecesOfLot_17 ?_
        refine lv_iload_n hx hb dX6_piecesOfLot_18 rfl (lv_at hl 1 rfl) ?_
        refine lv_icmp_ne (tgt := 31) hx hb dX6_piecesOfLot_19 (by decide) (fun c_12 => ?_) (fun c_12 => ?_)
        · replace h := fb_in c_12 h
          obtain ⟨x3_13, ex3_13, h⟩ := fb_vl_s h
          refine lv_iinc (v := x3_13) (lv' := [(3, .int x3_13), (0, .ref (b 5)), (1, .int x1), (2, .int x2)]) hx hb dX6_piecesOfLot_31 hl (k := 3) rfl (by rw [ex3_13]; rfl) (by decide) rfl (fun ls hl => ?_)
          refine lv_goto (tgt := 4) hx hb dX6_piecesOfLot_34 (by decide) ?_
          exact ih4 _ _ _ _ _ _ h hH (lv_sub hl [1, 2, 3, 0] rfl)
        · replace h := fb_ip c_12 h
          refine lv_iload_n hx hb dX6_piecesOfLot_22 rfl (lv_at hl 2 rfl) ?_
          refine lv_aload_n hx hb dX6_piecesOfLot_23 rfl (lv_at hl 0 rfl) ?_
          refine F_ra26 cx hH lkX6_36 dX6_piecesOfLot_24 ?_
          refine lv_iload_n hx hb dX6_piecesOfLot_27 rfl (lv_at hl 3 rfl) ?_
          obtain ⟨hi_14, h⟩ := fb_ck_s h
          refine F_l26 cx hH hi_14 dX6_piecesOfLot_28 ?_
          refine lv_iadd hx hb dX6_piecesOfLot_29 ?_
          obtain ⟨x2_15, ex2_15, h⟩ := fb_vl_s h
          refine fb_top ex2_15 ?_
          refine lv_istore_n (lv' := [(2, .int x2_15), (0, .ref (b 5)), (1, .int x1), (3, .int x3)]) hx hb dX6_piecesOfLot_30 rfl hl (by decide) rfl (fun ls hl => ?_)
          obtain ⟨x3_16, ex3_16, h⟩ := fb_vl_s h
          refine lv_iinc (v := x3_16) (lv' := [(3, .int x3_16), (2, .int x2_15), (0, .ref (b 5)), (1, .int x1)]) hx hb dX6_piecesOfLot_31 hl (k := 3) rfl (by rw [ex3_16]; rfl) (by decide) rfl (fun ls hl => ?_)
          refine lv_goto (tgt := 4) hx hb dX6_piecesOfLot_34 (by decide) ?_
          exact ih4 _ _ _ _ _ _ h hH (lv_sub hl [2, 3, 1, 0] rfl)
  unfold pX6_piecesOfLot at h
  refine lv_iconst (v := 0) hx hb dX6_piecesOfLot_0 (by decide) ?_
  obtain ⟨x2_8, ex2_8, h⟩ := fb_vl_s h
  refine fb_top ex2_8 ?_
  refine lv_istore_n (lv' := [(2, .int x2_8), (0, .ref (b 5)), (1, .int x1)]) hx hb dX6_piecesOfLot_1 rfl hl (by decide) rfl (fun ls hl => ?_)
  refine lv_iconst (v := 0) hx hb dX6_piecesOfLot_2 (by decide) ?_
  obtain ⟨x3_9, ex3_9, h⟩ := fb_vl_s h
  refine fb_top ex3_9 ?_
  refine lv_istore_n (lv' := [(3, .int x3_9), (2, .int x2_8), (0, .ref (b 5)), (1, .int x1)]) hx hb dX6_piecesOfLot_3 rfl hl (by decide) rfl (fun ls hl => ?_)
  exact hL4 5000 _ _ _ _ _ _ h hH (lv_sub hl [2, 3, 1, 0] rfl)
