set_option maxHeartbeats 4000000 in
set_option maxRecDepth 100000 in
theorem ctX0_has (l : Launch) (D : va_G) (cI cZ : ClassId) (b : Nat → Nat) {S : Sg} {x1 : Int32} {r : Int32} (h : pX0_has S x1 = some r) : CTi l D cI cZ (wF cI cZ b) yX0_has cX0_has 2 (some .boolean) 0 [.ref (b 4), .int x1] S r S := by
  refine fb_starti (by decide) (Nat.le_of_ble_eq_true rfl) (fun p e s m args below meth c ls cx hH hl => ?_)
  obtain ⟨hx, hb, -⟩ := id cx
  have hl : lv_has ls 2 [(0, .ref (b 4)), (1, .int x1)] := hl
  unfold pX0_has at h
  refine lv_iload_n hx hb dX0_has_0 rfl (lv_at hl 1 rfl) ?_
  refine lv_if_lt (tgt := 16) hx hb dX0_has_1 (by decide) (fun c_1 => ?_) (fun c_1 => ?_)
  · replace h := fb_ip c_1 h
    refine lv_iconst (v := 0) hx hb dX0_has_16 (by decide) ?_
    obtain ⟨hn, h⟩ := fb_cb_s h
    obtain rfl := Option.some.inj h
    exact fb_zret (wd := wF cI cZ b) cx rfl hH hn dX0_has_17
  · replace h := fb_in c_1 h
    refine lv_iload_n hx hb dX0_has_4 rfl (lv_at hl 1 rfl) ?_
    refine lv_aload_n hx hb dX0_has_5 rfl (lv_at hl 0 rfl) ?_
    refine F_g6 cx hH lkX0_21 dX0_has_6 ?_
    refine lv_icmp_ge (tgt := 16) hx hb dX0_has_9 (by decide) (fun c_2 => ?_) (fun c_2 => ?_)
    · replace h := fb_ip c_2 h
      refine lv_iconst (v := 0) hx hb dX0_has_16 (by decide) ?_
      obtain ⟨hn, h⟩ := fb_cb_s h
      obtain rfl := Option.some.inj h
      exact fb_zret (wd := wF cI cZ b) cx rfl hH hn dX0_has_17
    · replace h := fb_in c_2 h
      refine lv_iconst (v := 1) hx hb dX0_has_12 (by decide) ?_
      refine lv_goto (tgt := 17) hx hb dX0_has_13 (by decide) ?_
      obtain ⟨hn, h⟩ := fb_cb_s h
      obtain rfl := Option.some.inj h
      exact fb_zret (wd := wF cI cZ b) cx rfl hH hn dX0_has_17
set_option maxHeartbeats 4000000 in
set_option maxRecDepth 100000 in
theorem ctX0_lastKind (l : Launch) (D : va_G) (cI cZ : ClassId) (b : Nat → Nat) {S : Sg} {r : Int32} (h : pX0_lastKind S = some r) : CTi l D cI cZ (wF cI cZ b) yX0_lastKind cX0_lastKind 1 (some .int) 0 [.ref (b 4)] S r S := by
  refine fb_starti (by decide) (Nat.le_of_ble_eq_true rfl) (fun p e s m args below meth c ls cx hH hl => ?_)
  obtain ⟨hx, hb, -⟩ := id cx
  have hl : lv_has ls 1 [(0, .ref (b 4))] := hl
  unfold pX0_lastKind at h
  refine lv_aload_n hx hb dX0_lastKind_0 rfl (lv_at hl 0 rfl) ?_
  refine F_g6 cx hH lkX0_21 dX0_lastKind_1 ?_
  refine lv_if_le (tgt := 21) hx hb dX0_lastKind_4 (by decide) (fun c_1 => ?_) (fun c_1 => ?_)
  · replace h := fb_ip c_1 h
    refine lv_iconst (v := (-1)) hx hb dX0_lastKind_21 (by decide) ?_
    obtain rfl := Option.some.inj h
    exact fb_iret (wd := wF cI cZ b) cx rfl hH dX0_lastKind_22
  · replace h := fb_in c_1 h
    refine lv_aload_n hx hb dX0_lastKind_7 rfl (lv_at hl 0 rfl) ?_
    refine F_ra15 cx hH lkX0_9 dX0_lastKind_8 ?_
    refine lv_aload_n hx hb dX0_lastKind_11 rfl (lv_at hl 0 rfl) ?_
    refine F_g6 cx hH lkX0_21 dX0_lastKind_12 ?_
    refine lv_iconst (v := 1) hx hb dX0_lastKind_15 (by decide) ?_
    refine lv_isub hx hb dX0_lastKind_16 ?_
    obtain ⟨hi_2, h⟩ := fb_ck_s h
    refine F_l15 cx hH hi_2 dX0_lastKind_17 ?_
    refine lv_goto (tgt := 22) hx hb dX0_lastKind_18 (by decide) ?_
    obtain rfl := Option.some.inj h
    exact fb_iret (wd := wF cI cZ b) cx rfl hH dX0_lastKind_22
set_option maxHeartbeats 4000000 in
set_option maxRecDepth 100000 in
theorem ctX0_hasRoom (l : Launch) (D : va_G) (cI cZ : ClassId) (b : Nat → Nat) {S : Sg} {x1 x2 x3 : Int32} {r : Int32} (h : pX0_hasRoom S x1 x2 x3 = some r) : CTi l D cI cZ (wF cI cZ b) yX0_hasRoom cX0_hasRoom 5 (some .boolean) 1 [.ref (b 4), .int x1, .int x2, .int x3] S r S := by
  refine fb_starti (by decide) (Nat.le_of_ble_eq_true rfl) (fun p e s m args below meth c ls cx hH hl => ?_)
  obtain ⟨hx, hb, -⟩ := id cx
  have hl : lv_has ls 5 [(0, .ref (b 4)), (1, .int x1), (2, .int x2), (3, .int x3)] := hl
  unfold pX0_hasRoom at h
  refine lv_iload_n hx hb dX0_hasRoom_0 rfl (lv_at hl 2 rfl) ?_
  refine lv_if_le (tgt := 8) hx hb dX0_hasRoom_1 (by decide) (fun c_1 => ?_) (fun c_1 => ?_)
  · replace h := fb_ip c_1 h
    refine lv_iconst (v := 0) hx hb dX0_hasRoom_8 (by decide) ?_
    refine lv_aload_n hx hb dX0_hasRoom_9 rfl (lv_at hl 0 rfl) ?_
    obtain ⟨r_3, hc_2, h⟩ := fb_bd_s h
    refine fb_vi (wd := wF cI cZ b) (As := []) (rest := [.int 0]) cx hH mwX0_lastKind (ctX0_lastKind l D cI cZ b hc_2) (F_rc4 cx hH) mlX0_25 (by decide) rfl hl.1 (Nat.le_of_ble_eq_true rfl) rfl dX0_hasRoom_10 (fun H locs hH => ?_)
    refine lv_iload_n hx hb dX0_hasRoom_13 rfl (lv_at hl 1 rfl) ?_
    refine lv_icmp_ne (tgt := 21) hx hb dX0_hasRoom_14 (by decide) (fun c_4 => ?_) (fun c_4 => ?_)
    · replace h := fb_in c_4 h
      refine lv_iconst (v := 1) hx hb dX0_hasRoom_21 (by decide) ?_
      refine lv_iadd hx hb dX0_hasRoom_22 ?_
      obtain ⟨x4_5, ex4_5, h⟩ := fb_vl_s h
      refine fb_top ex4_5 ?_
      refine lv_istore (lv' := [(4, .int x4_5), (0, .ref (b 4)), (1, .int x1), (2, .int x2), (3, .int x3)]) hx hb dX0_hasRoom_23 hl (by decide) rfl (fun ls hl => ?_)
      refine lv_aload_n hx hb dX0_hasRoom_25 rfl (lv_at hl 1 rfl) ?_
      refine F_g6 cx hH lkX0_21 dX0_hasRoom_26 ?_
      refine lv_iload hx hb dX0_hasRoom_29 (lv_at hl 0 rfl) ?_
      refine lv_iadd hx hb dX0_hasRoom_31 ?_
      refine lv_bipush (v := 60) hx hb dX0_hasRoom_32 (by decide) ?_
      refine lv_icmp_gt (tgt := 55) hx hb dX0_hasRoom_34 (by decide) (fun c_6 => ?_) (fun c_6 => ?_)
      · replace h := fb_ip c_6 h
        refine lv_iconst (v := 0) hx hb dX0_hasRoom_55 (by decide) ?_
        obtain ⟨hn, h⟩ := fb_cb_s h
        obtain rfl := Option.some.inj h
        exact fb_zret (wd := wF cI cZ b) cx rfl hH hn dX0_hasRoom_56
      · replace h := fb_in c_6 h
        refine lv_aload_n hx hb dX0_hasRoom_37 rfl (lv_at hl 1 rfl) ?_
        refine F_g7 cx hH lkX0_29 dX0_hasRoom_38 ?_
        refine lv_iload_n hx hb dX0_hasRoom_41 rfl (lv_at hl 3 rfl) ?_
        refine lv_iadd hx hb dX0_hasRoom_42 ?_
        refine lv_iload_n hx hb dX0_hasRoom_43 rfl (lv_at hl 4 rfl) ?_
        refine lv_iadd hx hb dX0_hasRoom_44 ?_
        refine lv_sipush (v := 2000) hx hb dX0_hasRoom_45 (by decide) ?_
        refine lv_icmp_gt (tgt := 55) hx hb dX0_hasRoom_48 (by decide) (fun c_7 => ?_) (fun c_7 => ?_)
        · replace h := fb_ip c_7 h
          refine lv_iconst (v := 0) hx hb dX0_hasRoom_55 (by decide) ?_
          obtain ⟨hn, h⟩ := fb_cb_s h
          obtain rfl := Option.some.inj h
          exact fb_zret (wd := wF cI cZ b) cx rfl hH hn dX0_hasRoom_56
        · replace h := fb_in c_7 h
          refine lv_iconst (v := 1) hx hb dX0_hasRoom_51 (by decide) ?_
          refine lv_goto (tgt := 56) hx hb dX0_hasRoom_52 (by decide) ?_
          obtain ⟨hn, h⟩ := fb_cb_s h
          obtain rfl := Option.some.inj h
          exact fb_zret (wd := wF cI cZ b) cx rfl hH hn dX0_hasRoom_56
    · replace h := fb_ip c_4 h
      refine lv_iconst (v := 0) hx hb dX0_hasRoom_17 (by decide) ?_
      refine lv_goto (tgt := 22) hx hb dX0_hasRoom_18 (by decide) ?_
      refine lv_iadd hx hb dX0_hasRoom_22 ?_
      obtain ⟨x4_8, ex4_8, h⟩ := fb_vl_s h
      refine fb_top ex4_8 ?_
      refine lv_istore (lv' := [(4, .int x4_8), (0, .ref (b 4)), (1, .int x1), (2, .int x2), (3, .int x3)]) hx hb dX0_hasRoom_23 hl (by decide) rfl (fun ls hl => ?_)
      refine lv_aload_n hx hb dX0_hasRoom_25 rfl (lv_at hl 1 rfl) ?_
      refine F_g6 cx hH lkX0_21 dX0_hasRoom_26 ?_
      refine lv_iload hx hb dX0_hasRoom_29 (lv_at hl 0 rfl) ?_
      refine lv_iadd hx hb dX0_hasRoom_31 ?_
      refine lv_bipush (v := 60) hx hb dX0_hasRoom_32 (by decide) ?_
      refine lv_icmp_gt (tgt := 55) hx hb dX0_hasRoom_34 (by decide) (fun c_9 => ?_) (fun c_9 => ?_)
      · replace h := fb_ip c_9 h
        refine lv_iconst (v := 0) hx hb dX0_hasRoom_55 (by decide) ?_
        obtain ⟨hn, h⟩ := fb_cb_s h
        obtain rfl := Option.some.inj h
        exact fb_zret (wd := wF cI cZ b) cx rfl hH hn dX0_hasRoom_56
      · replace h := fb_in c_9 h
        refine lv_aload_n hx hb dX0_hasRoom_37 rfl (lv_at hl 1 rfl) ?_
        refine F_g7 cx hH lkX0_29 dX0_hasRoom_38 ?_
        refine lv_iload_n hx hb dX0_hasRoom_41 rfl (lv_at hl 3 rfl) ?_
        refine lv_iadd hx hb dX0_hasRoom_42 ?_
        refine lv_iload_n hx hb dX0_hasRoom_43 rfl (lv_at hl 4 rfl) ?_
        refine lv_iadd hx hb dX0_hasRoom_44 ?_
        refine lv_sipush (v := 2000) hx hb dX0_hasRoom_45 (by decide) ?_
        refine lv_icmp_gt (tgt := 55) hx hb dX0_hasRoom_48 (by decide) (fun c_10 => ?_) (fun c_10 => ?_)
        · replace h := fb_ip c_10 h
          refine lv_iconst (v := 0) hx hb dX0_hasRoom_55 (by decide) ?_
          obtain ⟨hn, h⟩ := fb_cb_s h
          obtain rfl := Option.some.inj h
          exact fb_zret (wd := wF cI cZ b) cx rfl hH hn dX0_hasRoom_56
        · replace h := fb_in c_10 h
          refine lv_iconst (v := 1) hx hb dX0_hasRoom_51 (by decide) ?_
          refine lv_goto (tgt := 56) hx hb dX0_hasRoom_52 (by decide) ?_
          obtain ⟨hn, h⟩ := fb_cb_s h
          obtain rfl := Option.some.inj h
          exact fb_zret (wd := wF cI cZ b) cx rfl hH hn dX0_hasRoom_56
  · replace h := fb_in c_1 h
    refine lv_iconst (v := 1) hx hb dX0_hasRoom_4 (by decide) ?_
    refine lv_goto (tgt := 9) hx hb dX0_hasRoom_5 (by decide) ?_
    refine lv_aload_n hx hb dX0_hasRoom_9 rfl (lv_at hl 0 rfl) ?_
    obtain ⟨r_12, hc_11, h⟩ := fb_bd_s h
    refine fb_vi (wd := wF cI cZ b) (As := []) (rest := [.int 1]) cx hH mwX0_lastKind (ctX0_lastKind l D cI cZ b hc_11) (F_rc4 cx hH) mlX0_25 (by decide) rfl hl.1 (Nat.le_of_ble_eq_true rfl) rfl dX0_hasRoom_10 (fun H locs hH => ?_)
    refine lv_iload_n hx hb dX0_hasRoom_13 rfl (lv_at hl 1 rfl) ?_
    refine lv_icmp_ne (tgt := 21) hx hb dX0_hasRoom_14 (by decide) (fun c_13 => ?_) (fun c_13 => ?_)
    · replace h := fb_in c_13 h
      refine lv_iconst (v := 1) hx hb dX0_hasRoom_21 (by decide) ?_
      refine lv_iadd hx hb dX0_hasRoom_22 ?_
      obtain ⟨x4_14, ex4_14, h⟩ := fb_vl_s h
      refine fb_top ex4_14 ?_
      refine lv_istore (lv' := [(4, .int x4_14), (0, .ref (b 4)), (1, .int x1), (2, .int x2), (3, .int x3)]) hx hb dX0_hasRoom_23 hl (by decide) rfl (fun ls hl => ?_)
      refine lv_aload_n hx hb dX0_hasRoom_25 rfl (lv_at hl 1 rfl) ?_
      refine F_g6 cx hH lkX0_21 dX0_hasRoom_26 ?_
      refine lv_iload hx hb dX0_hasRoom_29 (lv_at hl 0 rfl) ?_
      refine lv_iadd hx hb dX0_hasRoom_31 ?_
      refine lv_bipush (v := 60) hx hb dX0_hasRoom_32 (by decide) ?_
      refine lv_icmp_gt (tgt := 55) hx hb dX0_hasRoom_34 (by decide) (fun c_15 => ?_) (fun c_15 => ?_)
      · replace h := fb_ip c_15 h
        refine lv_iconst (v := 0) hx hb dX0_hasRoom_55 (by decide) ?_
        obtain ⟨hn, h⟩ := fb_cb_s h
        obtain rfl := Option.some.inj h
        exact fb_zret (wd := wF cI cZ b) cx rfl hH hn dX0_hasRoom_56
      · replace h := fb_in c_15 h
        refine lv_aload_n hx hb dX0_hasRoom_37 rfl (lv_at hl 1 rfl) ?_
        refine F_g7 cx hH lkX0_29 dX0_hasRoom_38 ?_
        refine lv_iload_n hx hb dX0_hasRoom_41 rfl (lv_at hl 3 rfl) ?_
        refine lv_iadd hx hb dX0_hasRoom_42 ?_
        refine lv_iload_n hx hb dX0_hasRoom_43 rfl (lv_at hl 4 rfl) ?_
        refine lv_iadd hx hb dX0_hasRoom_44 ?_
        refine lv_sipush (v := 2000) hx hb dX0_hasRoom_45 (by decide) ?_
        refine lv_icmp_gt (tgt := 55) hx hb dX0_hasRoom_48 (by decide) (fun c_16 => ?_) (fun c_16 => ?_)
        · replace h := fb_ip c_16 h
          refine lv_iconst (v := 0) hx hb dX0_hasRoom_55 (by decide) ?_
          obtain ⟨hn, h⟩ := fb_cb_s h
          obtain rfl := Option.some.inj h
          exact fb_zret (wd := wF cI cZ b) cx rfl hH hn dX0_hasRoom_56
        · replace h := fb_in c_16 h
          refine lv_iconst (v := 1) hx hb dX0_hasRoom_51 (by decide) ?_
          refine lv_goto (tgt := 56) hx hb dX0_hasRoom_52 (by decide) ?_
          obtain ⟨hn, h⟩ := fb_cb_s h
          obtain rfl := Option.some.inj h
          exact fb_zret (wd := wF cI cZ b) cx rfl hH hn dX0_hasRoom_56
    · replace h := fb_ip c_13 h
      refine lv_iconst (v := 0) hx hb dX0_hasRoom_17 (by decide) ?_
      refine lv_goto (tgt := 22) hx hb dX0_hasRoom_18 (by decide) ?_
      refine lv_iadd hx hb dX0_hasRoom_22 ?_
      obtain ⟨x4_17, ex4_17, h⟩ := fb_vl_s h
      refine fb_top ex4_17 ?_
      refine lv_istore (lv' := [(4, .int x4_17), (0, .ref (b 4)), (1, .int x1), (2, .int x2), (3, .int x3)]) hx hb dX0_hasRoom_23 hl (by decide) rfl (fun ls hl => ?_)
      refine lv_aload_n hx hb dX0_hasRoom_25 rfl (lv_at hl 1 rfl) ?_
      refine F_g6 cx hH lkX0_21 dX0_hasRoom_26 ?_
      refine lv_iload hx hb dX0_hasRoom_29 (lv_at hl 0 rfl) ?_
      refine lv_iadd hx hb dX0_hasRoom_31 ?_
      refine lv_bipush (v := 60) hx hb dX0_hasRoom_32 (by decide) ?_
      refine lv_icmp_gt (tgt := 55) hx hb dX0_hasRoom_34 (by decide) (fun c_18 => ?_) (fun c_18 => ?_)
      · replace h := fb_ip c_18 h
        refine lv_iconst (v := 0) hx hb dX0_hasRoom_55 (by decide) ?_
        obtain ⟨hn, h⟩ := fb_cb_s h
        obtain rfl := Option.some.inj h
        exact fb_zret (wd := wF cI cZ b) cx rfl hH hn dX0_hasRoom_56
      · replace h := fb_in c_18 h
        refine lv_aload_n hx hb dX0_hasRoom_37 rfl (lv_at hl 1 rfl) ?_
        refine F_g7 cx hH lkX0_29 dX0_hasRoom_38 ?_
        refine lv_iload_n hx hb dX0_hasRoom_41 rfl (lv_at hl 3 rfl) ?_
        refine lv_iadd hx hb dX0_hasRoom_42 ?_
        refine lv_iload_n hx hb dX0_hasRoom_43 rfl (lv_at hl 4 rfl) ?_
        refine lv_iadd hx hb dX0_hasRoom_44 ?_
        refine lv_sipush (v := 2000) hx hb dX0_hasRoom_45 (by decide) ?_
        refine lv_icmp_gt (tgt := 55) hx hb dX0_hasRoom_48 (by decide) (fun c_19 => ?_) (fun c_19 => ?_)
        · replace h := fb_ip c_19 h
          refine lv_iconst (v := 0) hx hb dX0_hasRoom_55 (by decide) ?_
          obtain ⟨hn, h⟩ := fb_cb_s h
          obtain rfl := Option.some.inj h
          exact fb_zret (wd := wF cI cZ b) cx rfl hH hn dX0_hasRoom_56
        · replace h := fb_in c_19 h
          refine lv_iconst (v := 1) hx hb dX0_hasRoom_51 (by decide) ?_
          refine lv_goto (tgt := 56) hx hb dX0_hasRoom_52 (by decide) ?_
          obtain ⟨hn, h⟩ := fb_cb_s h
          obtain rfl := Option.some.inj h
          exact fb_zret (wd := wF cI cZ b) cx rfl hH hn dX0_hasRoom_56
set_option maxHeartbeats 4000000 in
set_option maxRecDepth 100000 in
theorem ctX0_begin (l : Launch) (D : va_G) (cI cZ : ClassId) (b : Nat → Nat) {S : Sg} {x1 x2 x3 : Int32} {S9 : Sg} (h : pX0_begin S x1 x2 x3 = some S9) : CTv l D cI cZ (wF cI cZ b) yX0_begin cX0_begin 4 0 [.ref (b 4), .int x1, .int x2, .int x3] S S9 := by
  refine fb_startv (by decide) (Nat.le_of_ble_eq_true rfl) (fun p e s m args below meth c ls cx hH hl => ?_)
  obtain ⟨hx, hb, -⟩ := id cx
  have hl : lv_has ls 4 [(0, .ref (b 4)), (1, .int x1), (2, .int x2), (3, .int x3)] := hl
  unfold pX0_begin at h
  refine lv_aload_n hx hb dX0_begin_0 rfl (lv_at hl 0 rfl) ?_
  refine F_ra15 cx hH lkX0_9 dX0_begin_1 ?_
  refine lv_aload_n hx hb dX0_begin_4 rfl (lv_at hl 0 rfl) ?_
  refine F_g6 cx hH lkX0_21 dX0_begin_5 ?_
  refine lv_iload_n hx hb dX0_begin_8 rfl (lv_at hl 1 rfl) ?_
  obtain ⟨hi_2, h⟩ := fb_ck_s h
  obtain ⟨S_1, eS_1, h⟩ := fb_st_s h
  refine F_s15 cx hH hi_2 dX0_begin_9 (fun H locs hH => ?_)
  rw [← eS_1] at hH
  refine lv_aload_n hx hb dX0_begin_10 rfl (lv_at hl 0 rfl) ?_
  refine F_ra17 cx hH lkX0_18 dX0_begin_11 ?_
  refine lv_aload_n hx hb dX0_begin_14 rfl (lv_at hl 0 rfl) ?_
  refine F_g6 cx hH lkX0_21 dX0_begin_15 ?_
  refine lv_iload_n hx hb dX0_begin_18 rfl (lv_at hl 2 rfl) ?_
  obtain ⟨hi_4, h⟩ := fb_ck_s h
  obtain ⟨S_3, eS_3, h⟩ := fb_st_s h
  refine F_s17 cx hH hi_4 dX0_begin_19 (fun H locs hH => ?_)
  rw [← eS_3] at hH
  refine lv_aload_n hx hb dX0_begin_20 rfl (lv_at hl 0 rfl) ?_
  refine F_ra16 cx hH lkX0_15 dX0_begin_21 ?_
  refine lv_aload_n hx hb dX0_begin_24 rfl (lv_at hl 0 rfl) ?_
  refine F_g6 cx hH lkX0_21 dX0_begin_25 ?_
  refine lv_iload_n hx hb dX0_begin_28 rfl (lv_at hl 3 rfl) ?_
  obtain ⟨hi_6, h⟩ := fb_ck_s h
  obtain ⟨S_5, eS_5, h⟩ := fb_st_s h
  refine F_s16 cx hH hi_6 dX0_begin_29 (fun H locs hH => ?_)
  rw [← eS_5] at hH
  refine lv_aload_n hx hb dX0_begin_30 rfl (lv_at hl 0 rfl) ?_
  refine lv_dup hx hb dX0_begin_31 rfl ?_
  refine F_g6 cx hH lkX0_21 dX0_begin_32 ?_
  refine lv_iconst (v := 1) hx hb dX0_begin_35 (by decide) ?_
  refine lv_iadd hx hb dX0_begin_36 ?_
  obtain ⟨S_7, eS_7, h⟩ := fb_st_s h
  refine F_p6 cx hH lkX0_21 dX0_begin_37 (fun H locs hH => ?_)
  rw [← eS_7] at hH
  refine lv_aload_n hx hb dX0_begin_40 rfl (lv_at hl 0 rfl) ?_
  refine lv_dup hx hb dX0_begin_41 rfl ?_
  refine F_g7 cx hH lkX0_29 dX0_begin_42 ?_
  refine lv_iload_n hx hb dX0_begin_45 rfl (lv_at hl 3 rfl) ?_
  refine lv_iadd hx hb dX0_begin_46 ?_
  obtain ⟨S_8, eS_8, h⟩ := fb_st_s h
  refine F_p7 cx hH lkX0_29 dX0_begin_47 (fun H locs hH => ?_)
  rw [← eS_8] at hH
  obtain rfl := Option.some.inj h
  exact fb_vret (wd := wF cI cZ b) cx hH dX0_begin_50
set_option maxHeartbeats 4000000 in
set_option maxRecDepth 100000 in
theorem ctX0_append (l : Launch) (D : va_G) (cI cZ : ClassId) (b : Nat → Nat) {S : Sg} {x1 x2 x3 : Int32} {S9 : Sg} (h : pX0_append S x1 x2 x3 = some S9) : CTv l D cI cZ (wF cI cZ b) yX0_append cX0_append 4 1 [.ref (b 4), .int x1, .int x2, .int x3] S S9 := by
  refine fb_startv (by decide) (Nat.le_of_ble_eq_true rfl) (fun p e s m args below meth c ls cx hH hl => ?_)
  obtain ⟨hx, hb, -⟩ := id cx
  have hl : lv_has ls 4 [(0, .ref (b 4)), (1, .int x1), (2, .int x2), (3, .int x3)] := hl
  unfold pX0_append at h
  refine lv_iload_n hx hb dX0_append_0 rfl (lv_at hl 2 rfl) ?_
  refine lv_if_le (tgt := 13) hx hb dX0_append_1 (by decide) (fun c_1 => ?_) (fun c_1 => ?_)
  · replace h := fb_ip c_1 h
    refine lv_aload_n hx hb dX0_append_13 rfl (lv_at hl 0 rfl) ?_
    obtain ⟨r_3, hc_2, h⟩ := fb_bd_s h
    refine fb_vi (wd := wF cI cZ b) (As := []) (rest := []) cx hH mwX0_lastKind (ctX0_lastKind l D cI cZ b hc_2) (F_rc4 cx hH) mlX0_25 (by decide) rfl hl.1 (Nat.le_of_ble_eq_true rfl) rfl dX0_append_14 (fun H locs hH => ?_)
    refine lv_iload_n hx hb dX0_append_17 rfl (lv_at hl 1 rfl) ?_
    refine lv_icmp_ne (tgt := 47) hx hb dX0_append_18 (by decide) (fun c_4 => ?_) (fun c_4 => ?_)
    · replace h := fb_in c_4 h
      refine lv_aload_n hx hb dX0_append_47 rfl (lv_at hl 0 rfl) ?_
      refine lv_iload_n hx hb dX0_append_48 rfl (lv_at hl 1 rfl) ?_
      refine lv_aload_n hx hb dX0_append_49 rfl (lv_at hl 0 rfl) ?_
      refine F_g8 cx hH lkX0_36 dX0_append_50 ?_
      refine lv_iload_n hx hb dX0_append_53 rfl (lv_at hl 3 rfl) ?_
      obtain ⟨S_6, hc_5, h⟩ := fb_bd_s h
      refine fb_vv (wd := wF cI cZ b) (As := [.int x1, .int (S.1 8), .int x3]) (rest := []) cx hH mwX0_begin (ctX0_begin l D cI cZ b hc_5) (F_rc4 cx hH) mlX0_32 (by decide) rfl hl.1 (Nat.le_of_ble_eq_true rfl) rfl dX0_append_54 (fun H locs hH => ?_)
      refine lv_aload_n hx hb dX0_append_57 rfl (lv_at hl 0 rfl) ?_
      refine lv_dup hx hb dX0_append_58 rfl ?_
      refine F_g8 cx hH lkX0_36 dX0_append_59 ?_
      refine lv_iconst (v := 1) hx hb dX0_append_62 (by decide) ?_
      refine lv_iadd hx hb dX0_append_63 ?_
      obtain ⟨S_7, eS_7, h⟩ := fb_st_s h
      refine F_p8 cx hH lkX0_36 dX0_append_64 (fun H locs hH => ?_)
      rw [← eS_7] at hH
      obtain rfl := Option.some.inj h
      exact fb_vret (wd := wF cI cZ b) cx hH dX0_append_67
    · replace h := fb_ip c_4 h
      refine lv_aload_n hx hb dX0_append_21 rfl (lv_at hl 0 rfl) ?_
      refine F_ra16 cx hH lkX0_15 dX0_append_22 ?_
      refine lv_aload_n hx hb dX0_append_25 rfl (lv_at hl 0 rfl) ?_
      refine F_g6 cx hH lkX0_21 dX0_append_26 ?_
      refine lv_iconst (v := 1) hx hb dX0_append_29 (by decide) ?_
      refine lv_isub hx hb dX0_append_30 ?_
      refine lv_dup2_11 hx hb dX0_append_31 rfl rfl ?_
      obtain ⟨hi_8, h⟩ := fb_ck_s h
      refine F_l16 cx hH hi_8 dX0_append_32 ?_
      refine lv_iload_n hx hb dX0_append_33 rfl (lv_at hl 3 rfl) ?_
      refine lv_iadd hx hb dX0_append_34 ?_
      obtain ⟨hi_10, h⟩ := fb_ck_s h
      obtain ⟨S_9, eS_9, h⟩ := fb_st_s h
      refine F_s16 cx hH hi_10 dX0_append_35 (fun H locs hH => ?_)
      rw [← eS_9] at hH
      refine lv_aload_n hx hb dX0_append_36 rfl (lv_at hl 0 rfl) ?_
      refine lv_dup hx hb dX0_append_37 rfl ?_
      refine F_g7 cx hH lkX0_29 dX0_append_38 ?_
      refine lv_iload_n hx hb dX0_append_41 rfl (lv_at hl 3 rfl) ?_
      refine lv_iadd hx hb dX0_append_42 ?_
      obtain ⟨S_11, eS_11, h⟩ := fb_st_s h
      refine F_p7 cx hH lkX0_29 dX0_append_43 (fun H locs hH => ?_)
      rw [← eS_11] at hH
      obtain rfl := Option.some.inj h
      exact fb_vret (wd := wF cI cZ b) cx hH dX0_append_46
  · replace h := fb_in c_1 h
    refine lv_aload_n hx hb dX0_append_4 rfl (lv_at hl 0 rfl) ?_
    refine lv_bipush (v := (-2)) hx hb dX0_append_5 (by decide) ?_
    refine lv_bipush (v := (-2)) hx hb dX0_append_7 (by decide) ?_
    refine lv_iload_n hx hb dX0_append_9 rfl (lv_at hl 2 rfl) ?_
    obtain ⟨S_13, hc_12, h⟩ := fb_bd_s h
    refine fb_vv (wd := wF cI cZ b) (As := [.int (-2), .int (-2), .int x2]) (rest := []) cx hH mwX0_begin (ctX0_begin l D cI cZ b hc_12) (F_rc4 cx hH) mlX0_32 (by decide) rfl hl.1 (Nat.le_of_ble_eq_true rfl) rfl dX0_append_10 (fun H locs hH => ?_)
    refine lv_aload_n hx hb dX0_append_13 rfl (lv_at hl 0 rfl) ?_
    obtain ⟨r_15, hc_14, h⟩ := fb_bd_s h
    refine fb_vi (wd := wF cI cZ b) (As := []) (rest := []) cx hH mwX0_lastKind (ctX0_lastKind l D cI cZ b hc_14) (F_rc4 cx hH) mlX0_25 (by decide) rfl hl.1 (Nat.le_of_ble_eq_true rfl) rfl dX0_append_14 (fun H locs hH => ?_)
    refine lv_iload_n hx hb dX0_append_17 rfl (lv_at hl 1 rfl) ?_
    refine lv_icmp_ne (tgt := 47) hx hb dX0_append_18 (by decide) (fun c_16 => ?_) (fun c_16 => ?_)
    · replace h := fb_in c_16 h
      refine lv_aload_n hx hb dX0_append_47 rfl (lv_at hl 0 rfl) ?_
      refine lv_iload_n hx hb dX0_append_48 rfl (lv_at hl 1 rfl) ?_
      refine lv_aload_n hx hb dX0_append_49 rfl (lv_at hl 0 rfl) ?_
      refine F_g8 cx hH lkX0_36 dX0_append_50 ?_
      refine lv_iload_n hx hb dX0_append_53 rfl (lv_at hl 3 rfl) ?_
      obtain ⟨S_18, hc_17, h⟩ := fb_bd_s h
      refine fb_vv (wd := wF cI cZ b) (As := [.int x1, .int (S_13.1 8), .int x3]) (rest := []) cx hH mwX0_begin (ctX0_begin l D cI cZ b hc_17) (F_rc4 cx hH) mlX0_32 (by decide) rfl hl.1 (Nat.le_of_ble_eq_true rfl) rfl dX0_append_54 (fun H locs hH => ?_)
      refine lv_aload_n hx hb dX0_append_57 rfl (lv_at hl 0 rfl) ?_
      refine lv_dup hx hb dX0_append_58 rfl ?_
      refine F_g8 cx hH lkX0_36 dX0_append_59 ?_
      refine lv_iconst (v := 1) hx hb dX0_append_62 (by decide) ?_
      refine lv_iadd hx hb dX0_append_63 ?_
      obtain ⟨S_19, eS_19, h⟩ := fb_st_s h
      refine F_p8 cx hH lkX0_36 dX0_append_64 (fun H locs hH => ?_)
      rw [← eS_19] at hH
      obtain rfl := Option.some.inj h
      exact fb_vret (wd := wF cI cZ b) cx hH dX0_append_67
    · replace h := fb_ip c_16 h
      refine lv_aload_n hx hb dX0_append_21 rfl (lv_at hl 0 rfl) ?_
      refine F_ra16 cx hH lkX0_15 dX0_append_22 ?_
      refine lv_aload_n hx hb dX0_append_25 rfl (lv_at hl 0 rfl) ?_
      refine F_g6 cx hH lkX0_21 dX0_append_26 ?_
      refine lv_iconst (v := 1) hx hb dX0_append_29 (by decide) ?_
      refine lv_isub hx hb dX0_append_30 ?_
      refine lv_dup2_11 hx hb dX0_append_31 rfl rfl ?_
      obtain ⟨hi_20, h⟩ := fb_ck_s h
      refine F_l16 cx hH hi_20 dX0_append_32 ?_
      refine lv_iload_n hx hb dX0_append_33 rfl (lv_at hl 3 rfl) ?_
      refine lv_iadd hx hb dX0_append_34 ?_
      obtain ⟨hi_22, h⟩ := fb_ck_s h
      obtain ⟨S_21, eS_21, h⟩ := fb_st_s h
      refine F_s16 cx hH hi_22 dX0_append_35 (fun H locs hH => ?_)
      rw [← eS_21] at hH
      refine lv_aload_n hx hb dX0_append_36 rfl (lv_at hl 0 rfl) ?_
      refine lv_dup hx hb dX0_append_37 rfl ?_
      refine F_g7 cx hH lkX0_29 dX0_append_38 ?_
      refine lv_iload_n hx hb dX0_append_41 rfl (lv_at hl 3 rfl) ?_
      refine lv_iadd hx hb dX0_append_42 ?_
      obtain ⟨S_23, eS_23, h⟩ := fb_st_s h
      refine F_p7 cx hH lkX0_29 dX0_append_43 (fun H locs hH => ?_)
      rw [← eS_23] at hH
      obtain rfl := Option.some.inj h
      exact fb_vret (wd := wF cI cZ b) cx hH dX0_append_46
set_option maxHeartbeats 4000000 in
set_option maxRecDepth 100000 in
theorem ctX0_dropFirst (l : Launch) (D : va_G) (cI cZ : ClassId) (b : Nat → Nat) {S : Sg} {S9 : Sg} (h : pX0_dropFirst S = some S9) : CTv l D cI cZ (wF cI cZ b) yX0_dropFirst cX0_dropFirst 1 1 [.ref (b 4)] S S9 := by
  refine fb_startv (by decide) (Nat.le_of_ble_eq_true rfl) (fun p e s m args below meth c ls cx hH hl => ?_)
  obtain ⟨hx, hb, -⟩ := id cx
  have hl : lv_has ls 1 [(0, .ref (b 4))] := hl
  unfold pX0_dropFirst at h
  refine lv_aload_n hx hb dX0_dropFirst_0 rfl (lv_at hl 0 rfl) ?_
  refine lv_dup hx hb dX0_dropFirst_1 rfl ?_
  refine F_g7 cx hH lkX0_29 dX0_dropFirst_2 ?_
  refine lv_aload_n hx hb dX0_dropFirst_5 rfl (lv_at hl 0 rfl) ?_
  refine F_ra16 cx hH lkX0_15 dX0_dropFirst_6 ?_
  refine lv_iconst (v := 0) hx hb dX0_dropFirst_9 (by decide) ?_
  obtain ⟨hi_1, h⟩ := fb_ck_s h
  refine F_l16 cx hH hi_1 dX0_dropFirst_10 ?_
  refine lv_isub hx hb dX0_dropFirst_11 ?_
  obtain ⟨S_2, eS_2, h⟩ := fb_st_s h
  refine F_p7 cx hH lkX0_29 dX0_dropFirst_12 (fun H locs hH => ?_)
  rw [← eS_2] at hH
  refine lv_aload_n hx hb dX0_dropFirst_15 rfl (lv_at hl 0 rfl) ?_
  refine lv_dup hx hb dX0_dropFirst_16 rfl ?_
  refine F_g6 cx hH lkX0_21 dX0_dropFirst_17 ?_
  refine lv_iconst (v := 1) hx hb dX0_dropFirst_20 (by decide) ?_
  refine lv_isub hx hb dX0_dropFirst_21 ?_
  obtain ⟨S_3, eS_3, h⟩ := fb_st_s h
  refine F_p6 cx hH lkX0_21 dX0_dropFirst_22 (fun H locs hH => ?_)
  rw [← eS_3] at hH
  refine lv_aload_n hx hb dX0_dropFirst_25 rfl (lv_at hl 0 rfl) ?_
  refine F_ra15 cx hH lkX0_9 dX0_dropFirst_26 ?_
  refine lv_iconst (v := 1) hx hb dX0_dropFirst_29 (by decide) ?_
  refine lv_aload_n hx hb dX0_dropFirst_30 rfl (lv_at hl 0 rfl) ?_
  refine F_ra15 cx hH lkX0_9 dX0_dropFirst_31 ?_
  refine lv_iconst (v := 0) hx hb dX0_dropFirst_34 (by decide) ?_
  refine lv_aload_n hx hb dX0_dropFirst_35 rfl (lv_at hl 0 rfl) ?_
  refine F_g6 cx hH lkX0_21 dX0_dropFirst_36 ?_
  obtain ⟨hi_5, h⟩ := fb_cc_s h
  obtain ⟨S_4, eS_4, h⟩ := fb_st_s h
  refine F_c15 cx hl.1 hH mlX0_39 hi_5 ⟨Nat.le_of_ble_eq_true rfl, Nat.le_of_ble_eq_true rfl⟩ dX0_dropFirst_39 (fun H locs hH => ?_)
  rw [← eS_4] at hH
  refine lv_aload_n hx hb dX0_dropFirst_42 rfl (lv_at hl 0 rfl) ?_
  refine F_ra16 cx hH lkX0_15 dX0_dropFirst_43 ?_
  refine lv_iconst (v := 1) hx hb dX0_dropFirst_46 (by decide) ?_
  refine lv_aload_n hx hb dX0_dropFirst_47 rfl (lv_at hl 0 rfl) ?_
  refine F_ra16 cx hH lkX0_15 dX0_dropFirst_48 ?_
  refine lv_iconst (v := 0) hx hb dX0_dropFirst_51 (by decide) ?_
  refine lv_aload_n hx hb dX0_dropFirst_52 rfl (lv_at hl 0 rfl) ?_
  refine F_g6 cx hH lkX0_21 dX0_dropFirst_53 ?_
  obtain ⟨hi_7, h⟩ := fb_cc_s h
  obtain ⟨S_6, eS_6, h⟩ := fb_st_s h
  refine F_c16 cx hl.1 hH mlX0_39 hi_7 ⟨Nat.le_of_ble_eq_true rfl, Nat.le_of_ble_eq_true rfl⟩ dX0_dropFirst_56 (fun H locs hH => ?_)
  rw [← eS_6] at hH
  refine lv_aload_n hx hb dX0_dropFirst_59 rfl (lv_at hl 0 rfl) ?_
  refine F_ra17 cx hH lkX0_18 dX0_dropFirst_60 ?_
  refine lv_iconst (v := 1) hx hb dX0_dropFirst_63 (by decide) ?_
  refine lv_aload_n hx hb dX0_dropFirst_64 rfl (lv_at hl 0 rfl) ?_
  refine F_ra17 cx hH lkX0_18 dX0_dropFirst_65 ?_
  refine lv_iconst (v := 0) hx hb dX0_dropFirst_68 (by decide) ?_
  refine lv_aload_n hx hb dX0_dropFirst_69 rfl (lv_at hl 0 rfl) ?_
  refine F_g6 cx hH lkX0_21 dX0_dropFirst_70 ?_
  obtain ⟨hi_9, h⟩ := fb_cc_s h
  obtain ⟨S_8, eS_8, h⟩ := fb_st_s h
  refine F_c17 cx hl.1 hH mlX0_39 hi_9 ⟨Nat.le_of_ble_eq_true rfl, Nat.le_of_ble_eq_true rfl⟩ dX0_dropFirst_73 (fun H locs hH => ?_)
  rw [← eS_8] at hH
  obtain rfl := Option.some.inj h
  exact fb_vret (wd := wF cI cZ b) cx hH dX0_dropFirst_76
