set_option maxHeartbeats 4000000 in
set_option maxRecDepth 100000 in
theorem ctX7_within (l : Launch) (D : va_G) (cI cZ : ClassId) (b : Nat → Nat) {S : Sg} {x0 x1 x2 : Int32} {r : Int32} (h : pX7_within S x0 x1 x2 = some r) : CTi l D cI cZ (wF cI cZ b) yX7_within cX7_within 3 (some .boolean) 0 [.int x0, .int x1, .int x2] S r S := by
  refine fb_starti (by decide) (Nat.le_of_ble_eq_true rfl) (fun p e s m args below meth c ls cx hH hl => ?_)
  obtain ⟨hx, hb, -⟩ := id cx
  have hl : lv_has ls 3 [(0, .int x0), (1, .int x1), (2, .int x2)] := hl
  unfold pX7_within at h
  refine lv_iload_n hx hb dX7_within_0 rfl (lv_at hl 0 rfl) ?_
  refine lv_iload_n hx hb dX7_within_1 rfl (lv_at hl 1 rfl) ?_
  refine lv_icmp_lt (tgt := 14) hx hb dX7_within_2 (by decide) (fun c_1 => ?_) (fun c_1 => ?_)
  · replace h := fb_ip c_1 h
    refine lv_iconst (v := 0) hx hb dX7_within_14 (by decide) ?_
    obtain ⟨hn, h⟩ := fb_cb_s h
    obtain rfl := Option.some.inj h
    exact fb_zret (wd := wF cI cZ b) cx rfl hH hn dX7_within_15
  · replace h := fb_in c_1 h
    refine lv_iload_n hx hb dX7_within_5 rfl (lv_at hl 0 rfl) ?_
    refine lv_iload_n hx hb dX7_within_6 rfl (lv_at hl 2 rfl) ?_
    refine lv_icmp_gt (tgt := 14) hx hb dX7_within_7 (by decide) (fun c_2 => ?_) (fun c_2 => ?_)
    · replace h := fb_ip c_2 h
      refine lv_iconst (v := 0) hx hb dX7_within_14 (by decide) ?_
      obtain ⟨hn, h⟩ := fb_cb_s h
      obtain rfl := Option.some.inj h
      exact fb_zret (wd := wF cI cZ b) cx rfl hH hn dX7_within_15
    · replace h := fb_in c_2 h
      refine lv_iconst (v := 1) hx hb dX7_within_10 (by decide) ?_
      refine lv_goto (tgt := 15) hx hb dX7_within_11 (by decide) ?_
      obtain ⟨hn, h⟩ := fb_cb_s h
      obtain rfl := Option.some.inj h
      exact fb_zret (wd := wF cI cZ b) cx rfl hH hn dX7_within_15
set_option maxHeartbeats 4000000 in
set_option maxRecDepth 100000 in
theorem ctX7_refused (l : Launch) (D : va_G) (cI cZ : ClassId) (b : Nat → Nat) {S : Sg} {x1 : Int32} {r : Int32} {S9 : Sg} (h : pX7_refused S x1 = some (r, S9)) : CTi l D cI cZ (wF cI cZ b) yX7_refused cX7_refused 2 (some .int) 0 [.ref (b 0), .int x1] S r S9 := by
  refine fb_starti (by decide) (Nat.le_of_ble_eq_true rfl) (fun p e s m args below meth c ls cx hH hl => ?_)
  obtain ⟨hx, hb, -⟩ := id cx
  have hl : lv_has ls 2 [(0, .ref (b 0)), (1, .int x1)] := hl
  unfold pX7_refused at h
  refine lv_aload_n hx hb dX7_refused_0 rfl (lv_at hl 0 rfl) ?_
  refine lv_iload_n hx hb dX7_refused_1 rfl (lv_at hl 1 rfl) ?_
  obtain ⟨S_1, eS_1, h⟩ := fb_st_s h
  refine F_p1 cx hH lkX7_60 dX7_refused_2 (fun H locs hH => ?_)
  rw [← eS_1] at hH
  refine lv_iconst (v := (-1)) hx hb dX7_refused_5 (by decide) ?_
  obtain ⟨rfl, rfl⟩ := Prod.mk.inj (Option.some.inj h)
  exact fb_iret (wd := wF cI cZ b) cx rfl hH dX7_refused_6
set_option maxHeartbeats 4000000 in
set_option maxRecDepth 100000 in
theorem ctX7_answered (l : Launch) (D : va_G) (cI cZ : ClassId) (b : Nat → Nat) {S : Sg} {x1 : Int32} {r : Int32} {S9 : Sg} (h : pX7_answered S x1 = some (r, S9)) : CTi l D cI cZ (wF cI cZ b) yX7_answered cX7_answered 2 (some .int) 0 [.ref (b 0), .int x1] S r S9 := by
  refine fb_starti (by decide) (Nat.le_of_ble_eq_true rfl) (fun p e s m args below meth c ls cx hH hl => ?_)
  obtain ⟨hx, hb, -⟩ := id cx
  have hl : lv_has ls 2 [(0, .ref (b 0)), (1, .int x1)] := hl
  unfold pX7_answered at h
  refine lv_aload_n hx hb dX7_answered_0 rfl (lv_at hl 0 rfl) ?_
  refine lv_iconst (v := 0) hx hb dX7_answered_1 (by decide) ?_
  obtain ⟨S_1, eS_1, h⟩ := fb_st_s h
  refine F_p1 cx hH lkX7_60 dX7_answered_2 (fun H locs hH => ?_)
  rw [← eS_1] at hH
  refine lv_iload_n hx hb dX7_answered_5 rfl (lv_at hl 1 rfl) ?_
  obtain ⟨rfl, rfl⟩ := Prod.mk.inj (Option.some.inj h)
  exact fb_iret (wd := wF cI cZ b) cx rfl hH dX7_answered_6
set_option maxHeartbeats 4000000 in
set_option maxRecDepth 100000 in
theorem ctX7_kind (l : Launch) (D : va_G) (cI cZ : ClassId) (b : Nat → Nat) {S : Sg} {x1 x2 : Int32} {r : Int32} {S9 : Sg} (h : pX7_kind S x1 x2 = some (r, S9)) : CTi l D cI cZ (wF cI cZ b) yX7_kind cX7_kind 3 (some .int) 1 [.ref (b 0), .int x1, .int x2] S r S9 := by
  refine fb_starti (by decide) (Nat.le_of_ble_eq_true rfl) (fun p e s m args below meth c ls cx hH hl => ?_)
  obtain ⟨hx, hb, -⟩ := id cx
  have hl : lv_has ls 3 [(0, .ref (b 0)), (1, .int x1), (2, .int x2)] := hl
  unfold pX7_kind at h
  refine lv_iload_n hx hb dX7_kind_0 rfl (lv_at hl 1 rfl) ?_
  refine lv_bipush (v := 40) hx hb dX7_kind_1 (by decide) ?_
  refine lv_sipush (v := 180) hx hb dX7_kind_3 (by decide) ?_
  obtain ⟨r_2, hc_1, h⟩ := fb_bd_s h
  refine fb_si (wd := wF cI cZ b) (As := [.int x1, .int 40, .int 180]) (rest := []) cx hH mwX7_within (ctX7_within l D cI cZ b hc_1) mlX7_63 (by decide) rfl hl.1 (Nat.le_of_ble_eq_true rfl) rfl dX7_kind_6 (fun H locs hH => ?_)
  refine lv_if_eq (tgt := 22) hx hb dX7_kind_9 (by decide) (fun c_3 => ?_) (fun c_3 => ?_)
  · replace h := fb_ip c_3 h
    refine lv_aload_n hx hb dX7_kind_22 rfl (lv_at hl 0 rfl) ?_
    refine lv_iconst (v := 2) hx hb dX7_kind_23 (by decide) ?_
    obtain ⟨r_5, S_6, hc_4, h⟩ := fb_bd2_s h
    refine fb_vi (wd := wF cI cZ b) (As := [.int 2]) (rest := []) cx hH mwX7_refused (ctX7_refused l D cI cZ b hc_4) (F_rc0 cx hH) mlX7_67 (by decide) rfl hl.1 (Nat.le_of_ble_eq_true rfl) rfl dX7_kind_24 (fun H locs hH => ?_)
    obtain ⟨rfl, rfl⟩ := Prod.mk.inj (Option.some.inj h)
    exact fb_iret (wd := wF cI cZ b) cx rfl hH dX7_kind_27
  · replace h := fb_in c_3 h
    refine lv_iload_n hx hb dX7_kind_12 rfl (lv_at hl 2 rfl) ?_
    refine lv_iconst (v := 1) hx hb dX7_kind_13 (by decide) ?_
    refine lv_bipush (v := 20) hx hb dX7_kind_14 (by decide) ?_
    obtain ⟨r_8, hc_7, h⟩ := fb_bd_s h
    refine fb_si (wd := wF cI cZ b) (As := [.int x2, .int 1, .int 20]) (rest := []) cx hH mwX7_within (ctX7_within l D cI cZ b hc_7) mlX7_63 (by decide) rfl hl.1 (Nat.le_of_ble_eq_true rfl) rfl dX7_kind_16 (fun H locs hH => ?_)
    refine lv_if_ne (tgt := 28) hx hb dX7_kind_19 (by decide) (fun c_9 => ?_) (fun c_9 => ?_)
    · replace h := fb_in c_9 h
      refine lv_aload_n hx hb dX7_kind_28 rfl (lv_at hl 0 rfl) ?_
      refine F_ro0_0 cx hH lkX7_10 dX7_kind_29 ?_
      refine F_g2 cx hH lkX7_71 dX7_kind_32 ?_
      refine lv_iconst (v := 5) hx hb dX7_kind_35 (by decide) ?_
      refine lv_icmp_lt (tgt := 45) hx hb dX7_kind_36 (by decide) (fun c_10 => ?_) (fun c_10 => ?_)
      · replace h := fb_ip c_10 h
        refine lv_aload_n hx hb dX7_kind_45 rfl (lv_at hl 0 rfl) ?_
        refine lv_aload_n hx hb dX7_kind_46 rfl (lv_at hl 0 rfl) ?_
        refine F_ro0_0 cx hH lkX7_10 dX7_kind_47 ?_
        refine lv_iload_n hx hb dX7_kind_50 rfl (lv_at hl 1 rfl) ?_
        refine lv_iload_n hx hb dX7_kind_51 rfl (lv_at hl 2 rfl) ?_
        obtain ⟨r_12, S_13, hc_11, h⟩ := fb_bd2_s h
        refine fb_vi (wd := wF cI cZ b) (As := [.int x1, .int x2]) (rest := [.ref (b 0)]) cx hH mwX3_add (ctX3_add l D cI cZ b hc_11) (F_rc1 cx hH) mlX7_74 (by decide) rfl hl.1 (Nat.le_of_ble_eq_true rfl) rfl dX7_kind_52 (fun H locs hH => ?_)
        obtain ⟨r_15, S_16, hc_14, h⟩ := fb_bd2_s h
        refine fb_vi (wd := wF cI cZ b) (As := [.int r_12]) (rest := []) cx hH mwX7_answered (ctX7_answered l D cI cZ b hc_14) (F_rc0 cx hH) mlX7_78 (by decide) rfl hl.1 (Nat.le_of_ble_eq_true rfl) rfl dX7_kind_55 (fun H locs hH => ?_)
        obtain ⟨rfl, rfl⟩ := Prod.mk.inj (Option.some.inj h)
        exact fb_iret (wd := wF cI cZ b) cx rfl hH dX7_kind_58
      · replace h := fb_in c_10 h
        refine lv_aload_n hx hb dX7_kind_39 rfl (lv_at hl 0 rfl) ?_
        refine lv_iconst (v := 3) hx hb dX7_kind_40 (by decide) ?_
        obtain ⟨r_18, S_19, hc_17, h⟩ := fb_bd2_s h
        refine fb_vi (wd := wF cI cZ b) (As := [.int 3]) (rest := []) cx hH mwX7_refused (ctX7_refused l D cI cZ b hc_17) (F_rc0 cx hH) mlX7_67 (by decide) rfl hl.1 (Nat.le_of_ble_eq_true rfl) rfl dX7_kind_41 (fun H locs hH => ?_)
        obtain ⟨rfl, rfl⟩ := Prod.mk.inj (Option.some.inj h)
        exact fb_iret (wd := wF cI cZ b) cx rfl hH dX7_kind_44
    · replace h := fb_ip c_9 h
      refine lv_aload_n hx hb dX7_kind_22 rfl (lv_at hl 0 rfl) ?_
      refine lv_iconst (v := 2) hx hb dX7_kind_23 (by decide) ?_
      obtain ⟨r_21, S_22, hc_20, h⟩ := fb_bd2_s h
      refine fb_vi (wd := wF cI cZ b) (As := [.int 2]) (rest := []) cx hH mwX7_refused (ctX7_refused l D cI cZ b hc_20) (F_rc0 cx hH) mlX7_67 (by decide) rfl hl.1 (Nat.le_of_ble_eq_true rfl) rfl dX7_kind_24 (fun H locs hH => ?_)
      obtain ⟨rfl, rfl⟩ := Prod.mk.inj (Option.some.inj h)
      exact fb_iret (wd := wF cI cZ b) cx rfl hH dX7_kind_27
set_option maxHeartbeats 4000000 in
set_option maxRecDepth 100000 in
theorem ctX7_denied (l : Launch) (D : va_G) (cI cZ : ClassId) (b : Nat → Nat) {S : Sg} {x1 : Int32} {r : Int32} {S9 : Sg} (h : pX7_denied S x1 = some (r, S9)) : CTi l D cI cZ (wF cI cZ b) yX7_denied cX7_denied 2 (some .boolean) 0 [.ref (b 0), .int x1] S r S9 := by
  refine fb_starti (by decide) (Nat.le_of_ble_eq_true rfl) (fun p e s m args below meth c ls cx hH hl => ?_)
  obtain ⟨hx, hb, -⟩ := id cx
  have hl : lv_has ls 2 [(0, .ref (b 0)), (1, .int x1)] := hl
  unfold pX7_denied at h
  refine lv_aload_n hx hb dX7_denied_0 rfl (lv_at hl 0 rfl) ?_
  refine lv_iload_n hx hb dX7_denied_1 rfl (lv_at hl 1 rfl) ?_
  obtain ⟨S_1, eS_1, h⟩ := fb_st_s h
  refine F_p1 cx hH lkX7_60 dX7_denied_2 (fun H locs hH => ?_)
  rw [← eS_1] at hH
  refine lv_iconst (v := 0) hx hb dX7_denied_5 (by decide) ?_
  obtain ⟨hn, h⟩ := fb_cb_s h
  obtain ⟨rfl, rfl⟩ := Prod.mk.inj (Option.some.inj h)
  exact fb_zret (wd := wF cI cZ b) cx rfl hH hn dX7_denied_6
set_option maxHeartbeats 4000000 in
set_option maxRecDepth 100000 in
theorem ctX7_granted (l : Launch) (D : va_G) (cI cZ : ClassId) (b : Nat → Nat) {S : Sg} {r : Int32} {S9 : Sg} (h : pX7_granted S = some (r, S9)) : CTi l D cI cZ (wF cI cZ b) yX7_granted cX7_granted 1 (some .boolean) 0 [.ref (b 0)] S r S9 := by
  refine fb_starti (by decide) (Nat.le_of_ble_eq_true rfl) (fun p e s m args below meth c ls cx hH hl => ?_)
  obtain ⟨hx, hb, -⟩ := id cx
  have hl : lv_has ls 1 [(0, .ref (b 0))] := hl
  unfold pX7_granted at h
  refine lv_aload_n hx hb dX7_granted_0 rfl (lv_at hl 0 rfl) ?_
  refine lv_iconst (v := 0) hx hb dX7_granted_1 (by decide) ?_
  obtain ⟨S_1, eS_1, h⟩ := fb_st_s h
  refine F_p1 cx hH lkX7_60 dX7_granted_2 (fun H locs hH => ?_)
  rw [← eS_1] at hH
  refine lv_iconst (v := 1) hx hb dX7_granted_5 (by decide) ?_
  obtain ⟨hn, h⟩ := fb_cb_s h
  obtain ⟨rfl, rfl⟩ := Prod.mk.inj (Option.some.inj h)
  exact fb_zret (wd := wF cI cZ b) cx rfl hH hn dX7_granted_6
set_option maxHeartbeats 4000000 in
set_option maxRecDepth 100000 in
theorem ctX7_change (l : Launch) (D : va_G) (cI cZ : ClassId) (b : Nat → Nat) {S : Sg} {x1 x2 x3 : Int32} {r : Int32} {S9 : Sg} (h : pX7_change S x1 x2 x3 = some (r, S9)) : CTi l D cI cZ (wF cI cZ b) yX7_change cX7_change 4 (some .boolean) 1 [.ref (b 0), .int x1, .int x2, .int x3] S r S9 := by
  refine fb_starti (by decide) (Nat.le_of_ble_eq_true rfl) (fun p e s m args below meth c ls cx hH hl => ?_)
  obtain ⟨hx, hb, -⟩ := id cx
  have hl : lv_has ls 4 [(0, .ref (b 0)), (1, .int x1), (2, .int x2), (3, .int x3)] := hl
  unfold pX7_change at h
  refine lv_aload_n hx hb dX7_change_0 rfl (lv_at hl 0 rfl) ?_
  refine F_ro0_0 cx hH lkX7_10 dX7_change_1 ?_
  refine lv_iload_n hx hb dX7_change_4 rfl (lv_at hl 1 rfl) ?_
  obtain ⟨r_2, hc_1, h⟩ := fb_bd_s h
  refine fb_vi (wd := wF cI cZ b) (As := [.int x1]) (rest := []) cx hH mwX3_has (ctX3_has l D cI cZ b hc_1) (F_rc1 cx hH) mlX7_81 (by decide) rfl hl.1 (Nat.le_of_ble_eq_true rfl) rfl dX7_change_5 (fun H locs hH => ?_)
  refine lv_if_eq (tgt := 27) hx hb dX7_change_8 (by decide) (fun c_3 => ?_) (fun c_3 => ?_)
  · replace h := fb_ip c_3 h
    refine lv_aload_n hx hb dX7_change_27 rfl (lv_at hl 0 rfl) ?_
    refine lv_iconst (v := 1) hx hb dX7_change_28 (by decide) ?_
    obtain ⟨r_5, S_6, hc_4, h⟩ := fb_bd2_s h
    refine fb_vi (wd := wF cI cZ b) (As := [.int 1]) (rest := []) cx hH mwX7_denied (ctX7_denied l D cI cZ b hc_4) (F_rc0 cx hH) mlX7_85 (by decide) rfl hl.1 (Nat.le_of_ble_eq_true rfl) rfl dX7_change_29 (fun H locs hH => ?_)
    obtain ⟨hn, h⟩ := fb_cb_s h
    obtain ⟨rfl, rfl⟩ := Prod.mk.inj (Option.some.inj h)
    exact fb_zret (wd := wF cI cZ b) cx rfl hH hn dX7_change_32
  · replace h := fb_in c_3 h
    refine lv_aload_n hx hb dX7_change_11 rfl (lv_at hl 0 rfl) ?_
    refine F_ro0_0 cx hH lkX7_10 dX7_change_12 ?_
    refine lv_iload_n hx hb dX7_change_15 rfl (lv_at hl 2 rfl) ?_
    obtain ⟨r_8, hc_7, h⟩ := fb_bd_s h
    refine fb_vi (wd := wF cI cZ b) (As := [.int x2]) (rest := []) cx hH mwX3_has (ctX3_has l D cI cZ b hc_7) (F_rc1 cx hH) mlX7_81 (by decide) rfl hl.1 (Nat.le_of_ble_eq_true rfl) rfl dX7_change_16 (fun H locs hH => ?_)
    refine lv_if_eq (tgt := 27) hx hb dX7_change_19 (by decide) (fun c_9 => ?_) (fun c_9 => ?_)
    · replace h := fb_ip c_9 h
      refine lv_aload_n hx hb dX7_change_27 rfl (lv_at hl 0 rfl) ?_
      refine lv_iconst (v := 1) hx hb dX7_change_28 (by decide) ?_
      obtain ⟨r_11, S_12, hc_10, h⟩ := fb_bd2_s h
      refine fb_vi (wd := wF cI cZ b) (As := [.int 1]) (rest := []) cx hH mwX7_denied (ctX7_denied l D cI cZ b hc_10) (F_rc0 cx hH) mlX7_85 (by decide) rfl hl.1 (Nat.le_of_ble_eq_true rfl) rfl dX7_change_29 (fun H locs hH => ?_)
      obtain ⟨hn, h⟩ := fb_cb_s h
      obtain ⟨rfl, rfl⟩ := Prod.mk.inj (Option.some.inj h)
      exact fb_zret (wd := wF cI cZ b) cx rfl hH hn dX7_change_32
    · replace h := fb_in c_9 h
      refine lv_iload_n hx hb dX7_change_22 rfl (lv_at hl 1 rfl) ?_
      refine lv_iload_n hx hb dX7_change_23 rfl (lv_at hl 2 rfl) ?_
      refine lv_icmp_ne (tgt := 33) hx hb dX7_change_24 (by decide) (fun c_13 => ?_) (fun c_13 => ?_)
      · replace h := fb_in c_13 h
        refine lv_iload_n hx hb dX7_change_33 rfl (lv_at hl 3 rfl) ?_
        refine lv_iconst (v := 0) hx hb dX7_change_34 (by decide) ?_
        refine lv_bipush (v := 60) hx hb dX7_change_35 (by decide) ?_
        obtain ⟨r_15, hc_14, h⟩ := fb_bd_s h
        refine fb_si (wd := wF cI cZ b) (As := [.int x3, .int 0, .int 60]) (rest := []) cx hH mwX7_within (ctX7_within l D cI cZ b hc_14) mlX7_63 (by decide) rfl hl.1 (Nat.le_of_ble_eq_true rfl) rfl dX7_change_37 (fun H locs hH => ?_)
        refine lv_if_ne (tgt := 49) hx hb dX7_change_40 (by decide) (fun c_16 => ?_) (fun c_16 => ?_)
        · replace h := fb_in c_16 h
          refine lv_aload_n hx hb dX7_change_49 rfl (lv_at hl 0 rfl) ?_
          refine F_ro0_0 cx hH lkX7_10 dX7_change_50 ?_
          refine lv_iload_n hx hb dX7_change_53 rfl (lv_at hl 1 rfl) ?_
          refine lv_iload_n hx hb dX7_change_54 rfl (lv_at hl 2 rfl) ?_
          refine lv_iload_n hx hb dX7_change_55 rfl (lv_at hl 3 rfl) ?_
          obtain ⟨S_18, hc_17, h⟩ := fb_bd_s h
          refine fb_vv (wd := wF cI cZ b) (As := [.int x1, .int x2, .int x3]) (rest := []) cx hH mwX3_setMixed (ctX3_setMixed l D cI cZ b hc_17) (F_rc1 cx hH) mlX7_88 (by decide) rfl hl.1 (Nat.le_of_ble_eq_true rfl) rfl dX7_change_56 (fun H locs hH => ?_)
          refine lv_aload_n hx hb dX7_change_59 rfl (lv_at hl 0 rfl) ?_
          obtain ⟨r_20, S_21, hc_19, h⟩ := fb_bd2_s h
          refine fb_vi (wd := wF cI cZ b) (As := []) (rest := []) cx hH mwX7_granted (ctX7_granted l D cI cZ b hc_19) (F_rc0 cx hH) mlX7_92 (by decide) rfl hl.1 (Nat.le_of_ble_eq_true rfl) rfl dX7_change_60 (fun H locs hH => ?_)
          obtain ⟨hn, h⟩ := fb_cb_s h
          obtain ⟨rfl, rfl⟩ := Prod.mk.inj (Option.some.inj h)
          exact fb_zret (wd := wF cI cZ b) cx rfl hH hn dX7_change_63
        · replace h := fb_ip c_16 h
          refine lv_aload_n hx hb dX7_change_43 rfl (lv_at hl 0 rfl) ?_
          refine lv_iconst (v := 2) hx hb dX7_change_44 (by decide) ?_
          obtain ⟨r_23, S_24, hc_22, h⟩ := fb_bd2_s h
          refine fb_vi (wd := wF cI cZ b) (As := [.int 2]) (rest := []) cx hH mwX7_denied (ctX7_denied l D cI cZ b hc_22) (F_rc0 cx hH) mlX7_85 (by decide) rfl hl.1 (Nat.le_of_ble_eq_true rfl) rfl dX7_change_45 (fun H locs hH => ?_)
          obtain ⟨hn, h⟩ := fb_cb_s h
          obtain ⟨rfl, rfl⟩ := Prod.mk.inj (Option.some.inj h)
          exact fb_zret (wd := wF cI cZ b) cx rfl hH hn dX7_change_48
      · replace h := fb_ip c_13 h
        refine lv_aload_n hx hb dX7_change_27 rfl (lv_at hl 0 rfl) ?_
        refine lv_iconst (v := 1) hx hb dX7_change_28 (by decide) ?_
        obtain ⟨r_26, S_27, hc_25, h⟩ := fb_bd2_s h
        refine fb_vi (wd := wF cI cZ b) (As := [.int 1]) (rest := []) cx hH mwX7_denied (ctX7_denied l D cI cZ b hc_25) (F_rc0 cx hH) mlX7_85 (by decide) rfl hl.1 (Nat.le_of_ble_eq_true rfl) rfl dX7_change_29 (fun H locs hH => ?_)
        obtain ⟨hn, h⟩ := fb_cb_s h
        obtain ⟨rfl, rfl⟩ := Prod.mk.inj (Option.some.inj h)
        exact fb_zret (wd := wF cI cZ b) cx rfl hH hn dX7_change_32
set_option maxHeartbeats 4000000 in
set_option maxRecDepth 100000 in
theorem ctX7_length (l : Launch) (D : va_G) (cI cZ : ClassId) (b : Nat → Nat) {S : Sg} {x1 : Int32} {r : Int32} {S9 : Sg} (h : pX7_length S x1 = some (r, S9)) : CTi l D cI cZ (wF cI cZ b) yX7_length cX7_length 2 (some .int) 1 [.ref (b 0), .int x1] S r S9 := by
  refine fb_starti (by decide) (Nat.le_of_ble_eq_true rfl) (fun p e s m args below meth c ls cx hH hl => ?_)
  obtain ⟨hx, hb, -⟩ := id cx
  have hl : lv_has ls 2 [(0, .ref (b 0)), (1, .int x1)] := hl
  unfold pX7_length at h
  refine lv_iload_n hx hb dX7_length_0 rfl (lv_at hl 1 rfl) ?_
  refine lv_iconst (v := 5) hx hb dX7_length_1 (by decide) ?_
  refine lv_bipush (v := 80) hx hb dX7_length_2 (by decide) ?_
  obtain ⟨r_2, hc_1, h⟩ := fb_bd_s h
  refine fb_si (wd := wF cI cZ b) (As := [.int x1, .int 5, .int 80]) (rest := []) cx hH mwX7_within (ctX7_within l D cI cZ b hc_1) mlX7_63 (by decide) rfl hl.1 (Nat.le_of_ble_eq_true rfl) rfl dX7_length_4 (fun H locs hH => ?_)
  refine lv_if_ne (tgt := 16) hx hb dX7_length_7 (by decide) (fun c_3 => ?_) (fun c_3 => ?_)
  · replace h := fb_in c_3 h
    refine lv_aload_n hx hb dX7_length_16 rfl (lv_at hl 0 rfl) ?_
    refine F_ro0_1 cx hH lkX7_27 dX7_length_17 ?_
    refine lv_iload_n hx hb dX7_length_20 rfl (lv_at hl 1 rfl) ?_
    obtain ⟨r_5, hc_4, h⟩ := fb_bd_s h
    refine fb_vi (wd := wF cI cZ b) (As := [.int x1]) (rest := []) cx hH mwX4_isTold (ctX4_isTold l D cI cZ b hc_4) (F_rc2 cx hH) mlX7_96 (by decide) rfl hl.1 (Nat.le_of_ble_eq_true rfl) rfl dX7_length_21 (fun H locs hH => ?_)
    refine lv_if_eq (tgt := 33) hx hb dX7_length_24 (by decide) (fun c_6 => ?_) (fun c_6 => ?_)
    · replace h := fb_ip c_6 h
      refine lv_aload_n hx hb dX7_length_33 rfl (lv_at hl 0 rfl) ?_
      refine F_ro0_1 cx hH lkX7_27 dX7_length_34 ?_
      refine F_g3 cx hH lkX7_101 dX7_length_37 ?_
      refine lv_bipush (v := 6) hx hb dX7_length_40 (by decide) ?_
      refine lv_icmp_lt (tgt := 51) hx hb dX7_length_42 (by decide) (fun c_7 => ?_) (fun c_7 => ?_)
      · replace h := fb_ip c_7 h
        refine lv_aload_n hx hb dX7_length_51 rfl (lv_at hl 0 rfl) ?_
        refine lv_aload_n hx hb dX7_length_52 rfl (lv_at hl 0 rfl) ?_
        refine F_ro0_1 cx hH lkX7_27 dX7_length_53 ?_
        refine lv_iload_n hx hb dX7_length_56 rfl (lv_at hl 1 rfl) ?_
        obtain ⟨r_9, S_10, hc_8, h⟩ := fb_bd2_s h
        refine fb_vi (wd := wF cI cZ b) (As := [.int x1]) (rest := [.ref (b 0)]) cx hH mwX4_add (ctX4_add l D cI cZ b hc_8) (F_rc2 cx hH) mlX7_102 (by decide) rfl hl.1 (Nat.le_of_ble_eq_true rfl) rfl dX7_length_57 (fun H locs hH => ?_)
        obtain ⟨r_12, S_13, hc_11, h⟩ := fb_bd2_s h
        refine fb_vi (wd := wF cI cZ b) (As := [.int r_9]) (rest := []) cx hH mwX7_answered (ctX7_answered l D cI cZ b hc_11) (F_rc0 cx hH) mlX7_78 (by decide) rfl hl.1 (Nat.le_of_ble_eq_true rfl) rfl dX7_length_60 (fun H locs hH => ?_)
        obtain ⟨rfl, rfl⟩ := Prod.mk.inj (Option.some.inj h)
        exact fb_iret (wd := wF cI cZ b) cx rfl hH dX7_length_63
      · replace h := fb_in c_7 h
        refine lv_aload_n hx hb dX7_length_45 rfl (lv_at hl 0 rfl) ?_
        refine lv_iconst (v := 3) hx hb dX7_length_46 (by decide) ?_
        obtain ⟨r_15, S_16, hc_14, h⟩ := fb_bd2_s h
        refine fb_vi (wd := wF cI cZ b) (As := [.int 3]) (rest := []) cx hH mwX7_refused (ctX7_refused l D cI cZ b hc_14) (F_rc0 cx hH) mlX7_67 (by decide) rfl hl.1 (Nat.le_of_ble_eq_true rfl) rfl dX7_length_47 (fun H locs hH => ?_)
        obtain ⟨rfl, rfl⟩ := Prod.mk.inj (Option.some.inj h)
        exact fb_iret (wd := wF cI cZ b) cx rfl hH dX7_length_50
    · replace h := fb_in c_6 h
      refine lv_aload_n hx hb dX7_length_27 rfl (lv_at hl 0 rfl) ?_
      refine lv_iconst (v := 4) hx hb dX7_length_28 (by decide) ?_
      obtain ⟨r_18, S_19, hc_17, h⟩ := fb_bd2_s h
      refine fb_vi (wd := wF cI cZ b) (As := [.int 4]) (rest := []) cx hH mwX7_refused (ctX7_refused l D cI cZ b hc_17) (F_rc0 cx hH) mlX7_67 (by decide) rfl hl.1 (Nat.le_of_ble_eq_true rfl) rfl dX7_length_29 (fun H locs hH => ?_)
      obtain ⟨rfl, rfl⟩ := Prod.mk.inj (Option.some.inj h)
      exact fb_iret (wd := wF cI cZ b) cx rfl hH dX7_length_32
  · replace h := fb_ip c_3 h
    refine lv_aload_n hx hb dX7_length_10 rfl (lv_at hl 0 rfl) ?_
    refine lv_iconst (v := 2) hx hb dX7_length_11 (by decide) ?_
    obtain ⟨r_21, S_22, hc_20, h⟩ := fb_bd2_s h
    refine fb_vi (wd := wF cI cZ b) (As := [.int 2]) (rest := []) cx hH mwX7_refused (ctX7_refused l D cI cZ b hc_20) (F_rc0 cx hH) mlX7_67 (by decide) rfl hl.1 (Nat.le_of_ble_eq_true rfl) rfl dX7_length_12 (fun H locs hH => ?_)
    obtain ⟨rfl, rfl⟩ := Prod.mk.inj (Option.some.inj h)
    exact fb_iret (wd := wF cI cZ b) cx rfl hH dX7_length_15
set_option maxHeartbeats 4000000 in
set_option maxRecDepth 100000 in
theorem ctX7_worth (l : Launch) (D : va_G) (cI cZ : ClassId) (b : Nat → Nat) {S : Sg} {x1 x2 x3 : Int32} {r : Int32} {S9 : Sg} (h : pX7_worth S x1 x2 x3 = some (r, S9)) : CTi l D cI cZ (wF cI cZ b) yX7_worth cX7_worth 4 (some .boolean) 1 [.ref (b 0), .int x1, .int x2, .int x3] S r S9 := by
  refine fb_starti (by decide) (Nat.le_of_ble_eq_true rfl) (fun p e s m args below meth c ls cx hH hl => ?_)
  obtain ⟨hx, hb, -⟩ := id cx
  have hl : lv_has ls 4 [(0, .ref (b 0)), (1, .int x1), (2, .int x2), (3, .int x3)] := hl
  unfold pX7_worth at h
  refine lv_aload_n hx hb dX7_worth_0 rfl (lv_at hl 0 rfl) ?_
  refine F_ro0_1 cx hH lkX7_27 dX7_worth_1 ?_
  refine lv_iload_n hx hb dX7_worth_4 rfl (lv_at hl 1 rfl) ?_
  obtain ⟨r_2, hc_1, h⟩ := fb_bd_s h
  refine fb_vi (wd := wF cI cZ b) (As := [.int x1]) (rest := []) cx hH mwX4_has (ctX4_has l D cI cZ b hc_1) (F_rc2 cx hH) mlX7_104 (by decide) rfl hl.1 (Nat.le_of_ble_eq_true rfl) rfl dX7_worth_5 (fun H locs hH => ?_)
  refine lv_if_eq (tgt := 22) hx hb dX7_worth_8 (by decide) (fun c_3 => ?_) (fun c_3 => ?_)
  · replace h := fb_ip c_3 h
    refine lv_aload_n hx hb dX7_worth_22 rfl (lv_at hl 0 rfl) ?_
    refine lv_iconst (v := 1) hx hb dX7_worth_23 (by decide) ?_
    obtain ⟨r_5, S_6, hc_4, h⟩ := fb_bd2_s h
    refine fb_vi (wd := wF cI cZ b) (As := [.int 1]) (rest := []) cx hH mwX7_denied (ctX7_denied l D cI cZ b hc_4) (F_rc0 cx hH) mlX7_85 (by decide) rfl hl.1 (Nat.le_of_ble_eq_true rfl) rfl dX7_worth_24 (fun H locs hH => ?_)
    obtain ⟨hn, h⟩ := fb_cb_s h
    obtain ⟨rfl, rfl⟩ := Prod.mk.inj (Option.some.inj h)
    exact fb_zret (wd := wF cI cZ b) cx rfl hH hn dX7_worth_27
  · replace h := fb_in c_3 h
    refine lv_aload_n hx hb dX7_worth_11 rfl (lv_at hl 0 rfl) ?_
    refine F_ro0_0 cx hH lkX7_10 dX7_worth_12 ?_
    refine lv_iload_n hx hb dX7_worth_15 rfl (lv_at hl 2 rfl) ?_
    obtain ⟨r_8, hc_7, h⟩ := fb_bd_s h
    refine fb_vi (wd := wF cI cZ b) (As := [.int x2]) (rest := []) cx hH mwX3_has (ctX3_has l D cI cZ b hc_7) (F_rc1 cx hH) mlX7_81 (by decide) rfl hl.1 (Nat.le_of_ble_eq_true rfl) rfl dX7_worth_16 (fun H locs hH => ?_)
    refine lv_if_ne (tgt := 28) hx hb dX7_worth_19 (by decide) (fun c_9 => ?_) (fun c_9 => ?_)
    · replace h := fb_in c_9 h
      refine lv_iload_n hx hb dX7_worth_28 rfl (lv_at hl 3 rfl) ?_
      refine lv_iconst (v := 0) hx hb dX7_worth_29 (by decide) ?_
      refine lv_sipush (v := 999) hx hb dX7_worth_30 (by decide) ?_
      obtain ⟨r_11, hc_10, h⟩ := fb_bd_s h
      refine fb_si (wd := wF cI cZ b) (As := [.int x3, .int 0, .int 999]) (rest := []) cx hH mwX7_within (ctX7_within l D cI cZ b hc_10) mlX7_63 (by decide) rfl hl.1 (Nat.le_of_ble_eq_true rfl) rfl dX7_worth_33 (fun H locs hH => ?_)
      refine lv_if_ne (tgt := 45) hx hb dX7_worth_36 (by decide) (fun c_12 => ?_) (fun c_12 => ?_)
      · replace h := fb_in c_12 h
        refine lv_aload_n hx hb dX7_worth_45 rfl (lv_at hl 0 rfl) ?_
        refine F_ro0_1 cx hH lkX7_27 dX7_worth_46 ?_
        refine lv_iload_n hx hb dX7_worth_49 rfl (lv_at hl 1 rfl) ?_
        refine lv_iload_n hx hb dX7_worth_50 rfl (lv_at hl 2 rfl) ?_
        refine lv_iload_n hx hb dX7_worth_51 rfl (lv_at hl 3 rfl) ?_
        obtain ⟨S_14, hc_13, h⟩ := fb_bd_s h
        refine fb_vv (wd := wF cI cZ b) (As := [.int x1, .int x2, .int x3]) (rest := []) cx hH mwX4_setWorth (ctX4_setWorth l D cI cZ b hc_13) (F_rc2 cx hH) mlX7_105 (by decide) rfl hl.1 (Nat.le_of_ble_eq_true rfl) rfl dX7_worth_52 (fun H locs hH => ?_)
        refine lv_aload_n hx hb dX7_worth_55 rfl (lv_at hl 0 rfl) ?_
        obtain ⟨r_16, S_17, hc_15, h⟩ := fb_bd2_s h
        refine fb_vi (wd := wF cI cZ b) (As := []) (rest := []) cx hH mwX7_granted (ctX7_granted l D cI cZ b hc_15) (F_rc0 cx hH) mlX7_92 (by decide) rfl hl.1 (Nat.le_of_ble_eq_true rfl) rfl dX7_worth_56 (fun H locs hH => ?_)
        obtain ⟨hn, h⟩ := fb_cb_s h
        obtain ⟨rfl, rfl⟩ := Prod.mk.inj (Option.some.inj h)
        exact fb_zret (wd := wF cI cZ b) cx rfl hH hn dX7_worth_59
      · replace h := fb_ip c_12 h
        refine lv_aload_n hx hb dX7_worth_39 rfl (lv_at hl 0 rfl) ?_
        refine lv_iconst (v := 2) hx hb dX7_worth_40 (by decide) ?_
        obtain ⟨r_19, S_20, hc_18, h⟩ := fb_bd2_s h
        refine fb_vi (wd := wF cI cZ b) (As := [.int 2]) (rest := []) cx hH mwX7_denied (ctX7_denied l D cI cZ b hc_18) (F_rc0 cx hH) mlX7_85 (by decide) rfl hl.1 (Nat.le_of_ble_eq_true rfl) rfl dX7_worth_41 (fun H locs hH => ?_)
        obtain ⟨hn, h⟩ := fb_cb_s h
        obtain ⟨rfl, rfl⟩ := Prod.mk.inj (Option.some.inj h)
        exact fb_zret (wd := wF cI cZ b) cx rfl hH hn dX7_worth_44
    · replace h := fb_ip c_9 h
      refine lv_aload_n hx hb dX7_worth_22 rfl (lv_at hl 0 rfl) ?_
      refine lv_iconst (v := 1) hx hb dX7_worth_23 (by decide) ?_
      obtain ⟨r_22, S_23, hc_21, h⟩ := fb_bd2_s h
      refine fb_vi (wd := wF cI cZ b) (As := [.int 1]) (rest := []) cx hH mwX7_denied (ctX7_denied l D cI cZ b hc_21) (F_rc0 cx hH) mlX7_85 (by decide) rfl hl.1 (Nat.le_of_ble_eq_true rfl) rfl dX7_worth_24 (fun H locs hH => ?_)
      obtain ⟨hn, h⟩ := fb_cb_s h
      obtain ⟨rfl, rfl⟩ := Prod.mk.inj (Option.some.inj h)
      exact fb_zret (wd := wF cI cZ b) cx rfl hH hn dX7_worth_27
set_option maxHeartbeats 4000000 in
set_option maxRecDepth 100000 in
theorem ctX7_isEnd (l : Launch) (D : va_G) (cI cZ : ClassId) (b : Nat → Nat) {S : Sg} {x0 x1 : Int32} {r : Int32} (h : pX7_isEnd S x0 x1 = some r) : CTi l D cI cZ (wF cI cZ b) yX7_isEnd cX7_isEnd 2 (some .boolean) 1 [.int x0, .int x1] S r S := by
  refine fb_starti (by decide) (Nat.le_of_ble_eq_true rfl) (fun p e s m args below meth c ls cx hH hl => ?_)
  obtain ⟨hx, hb, -⟩ := id cx
  have hl : lv_has ls 2 [(0, .int x0), (1, .int x1)] := hl
  unfold pX7_isEnd at h
  refine lv_iload_n hx hb dX7_isEnd_0 rfl (lv_at hl 0 rfl) ?_
  refine lv_iconst (v := 1) hx hb dX7_isEnd_1 (by decide) ?_
  refine lv_bipush (v := 60) hx hb dX7_isEnd_2 (by decide) ?_
  obtain ⟨r_2, hc_1, h⟩ := fb_bd_s h
  refine fb_si (wd := wF cI cZ b) (As := [.int x0, .int 1, .int 60]) (rest := []) cx hH mwX7_within (ctX7_within l D cI cZ b hc_1) mlX7_63 (by decide) rfl hl.1 (Nat.le_of_ble_eq_true rfl) rfl dX7_isEnd_4 (fun H locs hH => ?_)
  refine lv_if_eq (tgt := 24) hx hb dX7_isEnd_7 (by decide) (fun c_3 => ?_) (fun c_3 => ?_)
  · replace h := fb_ip c_3 h
    refine lv_iconst (v := 0) hx hb dX7_isEnd_24 (by decide) ?_
    obtain ⟨hn, h⟩ := fb_cb_s h
    obtain rfl := Option.some.inj h
    exact fb_zret (wd := wF cI cZ b) cx rfl hH hn dX7_isEnd_25
  · replace h := fb_in c_3 h
    refine lv_iload_n hx hb dX7_isEnd_10 rfl (lv_at hl 1 rfl) ?_
    refine lv_iconst (v := 1) hx hb dX7_isEnd_11 (by decide) ?_
    refine lv_bipush (v := 60) hx hb dX7_isEnd_12 (by decide) ?_
    obtain ⟨r_5, hc_4, h⟩ := fb_bd_s h
    refine fb_si (wd := wF cI cZ b) (As := [.int x1, .int 1, .int 60]) (rest := []) cx hH mwX7_within (ctX7_within l D cI cZ b hc_4) mlX7_63 (by decide) rfl hl.1 (Nat.le_of_ble_eq_true rfl) rfl dX7_isEnd_14 (fun H locs hH => ?_)
    refine lv_if_eq (tgt := 24) hx hb dX7_isEnd_17 (by decide) (fun c_6 => ?_) (fun c_6 => ?_)
    · replace h := fb_ip c_6 h
      refine lv_iconst (v := 0) hx hb dX7_isEnd_24 (by decide) ?_
      obtain ⟨hn, h⟩ := fb_cb_s h
      obtain rfl := Option.some.inj h
      exact fb_zret (wd := wF cI cZ b) cx rfl hH hn dX7_isEnd_25
    · replace h := fb_in c_6 h
      refine lv_iconst (v := 1) hx hb dX7_isEnd_20 (by decide) ?_
      refine lv_goto (tgt := 25) hx hb dX7_isEnd_21 (by decide) ?_
      obtain ⟨hn, h⟩ := fb_cb_s h
      obtain rfl := Option.some.inj h
      exact fb_zret (wd := wF cI cZ b) cx rfl hH hn dX7_isEnd_25
set_option maxHeartbeats 4000000 in
set_option maxRecDepth 100000 in
theorem ctX7_size (l : Launch) (D : va_G) (cI cZ : ClassId) (b : Nat → Nat) {S : Sg} {x1 x2 : Int32} {r : Int32} {S9 : Sg} (h : pX7_size S x1 x2 = some (r, S9)) : CTi l D cI cZ (wF cI cZ b) yX7_size cX7_size 3 (some .boolean) 2 [.ref (b 0), .int x1, .int x2] S r S9 := by
  refine fb_starti (by decide) (Nat.le_of_ble_eq_true rfl) (fun p e s m args below meth c ls cx hH hl => ?_)
  obtain ⟨hx, hb, -⟩ := id cx
  have hl : lv_has ls 3 [(0, .ref (b 0)), (1, .int x1), (2, .int x2)] := hl
  unfold pX7_size at h
  refine lv_iload_n hx hb dX7_size_0 rfl (lv_at hl 1 rfl) ?_
  refine lv_iload_n hx hb dX7_size_1 rfl (lv_at hl 2 rfl) ?_
  obtain ⟨r_2, hc_1, h⟩ := fb_bd_s h
  refine fb_si (wd := wF cI cZ b) (As := [.int x1, .int x2]) (rest := []) cx hH mwX7_isEnd (ctX7_isEnd l D cI cZ b hc_1) mlX7_108 (by decide) rfl hl.1 (Nat.le_of_ble_eq_true rfl) rfl dX7_size_2 (fun H locs hH => ?_)
  refine lv_if_ne (tgt := 14) hx hb dX7_size_5 (by decide) (fun c_3 => ?_) (fun c_3 => ?_)
  · replace h := fb_in c_3 h
    refine lv_aload_n hx hb dX7_size_14 rfl (lv_at hl 0 rfl) ?_
    refine F_ro0_4 cx hH lkX7_38 dX7_size_15 ?_
    refine F_g9 cx hH lkX7_112 dX7_size_18 ?_
    refine lv_if_le (tgt := 30) hx hb dX7_size_21 (by decide) (fun c_4 => ?_) (fun c_4 => ?_)
    · replace h := fb_ip c_4 h
      refine lv_aload_n hx hb dX7_size_30 rfl (lv_at hl 0 rfl) ?_
      refine F_ro0_5 cx hH lkX7_45 dX7_size_31 ?_
      refine lv_iload_n hx hb dX7_size_34 rfl (lv_at hl 1 rfl) ?_
      obtain ⟨S_5, eS_5, h⟩ := fb_st_s h
      refine F_p11 cx hH lkX7_113 dX7_size_35 (fun H locs hH => ?_)
      rw [← eS_5] at hH
      refine lv_aload_n hx hb dX7_size_38 rfl (lv_at hl 0 rfl) ?_
      refine F_ro0_5 cx hH lkX7_45 dX7_size_39 ?_
      refine lv_iload_n hx hb dX7_size_42 rfl (lv_at hl 2 rfl) ?_
      obtain ⟨S_6, eS_6, h⟩ := fb_st_s h
      refine F_p12 cx hH lkX7_116 dX7_size_43 (fun H locs hH => ?_)
      rw [← eS_6] at hH
      refine lv_aload_n hx hb dX7_size_46 rfl (lv_at hl 0 rfl) ?_
      obtain ⟨r_8, S_9, hc_7, h⟩ := fb_bd2_s h
      refine fb_vi (wd := wF cI cZ b) (As := []) (rest := []) cx hH mwX7_granted (ctX7_granted l D cI cZ b hc_7) (F_rc0 cx hH) mlX7_92 (by decide) rfl hl.1 (Nat.le_of_ble_eq_true rfl) rfl dX7_size_47 (fun H locs hH => ?_)
      obtain ⟨hn, h⟩ := fb_cb_s h
      obtain ⟨rfl, rfl⟩ := Prod.mk.inj (Option.some.inj h)
      exact fb_zret (wd := wF cI cZ b) cx rfl hH hn dX7_size_50
    · replace h := fb_in c_4 h
      refine lv_aload_n hx hb dX7_size_24 rfl (lv_at hl 0 rfl) ?_
      refine lv_iconst (v := 4) hx hb dX7_size_25 (by decide) ?_
      obtain ⟨r_11, S_12, hc_10, h⟩ := fb_bd2_s h
      refine fb_vi (wd := wF cI cZ b) (As := [.int 4]) (rest := []) cx hH mwX7_denied (ctX7_denied l D cI cZ b hc_10) (F_rc0 cx hH) mlX7_85 (by decide) rfl hl.1 (Nat.le_of_ble_eq_true rfl) rfl dX7_size_26 (fun H locs hH => ?_)
      obtain ⟨hn, h⟩ := fb_cb_s h
      obtain ⟨rfl, rfl⟩ := Prod.mk.inj (Option.some.inj h)
      exact fb_zret (wd := wF cI cZ b) cx rfl hH hn dX7_size_29
  · replace h := fb_ip c_3 h
    refine lv_aload_n hx hb dX7_size_8 rfl (lv_at hl 0 rfl) ?_
    refine lv_iconst (v := 2) hx hb dX7_size_9 (by decide) ?_
    obtain ⟨r_14, S_15, hc_13, h⟩ := fb_bd2_s h
    refine fb_vi (wd := wF cI cZ b) (As := [.int 2]) (rest := []) cx hH mwX7_denied (ctX7_denied l D cI cZ b hc_13) (F_rc0 cx hH) mlX7_85 (by decide) rfl hl.1 (Nat.le_of_ble_eq_true rfl) rfl dX7_size_10 (fun H locs hH => ?_)
    obtain ⟨hn, h⟩ := fb_cb_s h
    obtain ⟨rfl, rfl⟩ := Prod.mk.inj (Option.some.inj h)
    exact fb_zret (wd := wF cI cZ b) cx rfl hH hn dX7_size_13
set_option maxHeartbeats 4000000 in
set_option maxRecDepth 100000 in
theorem ctX7_mixedAhead (l : Launch) (D : va_G) (cI cZ : ClassId) (b : Nat → Nat) {S : Sg} {x1 : Int32} {r : Int32} (h : pX7_mixedAhead S x1 = some r) : CTi l D cI cZ (wF cI cZ b) yX7_mixedAhead cX7_mixedAhead 3 (some .int) 1 [.ref (b 0), .int x1] S r S := by
  refine fb_starti (by decide) (Nat.le_of_ble_eq_true rfl) (fun p e s m args below meth c ls cx hH hl => ?_)
  obtain ⟨hx, hb, -⟩ := id cx
  have hl : lv_has ls 3 [(0, .ref (b 0)), (1, .int x1)] := hl
  unfold pX7_mixedAhead at h
  refine lv_aload_n hx hb dX7_mixedAhead_0 rfl (lv_at hl 0 rfl) ?_
  refine F_ro0_3 cx hH lkX7_31 dX7_mixedAhead_1 ?_
  obtain ⟨r_2, hc_1, h⟩ := fb_bd_s h
  refine fb_vi (wd := wF cI cZ b) (As := []) (rest := []) cx hH mwX0_lastKind (ctX0_lastKind l D cI cZ b hc_1) (F_rc4 cx hH) mlX7_247 (by decide) rfl hl.1 (Nat.le_of_ble_eq_true rfl) rfl dX7_mixedAhead_4 (fun H locs hH => ?_)
  obtain ⟨x2_3, ex2_3, h⟩ := fb_vl_s h
  refine fb_top ex2_3 ?_
  refine lv_istore_n (lv' := [(2, .int x2_3), (0, .ref (b 0)), (1, .int x1)]) hx hb dX7_mixedAhead_7 rfl hl (by decide) rfl (fun ls hl => ?_)
  refine lv_aload_n hx hb dX7_mixedAhead_8 rfl (lv_at hl 1 rfl) ?_
  refine F_ro0_0 cx hH lkX7_10 dX7_mixedAhead_9 ?_
  refine lv_iload_n hx hb dX7_mixedAhead_12 rfl (lv_at hl 0 rfl) ?_
  obtain ⟨r_5, hc_4, h⟩ := fb_bd_s h
  refine fb_vi (wd := wF cI cZ b) (As := [.int x2_3]) (rest := []) cx hH mwX3_has (ctX3_has l D cI cZ b hc_4) (F_rc1 cx hH) mlX7_81 (by decide) rfl hl.1 (Nat.le_of_ble_eq_true rfl) rfl dX7_mixedAhead_13 (fun H locs hH => ?_)
  refine lv_if_eq (tgt := 36) hx hb dX7_mixedAhead_16 (by decide) (fun c_6 => ?_) (fun c_6 => ?_)
  · replace h := fb_ip c_6 h
    refine lv_iconst (v := 0) hx hb dX7_mixedAhead_36 (by decide) ?_
    obtain rfl := Option.some.inj h
    exact fb_iret (wd := wF cI cZ b) cx rfl hH dX7_mixedAhead_37
  · replace h := fb_in c_6 h
    refine lv_iload_n hx hb dX7_mixedAhead_19 rfl (lv_at hl 0 rfl) ?_
    refine lv_iload_n hx hb dX7_mixedAhead_20 rfl (lv_at hl 2 rfl) ?_
    refine lv_icmp_eq (tgt := 36) hx hb dX7_mixedAhead_21 (by decide) (fun c_7 => ?_) (fun c_7 => ?_)
    · replace h := fb_ip c_7 h
      refine lv_iconst (v := 0) hx hb dX7_mixedAhead_36 (by decide) ?_
      obtain rfl := Option.some.inj h
      exact fb_iret (wd := wF cI cZ b) cx rfl hH dX7_mixedAhead_37
    · replace h := fb_in c_7 h
      refine lv_aload_n hx hb dX7_mixedAhead_24 rfl (lv_at hl 1 rfl) ?_
      refine F_ro0_0 cx hH lkX7_10 dX7_mixedAhead_25 ?_
      refine lv_iload_n hx hb dX7_mixedAhead_28 rfl (lv_at hl 0 rfl) ?_
      refine lv_iload_n hx hb dX7_mixedAhead_29 rfl (lv_at hl 2 rfl) ?_
      obtain ⟨r_9, hc_8, h⟩ := fb_bd_s h
      refine fb_vi (wd := wF cI cZ b) (As := [.int x2_3, .int x1]) (rest := []) cx hH mwX3_mixedBetween (ctX3_mixedBetween l D cI cZ b hc_8) (F_rc1 cx hH) mlX7_250 (by decide) rfl hl.1 (Nat.le_of_ble_eq_true rfl) rfl dX7_mixedAhead_30 (fun H locs hH => ?_)
      refine lv_goto (tgt := 37) hx hb dX7_mixedAhead_33 (by decide) ?_
      obtain rfl := Option.some.inj h
      exact fb_iret (wd := wF cI cZ b) cx rfl hH dX7_mixedAhead_37
set_option maxHeartbeats 4000000 in
set_option maxRecDepth 100000 in
theorem ctX7_pour (l : Launch) (D : va_G) (cI cZ : ClassId) (b : Nat → Nat) {S : Sg} {x1 x2 : Int32} {r : Int32} {S9 : Sg} (h : pX7_pour S x1 x2 = some (r, S9)) : CTi l D cI cZ (wF cI cZ b) yX7_pour cX7_pour 4 (some .int) 2 [.ref (b 0), .int x1, .int x2] S r S9 := by
  refine fb_starti (by decide) (Nat.le_of_ble_eq_true rfl) (fun p e s m args below meth c ls cx hH hl => ?_)
  obtain ⟨hx, hb, -⟩ := id cx
  have hl : lv_has ls 4 [(0, .ref (b 0)), (1, .int x1), (2, .int x2)] := hl
  unfold pX7_pour at h
  refine lv_aload_n hx hb dX7_pour_0 rfl (lv_at hl 0 rfl) ?_
  refine F_ro0_0 cx hH lkX7_10 dX7_pour_1 ?_
  refine lv_iload_n hx hb dX7_pour_4 rfl (lv_at hl 1 rfl) ?_
  obtain ⟨r_2, hc_1, h⟩ := fb_bd_s h
  refine fb_vi (wd := wF cI cZ b) (As := [.int x1]) (rest := []) cx hH mwX3_has (ctX3_has l D cI cZ b hc_1) (F_rc1 cx hH) mlX7_81 (by decide) rfl hl.1 (Nat.le_of_ble_eq_true rfl) rfl dX7_pour_5 (fun H locs hH => ?_)
  refine lv_if_ne (tgt := 17) hx hb dX7_pour_8 (by decide) (fun c_3 => ?_) (fun c_3 => ?_)
  · replace h := fb_in c_3 h
    refine lv_iload_n hx hb dX7_pour_17 rfl (lv_at hl 2 rfl) ?_
    refine lv_iconst (v := 1) hx hb dX7_pour_18 (by decide) ?_
    refine lv_sipush (v := 400) hx hb dX7_pour_19 (by decide) ?_
    obtain ⟨r_5, hc_4, h⟩ := fb_bd_s h
    refine fb_si (wd := wF cI cZ b) (As := [.int x2, .int 1, .int 400]) (rest := []) cx hH mwX7_within (ctX7_within l D cI cZ b hc_4) mlX7_63 (by decide) rfl hl.1 (Nat.le_of_ble_eq_true rfl) rfl dX7_pour_22 (fun H locs hH => ?_)
    refine lv_if_ne (tgt := 34) hx hb dX7_pour_25 (by decide) (fun c_6 => ?_) (fun c_6 => ?_)
    · replace h := fb_in c_6 h
      refine lv_aload_n hx hb dX7_pour_34 rfl (lv_at hl 0 rfl) ?_
      refine lv_iload_n hx hb dX7_pour_35 rfl (lv_at hl 1 rfl) ?_
      obtain ⟨r_8, hc_7, h⟩ := fb_bd_s h
      refine fb_vi (wd := wF cI cZ b) (As := [.int x1]) (rest := []) cx hH mwX7_mixedAhead (ctX7_mixedAhead l D cI cZ b hc_7) (F_rc0 cx hH) mlX7_119 (by decide) rfl hl.1 (Nat.le_of_ble_eq_true rfl) rfl dX7_pour_36 (fun H locs hH => ?_)
      obtain ⟨x3_9, ex3_9, h⟩ := fb_vl_s h
      refine fb_top ex3_9 ?_
      refine lv_istore_n (lv' := [(3, .int x3_9), (0, .ref (b 0)), (1, .int x1), (2, .int x2)]) hx hb dX7_pour_39 rfl hl (by decide) rfl (fun ls hl => ?_)
      refine lv_aload_n hx hb dX7_pour_40 rfl (lv_at hl 1 rfl) ?_
      refine F_ro0_3 cx hH lkX7_31 dX7_pour_41 ?_
      refine lv_iload_n hx hb dX7_pour_44 rfl (lv_at hl 2 rfl) ?_
      refine lv_iload_n hx hb dX7_pour_45 rfl (lv_at hl 0 rfl) ?_
      refine lv_iload_n hx hb dX7_pour_46 rfl (lv_at hl 3 rfl) ?_
      obtain ⟨r_11, hc_10, h⟩ := fb_bd_s h
      refine fb_vi (wd := wF cI cZ b) (As := [.int x1, .int x3_9, .int x2]) (rest := []) cx hH mwX0_hasRoom (ctX0_hasRoom l D cI cZ b hc_10) (F_rc4 cx hH) mlX7_122 (by decide) rfl hl.1 (Nat.le_of_ble_eq_true rfl) rfl dX7_pour_47 (fun H locs hH => ?_)
      refine lv_if_ne (tgt := 59) hx hb dX7_pour_50 (by decide) (fun c_12 => ?_) (fun c_12 => ?_)
      · replace h := fb_in c_12 h
        refine lv_aload_n hx hb dX7_pour_59 rfl (lv_at hl 1 rfl) ?_
        refine F_ro0_3 cx hH lkX7_31 dX7_pour_60 ?_
        refine lv_iload_n hx hb dX7_pour_63 rfl (lv_at hl 2 rfl) ?_
        refine lv_iload_n hx hb dX7_pour_64 rfl (lv_at hl 0 rfl) ?_
        refine lv_iload_n hx hb dX7_pour_65 rfl (lv_at hl 3 rfl) ?_
        obtain ⟨S_14, hc_13, h⟩ := fb_bd_s h
        refine fb_vv (wd := wF cI cZ b) (As := [.int x1, .int x3_9, .int x2]) (rest := []) cx hH mwX0_append (ctX0_append l D cI cZ b hc_13) (F_rc4 cx hH) mlX7_125 (by decide) rfl hl.1 (Nat.le_of_ble_eq_true rfl) rfl dX7_pour_66 (fun H locs hH => ?_)
        refine lv_aload_n hx hb dX7_pour_69 rfl (lv_at hl 1 rfl) ?_
        refine lv_aload_n hx hb dX7_pour_70 rfl (lv_at hl 1 rfl) ?_
        refine F_ro0_3 cx hH lkX7_31 dX7_pour_71 ?_
        refine F_g7 cx hH lkX7_128 dX7_pour_74 ?_
        obtain ⟨r_16, S_17, hc_15, h⟩ := fb_bd2_s h
        refine fb_vi (wd := wF cI cZ b) (As := [.int (S_14.1 7)]) (rest := []) cx hH mwX7_answered (ctX7_answered l D cI cZ b hc_15) (F_rc0 cx hH) mlX7_78 (by decide) rfl hl.1 (Nat.le_of_ble_eq_true rfl) rfl dX7_pour_77 (fun H locs hH => ?_)
        obtain ⟨rfl, rfl⟩ := Prod.mk.inj (Option.some.inj h)
        exact fb_iret (wd := wF cI cZ b) cx rfl hH dX7_pour_80
      · replace h := fb_ip c_12 h
        refine lv_aload_n hx hb dX7_pour_53 rfl (lv_at hl 1 rfl) ?_
        refine lv_iconst (v := 3) hx hb dX7_pour_54 (by decide) ?_
        obtain ⟨r_19, S_20, hc_18, h⟩ := fb_bd2_s h
        refine fb_vi (wd := wF cI cZ b) (As := [.int 3]) (rest := []) cx hH mwX7_refused (ctX7_refused l D cI cZ b hc_18) (F_rc0 cx hH) mlX7_67 (by decide) rfl hl.1 (Nat.le_of_ble_eq_true rfl) rfl dX7_pour_55 (fun H locs hH => ?_)
        obtain ⟨rfl, rfl⟩ := Prod.mk.inj (Option.some.inj h)
        exact fb_iret (wd := wF cI cZ b) cx rfl hH dX7_pour_58
    · replace h := fb_ip c_6 h
      refine lv_aload_n hx hb dX7_pour_28 rfl (lv_at hl 0 rfl) ?_
      refine lv_iconst (v := 2) hx hb dX7_pour_29 (by decide) ?_
      obtain ⟨r_22, S_23, hc_21, h⟩ := fb_bd2_s h
      refine fb_vi (wd := wF cI cZ b) (As := [.int 2]) (rest := []) cx hH mwX7_refused (ctX7_refused l D cI cZ b hc_21) (F_rc0 cx hH) mlX7_67 (by decide) rfl hl.1 (Nat.le_of_ble_eq_true rfl) rfl dX7_pour_30 (fun H locs hH => ?_)
      obtain ⟨rfl, rfl⟩ := Prod.mk.inj (Option.some.inj h)
      exact fb_iret (wd := wF cI cZ b) cx rfl hH dX7_pour_33
  · replace h := fb_ip c_3 h
    refine lv_aload_n hx hb dX7_pour_11 rfl (lv_at hl 0 rfl) ?_
    refine lv_iconst (v := 1) hx hb dX7_pour_12 (by decide) ?_
    obtain ⟨r_25, S_26, hc_24, h⟩ := fb_bd2_s h
    refine fb_vi (wd := wF cI cZ b) (As := [.int 1]) (rest := []) cx hH mwX7_refused (ctX7_refused l D cI cZ b hc_24) (F_rc0 cx hH) mlX7_67 (by decide) rfl hl.1 (Nat.le_of_ble_eq_true rfl) rfl dX7_pour_13 (fun H locs hH => ?_)
    obtain ⟨rfl, rfl⟩ := Prod.mk.inj (Option.some.inj h)
    exact fb_iret (wd := wF cI cZ b) cx rfl hH dX7_pour_16
set_option maxHeartbeats 4000000 in
set_option maxRecDepth 100000 in
theorem ctX7_run (l : Launch) (D : va_G) (cI cZ : ClassId) (b : Nat → Nat) {S : Sg} {x1 x2 : Int32} {r : Int32} (h : pX7_run S x1 x2 = some r) : CTi l D cI cZ (wF cI cZ b) yX7_run cX7_run 3 (some .int) 1 [.ref (b 0), .int x1, .int x2] S r S := by
  refine fb_starti (by decide) (Nat.le_of_ble_eq_true rfl) (fun p e s m args below meth c ls cx hH hl => ?_)
  obtain ⟨hx, hb, -⟩ := id cx
  have hl : lv_has ls 3 [(0, .ref (b 0)), (1, .int x1), (2, .int x2)] := hl
  unfold pX7_run at h
  refine lv_aload_n hx hb dX7_run_0 rfl (lv_at hl 0 rfl) ?_
  refine F_ro0_3 cx hH lkX7_31 dX7_run_1 ?_
  refine lv_iload_n hx hb dX7_run_4 rfl (lv_at hl 1 rfl) ?_
  obtain ⟨r_2, hc_1, h⟩ := fb_bd_s h
  refine fb_vi (wd := wF cI cZ b) (As := [.int x1]) (rest := []) cx hH mwX0_has (ctX0_has l D cI cZ b hc_1) (F_rc4 cx hH) mlX7_131 (by decide) rfl hl.1 (Nat.le_of_ble_eq_true rfl) rfl dX7_run_5 (fun H locs hH => ?_)
  refine lv_if_ne (tgt := 13) hx hb dX7_run_8 (by decide) (fun c_3 => ?_) (fun c_3 => ?_)
  · replace h := fb_in c_3 h
    refine lv_iload_n hx hb dX7_run_13 rfl (lv_at hl 2 rfl) ?_
    by_cases c_4 : x2 = 0
    · replace h := fb_ip c_4 h
      refine lv_tableIn (off := 26) (tgt := 40) hx hb dX7_run_14 (by rw [c_4]; decide) (by rw [c_4]; decide) (by rw [c_4]; decide) (by decide) ?_
      refine lv_aload_n hx hb dX7_run_40 rfl (lv_at hl 0 rfl) ?_
      refine F_ro0_3 cx hH lkX7_31 dX7_run_41 ?_
      refine F_ra15 cx hH lkX7_132 dX7_run_44 ?_
      refine lv_iload_n hx hb dX7_run_47 rfl (lv_at hl 1 rfl) ?_
      obtain ⟨hi_5, h⟩ := fb_ck_s h
      refine F_l15 cx hH hi_5 dX7_run_48 ?_
      obtain rfl := Option.some.inj h
      exact fb_iret (wd := wF cI cZ b) cx rfl hH dX7_run_49
    replace h := fb_in c_4 h
    by_cases c_6 : x2 = 1
    · replace h := fb_ip c_6 h
      refine lv_tableIn (off := 36) (tgt := 50) hx hb dX7_run_14 (by rw [c_6]; decide) (by rw [c_6]; decide) (by rw [c_6]; decide) (by decide) ?_
      refine lv_aload_n hx hb dX7_run_50 rfl (lv_at hl 0 rfl) ?_
      refine F_ro0_3 cx hH lkX7_31 dX7_run_51 ?_
      refine F_ra16 cx hH lkX7_135 dX7_run_54 ?_
      refine lv_iload_n hx hb dX7_run_57 rfl (lv_at hl 1 rfl) ?_
      obtain ⟨hi_7, h⟩ := fb_ck_s h
      refine F_l16 cx hH hi_7 dX7_run_58 ?_
      obtain rfl := Option.some.inj h
      exact fb_iret (wd := wF cI cZ b) cx rfl hH dX7_run_59
    replace h := fb_in c_6 h
    by_cases c_8 : x2 = 2
    · replace h := fb_ip c_8 h
      refine lv_tableIn (off := 46) (tgt := 60) hx hb dX7_run_14 (by rw [c_8]; decide) (by rw [c_8]; decide) (by rw [c_8]; decide) (by decide) ?_
      refine lv_aload_n hx hb dX7_run_60 rfl (lv_at hl 0 rfl) ?_
      refine F_ro0_3 cx hH lkX7_31 dX7_run_61 ?_
      refine F_ra17 cx hH lkX7_138 dX7_run_64 ?_
      refine lv_iload_n hx hb dX7_run_67 rfl (lv_at hl 1 rfl) ?_
      obtain ⟨hi_9, h⟩ := fb_ck_s h
      refine F_l17 cx hH hi_9 dX7_run_68 ?_
      obtain rfl := Option.some.inj h
      exact fb_iret (wd := wF cI cZ b) cx rfl hH dX7_run_69
    replace h := fb_in c_8 h
    have qc_4 := lv_neT c_4 (a := 0) (by decide)
    have qc_6 := lv_neT c_6 (a := 1) (by decide)
    have qc_8 := lv_neT c_8 (a := 2) (by decide)
    refine lv_tableOut (tgt := 70) hx hb dX7_run_14 (by omega) (by decide) ?_
    refine lv_iconst (v := (-1)) hx hb dX7_run_70 (by decide) ?_
    obtain rfl := Option.some.inj h
    exact fb_iret (wd := wF cI cZ b) cx rfl hH dX7_run_71
  · replace h := fb_ip c_3 h
    refine lv_iconst (v := (-1)) hx hb dX7_run_11 (by decide) ?_
    obtain rfl := Option.some.inj h
    exact fb_iret (wd := wF cI cZ b) cx rfl hH dX7_run_12
set_option maxHeartbeats 4000000 in
set_option maxRecDepth 100000 in
theorem ctX7_best (l : Launch) (D : va_G) (cI cZ : ClassId) (b : Nat → Nat) {S : Sg} {x1 x2 : Int32} {r : Int32} {S9 : Sg} (h : pX7_best S x1 x2 = some (r, S9)) : CTi l D cI cZ (wF cI cZ b) yX7_best cX7_best 3 (some .int) 4 [.ref (b 0), .int x1, .int x2] S r S9 := by
  refine fb_starti (by decide) (Nat.le_of_ble_eq_true rfl) (fun p e s m args below meth c ls cx hH hl => ?_)
  obtain ⟨hx, hb, -⟩ := id cx
  have hl : lv_has ls 3 [(0, .ref (b 0)), (1, .int x1), (2, .int x2)] := hl
  unfold pX7_best at h
  refine lv_aload_n hx hb dX7_best_0 rfl (lv_at hl 0 rfl) ?_
  refine F_ro0_0 cx hH lkX7_10 dX7_best_1 ?_
  refine lv_iload_n hx hb dX7_best_4 rfl (lv_at hl 1 rfl) ?_
  obtain ⟨r_2, hc_1, h⟩ := fb_bd_s h
  refine fb_vi (wd := wF cI cZ b) (As := [.int x1]) (rest := []) cx hH mwX3_has (ctX3_has l D cI cZ b hc_1) (F_rc1 cx hH) mlX7_81 (by decide) rfl hl.1 (Nat.le_of_ble_eq_true rfl) rfl dX7_best_5 (fun H locs hH => ?_)
  refine lv_if_ne (tgt := 17) hx hb dX7_best_8 (by decide) (fun c_3 => ?_) (fun c_3 => ?_)
  · replace h := fb_in c_3 h
    refine lv_iload_n hx hb dX7_best_17 rfl (lv_at hl 2 rfl) ?_
    refine lv_iconst (v := 0) hx hb dX7_best_18 (by decide) ?_
    refine lv_sipush (v := 2000) hx hb dX7_best_19 (by decide) ?_
    obtain ⟨r_5, hc_4, h⟩ := fb_bd_s h
    refine fb_si (wd := wF cI cZ b) (As := [.int x2, .int 0, .int 2000]) (rest := []) cx hH mwX7_within (ctX7_within l D cI cZ b hc_4) mlX7_63 (by decide) rfl hl.1 (Nat.le_of_ble_eq_true rfl) rfl dX7_best_22 (fun H locs hH => ?_)
    refine lv_if_ne (tgt := 34) hx hb dX7_best_25 (by decide) (fun c_6 => ?_) (fun c_6 => ?_)
    · replace h := fb_in c_6 h
      refine lv_aload_n hx hb dX7_best_34 rfl (lv_at hl 0 rfl) ?_
      refine lv_aload_n hx hb dX7_best_35 rfl (lv_at hl 0 rfl) ?_
      refine F_ro0_2 cx hH lkX7_19 dX7_best_36 ?_
      refine lv_iload_n hx hb dX7_best_39 rfl (lv_at hl 1 rfl) ?_
      refine lv_iload_n hx hb dX7_best_40 rfl (lv_at hl 2 rfl) ?_
      obtain ⟨r_8, S_9, hc_7, h⟩ := fb_bd2_s h
      refine fb_vi (wd := wF cI cZ b) (As := [.int x1, .int x2]) (rest := [.ref (b 0)]) cx hH mwX1_mostWorth (ctX1_mostWorth l D cI cZ b hc_7) (F_rc3 cx hH) mlX7_141 (by decide) rfl hl.1 (Nat.le_of_ble_eq_true rfl) rfl dX7_best_41 (fun H locs hH => ?_)
      obtain ⟨r_11, S_12, hc_10, h⟩ := fb_bd2_s h
      refine fb_vi (wd := wF cI cZ b) (As := [.int r_8]) (rest := []) cx hH mwX7_answered (ctX7_answered l D cI cZ b hc_10) (F_rc0 cx hH) mlX7_78 (by decide) rfl hl.1 (Nat.le_of_ble_eq_true rfl) rfl dX7_best_44 (fun H locs hH => ?_)
      obtain ⟨rfl, rfl⟩ := Prod.mk.inj (Option.some.inj h)
      exact fb_iret (wd := wF cI cZ b) cx rfl hH dX7_best_47
    · replace h := fb_ip c_6 h
      refine lv_aload_n hx hb dX7_best_28 rfl (lv_at hl 0 rfl) ?_
      refine lv_iconst (v := 2) hx hb dX7_best_29 (by decide) ?_
      obtain ⟨r_14, S_15, hc_13, h⟩ := fb_bd2_s h
      refine fb_vi (wd := wF cI cZ b) (As := [.int 2]) (rest := []) cx hH mwX7_refused (ctX7_refused l D cI cZ b hc_13) (F_rc0 cx hH) mlX7_67 (by decide) rfl hl.1 (Nat.le_of_ble_eq_true rfl) rfl dX7_best_30 (fun H locs hH => ?_)
      obtain ⟨rfl, rfl⟩ := Prod.mk.inj (Option.some.inj h)
      exact fb_iret (wd := wF cI cZ b) cx rfl hH dX7_best_33
  · replace h := fb_ip c_3 h
    refine lv_aload_n hx hb dX7_best_11 rfl (lv_at hl 0 rfl) ?_
    refine lv_iconst (v := 1) hx hb dX7_best_12 (by decide) ?_
    obtain ⟨r_17, S_18, hc_16, h⟩ := fb_bd2_s h
    refine fb_vi (wd := wF cI cZ b) (As := [.int 1]) (rest := []) cx hH mwX7_refused (ctX7_refused l D cI cZ b hc_16) (F_rc0 cx hH) mlX7_67 (by decide) rfl hl.1 (Nat.le_of_ble_eq_true rfl) rfl dX7_best_13 (fun H locs hH => ?_)
    obtain ⟨rfl, rfl⟩ := Prod.mk.inj (Option.some.inj h)
    exact fb_iret (wd := wF cI cZ b) cx rfl hH dX7_best_16
set_option maxHeartbeats 4000000 in
set_option maxRecDepth 100000 in
theorem ctX7_addPlanned (l : Launch) (D : va_G) (cI cZ : ClassId) (b : Nat → Nat) {S : Sg} {x1 x2 : Int32} {S9 : Sg} (h : pX7_addPlanned S x1 x2 = some S9) : CTv l D cI cZ (wF cI cZ b) yX7_addPlanned cX7_addPlanned 4 1 [.ref (b 0), .int x1, .int x2] S S9 := by
  refine fb_startv (by decide) (Nat.le_of_ble_eq_true rfl) (fun p e s m args below meth c ls cx hH hl => ?_)
  obtain ⟨hx, hb, -⟩ := id cx
  have hl : lv_has ls 4 [(0, .ref (b 0)), (1, .int x1), (2, .int x2)] := hl
  have hL2 : ∀ (n : Nat), ∀ (T : Sg) (x1 x2 x3 : Int32) (H : Heap) (locs : List Loc) (ls : Array Slot), pX7_addPlanned_l2 n T x1 x2 x3 = some S9 → HB D (wF cI cZ b S) (wF cI cZ b T) s H locs → lv_has ls 4 [(0, .ref (b 0)), (1, .int x1), (2, .int x2), (3, .int x3)] → W p l e (rmk 1) s m args below meth c H locs 0 0 (Ev D cI cZ (wF cI cZ b) S S9 below args s) (F0 m 2 ls []) := by
    intro n2
    induction n2 with
    | zero => intro T x1 x2 x3 H locs ls h hH hl; simp [pX7_addPlanned_l2] at h
    | succ n2 ih2 =>
      intro T x1 x2 x3 H locs ls h hH hl
      rw [pX7_addPlanned_l2] at h
      refine lv_iload_n hx hb dX7_addPlanned_2 rfl (lv_at hl 3 rfl) ?_
      refine lv_aload_n hx hb dX7_addPlanned_3 rfl (lv_at hl 0 rfl) ?_
      refine F_ro0_2 cx hH lkX7_19 dX7_addPlanned_4 ?_
      refine F_g4 cx hH lkX7_155 dX7_addPlanned_7 ?_
      refine lv_icmp_ge (tgt := 55) hx hb dX7_addPlanned_10 (by decide) (fun c_9 => ?_) (fun c_9 => ?_)
      · replace h := fb_ip c_9 h
        obtain rfl := Option.some.inj h
        exact fb_vret (wd := wF cI cZ b) cx hH dX7_addPlanned_55
      · replace h := fb_in c_9 h
        refine lv_aload_n hx hb dX7_addPlanned_13 rfl (lv_at hl 0 rfl) ?_
        refine F_ro0_4 cx hH lkX7_38 dX7_addPlanned_14 ?_
        refine lv_iload_n hx hb dX7_addPlanned_17 rfl (lv_at hl 1 rfl) ?_
        refine lv_aload_n hx hb dX7_addPlanned_18 rfl (lv_at hl 0 rfl) ?_
        refine F_ro0_0 cx hH lkX7_10 dX7_addPlanned_19 ?_
        refine F_ra8 cx hH lkX7_253 dX7_addPlanned_22 ?_
        refine lv_iload_n hx hb dX7_addPlanned_25 rfl (lv_at hl 1 rfl) ?_
        obtain ⟨hi_10, h⟩ := fb_ck_s h
        refine F_l8 cx hH hi_10 dX7_addPlanned_26 ?_
        refine lv_aload_n hx hb dX7_addPlanned_27 rfl (lv_at hl 0 rfl) ?_
        refine F_ro0_0 cx hH lkX7_10 dX7_addPlanned_28 ?_
        refine F_ra9 cx hH lkX7_256 dX7_addPlanned_31 ?_
        refine lv_iload_n hx hb dX7_addPlanned_34 rfl (lv_at hl 1 rfl) ?_
        obtain ⟨hi_11, h⟩ := fb_ck_s h
        refine F_l9 cx hH hi_11 dX7_addPlanned_35 ?_
        refine lv_aload_n hx hb dX7_addPlanned_36 rfl (lv_at hl 0 rfl) ?_
        refine F_ro0_2 cx hH lkX7_19 dX7_addPlanned_37 ?_
        refine F_ra14 cx hH lkX7_259 dX7_addPlanned_40 ?_
        refine lv_iload_n hx hb dX7_addPlanned_43 rfl (lv_at hl 3 rfl) ?_
        obtain ⟨hi_12, h⟩ := fb_ck_s h
        refine F_l14 cx hH hi_12 dX7_addPlanned_44 ?_
        refine lv_iload_n hx hb dX7_addPlanned_45 rfl (lv_at hl 2 rfl) ?_
        obtain ⟨S_14, hc_13, h⟩ := fb_bd_s h
        refine fb_vv (wd := wF cI cZ b) (As := [.int x1, .int (T.2 8 x1.toNatClampNeg), .int (T.2 9 x1.toNatClampNeg), .int (T.2 14 x3.toNatClampNeg), .int x2]) (rest := []) cx hH mwX6_add (ctX6_add l D cI cZ b hc_13) (F_rc5 cx hH) mlX7_260 (by decide) rfl hl.1 (Nat.le_of_ble_eq_true rfl) rfl dX7_addPlanned_46 (fun H locs hH => ?_)
        obtain ⟨x3_15, ex3_15, h⟩ := fb_vl_s h
        refine lv_iinc (v := x3_15) (lv' := [(3, .int x3_15), (0, .ref (b 0)), (1, .int x1), (2, .int x2)]) hx hb dX7_addPlanned_49 hl (k := 3) rfl (by rw [ex3_15]; rfl) (by decide) rfl (fun ls hl => ?_)
        refine lv_goto (tgt := 2) hx hb dX7_addPlanned_52 (by decide) ?_
        exact ih2 _ _ _ _ _ _ _ h hH (lv_sub hl [1, 2, 3, 0] rfl)
  unfold pX7_addPlanned at h
  refine lv_iconst (v := 0) hx hb dX7_addPlanned_0 (by decide) ?_
  obtain ⟨x3_8, ex3_8, h⟩ := fb_vl_s h
  refine fb_top ex3_8 ?_
  refine lv_istore_n (lv' := [(3, .int x3_8), (0, .ref (b 0)), (1, .int x1), (2, .int x2)]) hx hb dX7_addPlanned_1 rfl hl (by decide) rfl (fun ls hl => ?_)
  exact hL2 5000 _ _ _ _ _ _ _ h hH (lv_sub hl [1, 2, 3, 0] rfl)
set_option maxHeartbeats 4000000 in
set_option maxRecDepth 100000 in
theorem ctX7_cut (l : Launch) (D : va_G) (cI cZ : ClassId) (b : Nat → Nat) {S : Sg} {r : Int32} {S9 : Sg} (h : pX7_cut S = some (r, S9)) : CTi l D cI cZ (wF cI cZ b) yX7_cut cX7_cut 4 (some .int) 5 [.ref (b 0)] S r S9 := by
  refine fb_starti (by decide) (Nat.le_of_ble_eq_true rfl) (fun p e s m args below meth c ls cx hH hl => ?_)
  obtain ⟨hx, hb, -⟩ := id cx
  have hl : lv_has ls 4 [(0, .ref (b 0))] := hl
  unfold pX7_cut at h
  refine lv_aload_n hx hb dX7_cut_0 rfl (lv_at hl 0 rfl) ?_
  refine F_ro0_3 cx hH lkX7_31 dX7_cut_1 ?_
  refine F_g6 cx hH lkX7_144 dX7_cut_4 ?_
  refine lv_if_ne (tgt := 16) hx hb dX7_cut_7 (by decide) (fun c_1 => ?_) (fun c_1 => ?_)
  · replace h := fb_in c_1 h
    refine lv_aload_n hx hb dX7_cut_16 rfl (lv_at hl 0 rfl) ?_
    refine F_ro0_3 cx hH lkX7_31 dX7_cut_17 ?_
    refine F_ra15 cx hH lkX7_132 dX7_cut_20 ?_
    refine lv_iconst (v := 0) hx hb dX7_cut_23 (by decide) ?_
    obtain ⟨hi_2, h⟩ := fb_ck_s h
    refine F_l15 cx hH hi_2 dX7_cut_24 ?_
    obtain ⟨x1_3, ex1_3, h⟩ := fb_vl_s h
    refine fb_top ex1_3 ?_
    refine lv_istore_n (lv' := [(1, .int x1_3), (0, .ref (b 0))]) hx hb dX7_cut_25 rfl hl (by decide) rfl (fun ls hl => ?_)
    refine lv_aload_n hx hb dX7_cut_26 rfl (lv_at hl 1 rfl) ?_
    refine F_ro0_3 cx hH lkX7_31 dX7_cut_27 ?_
    refine F_ra16 cx hH lkX7_135 dX7_cut_30 ?_
    refine lv_iconst (v := 0) hx hb dX7_cut_33 (by decide) ?_
    obtain ⟨hi_4, h⟩ := fb_ck_s h
    refine F_l16 cx hH hi_4 dX7_cut_34 ?_
    obtain ⟨x2_5, ex2_5, h⟩ := fb_vl_s h
    refine fb_top ex2_5 ?_
    refine lv_istore_n (lv' := [(2, .int x2_5), (1, .int x1_3), (0, .ref (b 0))]) hx hb dX7_cut_35 rfl hl (by decide) rfl (fun ls hl => ?_)
    refine lv_iconst (v := 0) hx hb dX7_cut_36 (by decide) ?_
    obtain ⟨x3_6, ex3_6, h⟩ := fb_vl_s h
    refine fb_top ex3_6 ?_
    refine lv_istore_n (lv' := [(3, .int x3_6), (2, .int x2_5), (1, .int x1_3), (0, .ref (b 0))]) hx hb dX7_cut_37 rfl hl (by decide) rfl (fun ls hl => ?_)
    refine lv_iload_n hx hb dX7_cut_38 rfl (lv_at hl 2 rfl) ?_
    refine lv_bipush (v := (-2)) hx hb dX7_cut_39 (by decide) ?_
    refine lv_icmp_eq (tgt := 103) hx hb dX7_cut_41 (by decide) (fun c_7 => ?_) (fun c_7 => ?_)
    · replace h := fb_ip c_7 h
      refine lv_aload_n hx hb dX7_cut_103 rfl (lv_at hl 3 rfl) ?_
      refine lv_dup hx hb dX7_cut_104 rfl ?_
      refine F_g0 cx hH lkX7_56 dX7_cut_105 ?_
      refine lv_iload_n hx hb dX7_cut_108 rfl (lv_at hl 1 rfl) ?_
      refine lv_aload_n hx hb dX7_cut_109 rfl (lv_at hl 3 rfl) ?_
      refine F_ro0_5 cx hH lkX7_45 dX7_cut_110 ?_
      obtain ⟨r_9, hc_8, h⟩ := fb_bd_s h
      refine fb_vi (wd := wF cI cZ b) (As := []) (rest := [.int x2_5, .int (S.1 0), .ref (b 0)]) cx hH mwX2_area (ctX2_area l D cI cZ b hc_8) (F_rc6 cx hH) mlX7_156 (by decide) rfl hl.1 (Nat.le_of_ble_eq_true rfl) rfl dX7_cut_113 (fun H locs hH => ?_)
      refine lv_imul hx hb dX7_cut_116 ?_
      refine lv_bipush (v := 100) hx hb dX7_cut_117 (by decide) ?_
      obtain ⟨hi_10, h⟩ := fb_c0_s h
      refine lv_idiv hx hb dX7_cut_119 hi_10 ?_
      refine lv_iadd hx hb dX7_cut_120 ?_
      obtain ⟨S_11, eS_11, h⟩ := fb_st_s h
      refine F_p0 cx hH lkX7_56 dX7_cut_121 (fun H locs hH => ?_)
      rw [← eS_11] at hH
      refine lv_aload_n hx hb dX7_cut_124 rfl (lv_at hl 3 rfl) ?_
      refine F_ro0_3 cx hH lkX7_31 dX7_cut_125 ?_
      obtain ⟨S_13, hc_12, h⟩ := fb_bd_s h
      refine fb_vv (wd := wF cI cZ b) (As := []) (rest := []) cx hH mwX0_dropFirst (ctX0_dropFirst l D cI cZ b hc_12) (F_rc4 cx hH) mlX7_160 (by decide) rfl hl.1 (Nat.le_of_ble_eq_true rfl) rfl dX7_cut_128 (fun H locs hH => ?_)
      refine lv_aload_n hx hb dX7_cut_131 rfl (lv_at hl 3 rfl) ?_
      refine lv_iload_n hx hb dX7_cut_132 rfl (lv_at hl 0 rfl) ?_
      obtain ⟨r_15, S_16, hc_14, h⟩ := fb_bd2_s h
      refine fb_vi (wd := wF cI cZ b) (As := [.int x3_6]) (rest := []) cx hH mwX7_answered (ctX7_answered l D cI cZ b hc_14) (F_rc0 cx hH) mlX7_78 (by decide) rfl hl.1 (Nat.le_of_ble_eq_true rfl) rfl dX7_cut_133 (fun H locs hH => ?_)
      obtain ⟨rfl, rfl⟩ := Prod.mk.inj (Option.some.inj h)
      exact fb_iret (wd := wF cI cZ b) cx rfl hH dX7_cut_136
    · replace h := fb_in c_7 h
      refine lv_aload_n hx hb dX7_cut_44 rfl (lv_at hl 3 rfl) ?_
      refine F_ro0_2 cx hH lkX7_19 dX7_cut_45 ?_
      refine lv_iload_n hx hb dX7_cut_48 rfl (lv_at hl 2 rfl) ?_
      refine lv_iload_n hx hb dX7_cut_49 rfl (lv_at hl 1 rfl) ?_
      refine lv_sipush (v := 200) hx hb dX7_cut_50 (by decide) ?_
      refine lv_aload_n hx hb dX7_cut_53 rfl (lv_at hl 3 rfl) ?_
      refine F_ro0_4 cx hH lkX7_38 dX7_cut_54 ?_
      refine F_g9 cx hH lkX7_112 dX7_cut_57 ?_
      refine lv_isub hx hb dX7_cut_60 ?_
      obtain ⟨r_18, S_19, hc_17, h⟩ := fb_bd2_s h
      refine fb_vi (wd := wF cI cZ b) (As := [.int x1_3, .int x2_5, .int (200 - (S.1 9))]) (rest := []) cx hH mwX1_make (ctX1_make l D cI cZ b hc_17) (F_rc3 cx hH) mlX7_145 (by decide) rfl hl.1 (Nat.le_of_ble_eq_true rfl) rfl dX7_cut_61 (fun H locs hH => ?_)
      refine lv_if_ne (tgt := 73) hx hb dX7_cut_64 (by decide) (fun c_20 => ?_) (fun c_20 => ?_)
      · replace h := fb_in c_20 h
        refine lv_aload_n hx hb dX7_cut_73 rfl (lv_at hl 3 rfl) ?_
        refine lv_iload_n hx hb dX7_cut_74 rfl (lv_at hl 2 rfl) ?_
        refine lv_aload_n hx hb dX7_cut_75 rfl (lv_at hl 3 rfl) ?_
        refine F_ro0_3 cx hH lkX7_31 dX7_cut_76 ?_
        refine F_ra17 cx hH lkX7_138 dX7_cut_79 ?_
        refine lv_iconst (v := 0) hx hb dX7_cut_82 (by decide) ?_
        obtain ⟨hi_21, h⟩ := fb_ck_s h
        refine F_l17 cx hH hi_21 dX7_cut_83 ?_
        obtain ⟨S_23, hc_22, h⟩ := fb_bd_s h
        refine fb_vv (wd := wF cI cZ b) (As := [.int x1_3, .int (S_19.2 17 (0 : Int32).toNatClampNeg)]) (rest := []) cx hH mwX7_addPlanned (ctX7_addPlanned l D cI cZ b hc_22) (F_rc0 cx hH) mlX7_148 (by decide) rfl hl.1 (Nat.le_of_ble_eq_true rfl) rfl dX7_cut_84 (fun H locs hH => ?_)
        refine lv_aload_n hx hb dX7_cut_87 rfl (lv_at hl 3 rfl) ?_
        refine F_ro0_2 cx hH lkX7_19 dX7_cut_88 ?_
        refine F_g5 cx hH lkX7_152 dX7_cut_91 ?_
        obtain ⟨x2_24, ex2_24, h⟩ := fb_vl_s h
        refine fb_top ex2_24 ?_
        refine lv_istore_n (lv' := [(2, .int x2_24), (3, .int x3_6), (1, .int x1_3), (0, .ref (b 0))]) hx hb dX7_cut_94 rfl hl (by decide) rfl (fun ls hl => ?_)
        refine lv_aload_n hx hb dX7_cut_95 rfl (lv_at hl 3 rfl) ?_
        refine F_ro0_2 cx hH lkX7_19 dX7_cut_96 ?_
        refine F_g4 cx hH lkX7_155 dX7_cut_99 ?_
        obtain ⟨x3_25, ex3_25, h⟩ := fb_vl_s h
        refine fb_top ex3_25 ?_
        refine lv_istore_n (lv' := [(3, .int x3_25), (2, .int x2_24), (1, .int x1_3), (0, .ref (b 0))]) hx hb dX7_cut_102 rfl hl (by decide) rfl (fun ls hl => ?_)
        refine lv_aload_n hx hb dX7_cut_103 rfl (lv_at hl 3 rfl) ?_
        refine lv_dup hx hb dX7_cut_104 rfl ?_
        refine F_g0 cx hH lkX7_56 dX7_cut_105 ?_
        refine lv_iload_n hx hb dX7_cut_108 rfl (lv_at hl 1 rfl) ?_
        refine lv_aload_n hx hb dX7_cut_109 rfl (lv_at hl 3 rfl) ?_
        refine F_ro0_5 cx hH lkX7_45 dX7_cut_110 ?_
        obtain ⟨r_27, hc_26, h⟩ := fb_bd_s h
        refine fb_vi (wd := wF cI cZ b) (As := []) (rest := [.int x2_24, .int (S_23.1 0), .ref (b 0)]) cx hH mwX2_area (ctX2_area l D cI cZ b hc_26) (F_rc6 cx hH) mlX7_156 (by decide) rfl hl.1 (Nat.le_of_ble_eq_true rfl) rfl dX7_cut_113 (fun H locs hH => ?_)
        refine lv_imul hx hb dX7_cut_116 ?_
        refine lv_bipush (v := 100) hx hb dX7_cut_117 (by decide) ?_
        obtain ⟨hi_28, h⟩ := fb_c0_s h
        refine lv_idiv hx hb dX7_cut_119 hi_28 ?_
        refine lv_iadd hx hb dX7_cut_120 ?_
        obtain ⟨S_29, eS_29, h⟩ := fb_st_s h
        refine F_p0 cx hH lkX7_56 dX7_cut_121 (fun H locs hH => ?_)
        rw [← eS_29] at hH
        refine lv_aload_n hx hb dX7_cut_124 rfl (lv_at hl 3 rfl) ?_
        refine F_ro0_3 cx hH lkX7_31 dX7_cut_125 ?_
        obtain ⟨S_31, hc_30, h⟩ := fb_bd_s h
        refine fb_vv (wd := wF cI cZ b) (As := []) (rest := []) cx hH mwX0_dropFirst (ctX0_dropFirst l D cI cZ b hc_30) (F_rc4 cx hH) mlX7_160 (by decide) rfl hl.1 (Nat.le_of_ble_eq_true rfl) rfl dX7_cut_128 (fun H locs hH => ?_)
        refine lv_aload_n hx hb dX7_cut_131 rfl (lv_at hl 3 rfl) ?_
        refine lv_iload_n hx hb dX7_cut_132 rfl (lv_at hl 0 rfl) ?_
        obtain ⟨r_33, S_34, hc_32, h⟩ := fb_bd2_s h
        refine fb_vi (wd := wF cI cZ b) (As := [.int x3_25]) (rest := []) cx hH mwX7_answered (ctX7_answered l D cI cZ b hc_32) (F_rc0 cx hH) mlX7_78 (by decide) rfl hl.1 (Nat.le_of_ble_eq_true rfl) rfl dX7_cut_133 (fun H locs hH => ?_)
        obtain ⟨rfl, rfl⟩ := Prod.mk.inj (Option.some.inj h)
        exact fb_iret (wd := wF cI cZ b) cx rfl hH dX7_cut_136
      · replace h := fb_ip c_20 h
        refine lv_aload_n hx hb dX7_cut_67 rfl (lv_at hl 3 rfl) ?_
        refine lv_iconst (v := 3) hx hb dX7_cut_68 (by decide) ?_
        obtain ⟨r_36, S_37, hc_35, h⟩ := fb_bd2_s h
        refine fb_vi (wd := wF cI cZ b) (As := [.int 3]) (rest := []) cx hH mwX7_refused (ctX7_refused l D cI cZ b hc_35) (F_rc0 cx hH) mlX7_67 (by decide) rfl hl.1 (Nat.le_of_ble_eq_true rfl) rfl dX7_cut_69 (fun H locs hH => ?_)
        obtain ⟨rfl, rfl⟩ := Prod.mk.inj (Option.some.inj h)
        exact fb_iret (wd := wF cI cZ b) cx rfl hH dX7_cut_72
  · replace h := fb_ip c_1 h
    refine lv_aload_n hx hb dX7_cut_10 rfl (lv_at hl 0 rfl) ?_
    refine lv_iconst (v := 4) hx hb dX7_cut_11 (by decide) ?_
    obtain ⟨r_39, S_40, hc_38, h⟩ := fb_bd2_s h
    refine fb_vi (wd := wF cI cZ b) (As := [.int 4]) (rest := []) cx hH mwX7_refused (ctX7_refused l D cI cZ b hc_38) (F_rc0 cx hH) mlX7_67 (by decide) rfl hl.1 (Nat.le_of_ble_eq_true rfl) rfl dX7_cut_12 (fun H locs hH => ?_)
    obtain ⟨rfl, rfl⟩ := Prod.mk.inj (Option.some.inj h)
    exact fb_iret (wd := wF cI cZ b) cx rfl hH dX7_cut_15
set_option maxHeartbeats 4000000 in
set_option maxRecDepth 100000 in
theorem ctX7_block (l : Launch) (D : va_G) (cI cZ : ClassId) (b : Nat → Nat) {S : Sg} {x1 x2 : Int32} {r : Int32} (h : pX7_block S x1 x2 = some r) : CTi l D cI cZ (wF cI cZ b) yX7_block cX7_block 3 (some .int) 3 [.ref (b 0), .int x1, .int x2] S r S := by
  refine fb_starti (by decide) (Nat.le_of_ble_eq_true rfl) (fun p e s m args below meth c ls cx hH hl => ?_)
  obtain ⟨hx, hb, -⟩ := id cx
  have hl : lv_has ls 3 [(0, .ref (b 0)), (1, .int x1), (2, .int x2)] := hl
  unfold pX7_block at h
  refine lv_aload_n hx hb dX7_block_0 rfl (lv_at hl 0 rfl) ?_
  refine F_ro0_4 cx hH lkX7_38 dX7_block_1 ?_
  refine lv_iload_n hx hb dX7_block_4 rfl (lv_at hl 1 rfl) ?_
  obtain ⟨r_2, hc_1, h⟩ := fb_bd_s h
  refine fb_vi (wd := wF cI cZ b) (As := [.int x1]) (rest := []) cx hH mwX6_has (ctX6_has l D cI cZ b hc_1) (F_rc5 cx hH) mlX7_163 (by decide) rfl hl.1 (Nat.le_of_ble_eq_true rfl) rfl dX7_block_5 (fun H locs hH => ?_)
  refine lv_if_ne (tgt := 13) hx hb dX7_block_8 (by decide) (fun c_3 => ?_) (fun c_3 => ?_)
  · replace h := fb_in c_3 h
    refine lv_iload_n hx hb dX7_block_13 rfl (lv_at hl 2 rfl) ?_
    by_cases c_4 : x2 = 0
    · replace h := fb_ip c_4 h
      refine lv_tableIn (off := 46) (tgt := 60) hx hb dX7_block_14 (by rw [c_4]; decide) (by rw [c_4]; decide) (by rw [c_4]; decide) (by decide) ?_
      refine lv_aload_n hx hb dX7_block_60 rfl (lv_at hl 0 rfl) ?_
      refine F_ro0_4 cx hH lkX7_38 dX7_block_61 ?_
      refine lv_iload_n hx hb dX7_block_64 rfl (lv_at hl 1 rfl) ?_
      obtain ⟨r_6, hc_5, h⟩ := fb_bd_s h
      refine fb_vi (wd := wF cI cZ b) (As := [.int x1]) (rest := []) cx hH mwX6_state (ctX6_state l D cI cZ b hc_5) (F_rc5 cx hH) mlX7_164 (by decide) rfl hl.1 (Nat.le_of_ble_eq_true rfl) rfl dX7_block_65 (fun H locs hH => ?_)
      obtain rfl := Option.some.inj h
      exact fb_iret (wd := wF cI cZ b) cx rfl hH dX7_block_68
    replace h := fb_in c_4 h
    by_cases c_7 : x2 = 1
    · replace h := fb_ip c_7 h
      refine lv_tableIn (off := 55) (tgt := 69) hx hb dX7_block_14 (by rw [c_7]; decide) (by rw [c_7]; decide) (by rw [c_7]; decide) (by decide) ?_
      refine lv_aload_n hx hb dX7_block_69 rfl (lv_at hl 0 rfl) ?_
      refine F_ro0_4 cx hH lkX7_38 dX7_block_70 ?_
      refine F_ra18 cx hH lkX7_167 dX7_block_73 ?_
      refine lv_iload_n hx hb dX7_block_76 rfl (lv_at hl 1 rfl) ?_
      obtain ⟨hi_8, h⟩ := fb_ck_s h
      refine F_l18 cx hH hi_8 dX7_block_77 ?_
      obtain rfl := Option.some.inj h
      exact fb_iret (wd := wF cI cZ b) cx rfl hH dX7_block_78
    replace h := fb_in c_7 h
    by_cases c_9 : x2 = 2
    · replace h := fb_ip c_9 h
      refine lv_tableIn (off := 65) (tgt := 79) hx hb dX7_block_14 (by rw [c_9]; decide) (by rw [c_9]; decide) (by rw [c_9]; decide) (by decide) ?_
      refine lv_aload_n hx hb dX7_block_79 rfl (lv_at hl 0 rfl) ?_
      refine F_ro0_4 cx hH lkX7_38 dX7_block_80 ?_
      refine F_ra21 cx hH lkX7_168 dX7_block_83 ?_
      refine lv_iload_n hx hb dX7_block_86 rfl (lv_at hl 1 rfl) ?_
      obtain ⟨hi_10, h⟩ := fb_ck_s h
      refine F_l21 cx hH hi_10 dX7_block_87 ?_
      obtain rfl := Option.some.inj h
      exact fb_iret (wd := wF cI cZ b) cx rfl hH dX7_block_88
    replace h := fb_in c_9 h
    by_cases c_11 : x2 = 3
    · replace h := fb_ip c_11 h
      refine lv_tableIn (off := 75) (tgt := 89) hx hb dX7_block_14 (by rw [c_11]; decide) (by rw [c_11]; decide) (by rw [c_11]; decide) (by decide) ?_
      refine lv_aload_n hx hb dX7_block_89 rfl (lv_at hl 0 rfl) ?_
      refine F_ro0_4 cx hH lkX7_38 dX7_block_90 ?_
      refine F_ra22 cx hH lkX7_169 dX7_block_93 ?_
      refine lv_iload_n hx hb dX7_block_96 rfl (lv_at hl 1 rfl) ?_
      obtain ⟨hi_12, h⟩ := fb_ck_s h
      refine F_l22 cx hH hi_12 dX7_block_97 ?_
      obtain rfl := Option.some.inj h
      exact fb_iret (wd := wF cI cZ b) cx rfl hH dX7_block_98
    replace h := fb_in c_11 h
    by_cases c_13 : x2 = 4
    · replace h := fb_ip c_13 h
      refine lv_tableIn (off := 85) (tgt := 99) hx hb dX7_block_14 (by rw [c_13]; decide) (by rw [c_13]; decide) (by rw [c_13]; decide) (by decide) ?_
      refine lv_aload_n hx hb dX7_block_99 rfl (lv_at hl 0 rfl) ?_
      refine F_ro0_4 cx hH lkX7_38 dX7_block_100 ?_
      refine lv_iload_n hx hb dX7_block_103 rfl (lv_at hl 1 rfl) ?_
      obtain ⟨r_15, hc_14, h⟩ := fb_bd_s h
      refine fb_vi (wd := wF cI cZ b) (As := [.int x1]) (rest := []) cx hH mwX6_core (ctX6_core l D cI cZ b hc_14) (F_rc5 cx hH) mlX7_172 (by decide) rfl hl.1 (Nat.le_of_ble_eq_true rfl) rfl dX7_block_104 (fun H locs hH => ?_)
      obtain rfl := Option.some.inj h
      exact fb_iret (wd := wF cI cZ b) cx rfl hH dX7_block_107
    replace h := fb_in c_13 h
    by_cases c_16 : x2 = 5
    · replace h := fb_ip c_16 h
      refine lv_tableIn (off := 94) (tgt := 108) hx hb dX7_block_14 (by rw [c_16]; decide) (by rw [c_16]; decide) (by rw [c_16]; decide) (by decide) ?_
      refine lv_aload_n hx hb dX7_block_108 rfl (lv_at hl 0 rfl) ?_
      refine F_ro0_4 cx hH lkX7_38 dX7_block_109 ?_
      refine lv_iload_n hx hb dX7_block_112 rfl (lv_at hl 1 rfl) ?_
      obtain ⟨r_18, hc_17, h⟩ := fb_bd_s h
      refine fb_vi (wd := wF cI cZ b) (As := [.int x1]) (rest := []) cx hH mwX6_isCured (ctX6_isCured l D cI cZ b hc_17) (F_rc5 cx hH) mlX7_175 (by decide) rfl hl.1 (Nat.le_of_ble_eq_true rfl) rfl dX7_block_113 (fun H locs hH => ?_)
      refine lv_if_eq (tgt := 123) hx hb dX7_block_116 (by decide) (fun c_19 => ?_) (fun c_19 => ?_)
      · replace h := fb_ip c_19 h
        refine lv_iconst (v := 0) hx hb dX7_block_123 (by decide) ?_
        obtain rfl := Option.some.inj h
        exact fb_iret (wd := wF cI cZ b) cx rfl hH dX7_block_124
      · replace h := fb_in c_19 h
        refine lv_iconst (v := 1) hx hb dX7_block_119 (by decide) ?_
        refine lv_goto (tgt := 124) hx hb dX7_block_120 (by decide) ?_
        obtain rfl := Option.some.inj h
        exact fb_iret (wd := wF cI cZ b) cx rfl hH dX7_block_124
    replace h := fb_in c_16 h
    by_cases c_20 : x2 = 6
    · replace h := fb_ip c_20 h
      refine lv_tableIn (off := 111) (tgt := 125) hx hb dX7_block_14 (by rw [c_20]; decide) (by rw [c_20]; decide) (by rw [c_20]; decide) (by decide) ?_
      refine lv_aload_n hx hb dX7_block_125 rfl (lv_at hl 0 rfl) ?_
      refine F_ro0_4 cx hH lkX7_38 dX7_block_126 ?_
      refine F_ra25 cx hH lkX7_178 dX7_block_129 ?_
      refine lv_iload_n hx hb dX7_block_132 rfl (lv_at hl 1 rfl) ?_
      obtain ⟨hi_21, h⟩ := fb_ck_s h
      refine F_l25 cx hH hi_21 dX7_block_133 ?_
      obtain rfl := Option.some.inj h
      exact fb_iret (wd := wF cI cZ b) cx rfl hH dX7_block_134
    replace h := fb_in c_20 h
    by_cases c_22 : x2 = 7
    · replace h := fb_ip c_22 h
      refine lv_tableIn (off := 121) (tgt := 135) hx hb dX7_block_14 (by rw [c_22]; decide) (by rw [c_22]; decide) (by rw [c_22]; decide) (by decide) ?_
      refine lv_aload_n hx hb dX7_block_135 rfl (lv_at hl 0 rfl) ?_
      refine F_ro0_4 cx hH lkX7_38 dX7_block_136 ?_
      refine F_ra24 cx hH lkX7_181 dX7_block_139 ?_
      refine lv_iload_n hx hb dX7_block_142 rfl (lv_at hl 1 rfl) ?_
      obtain ⟨hi_23, h⟩ := fb_ck_s h
      refine F_l24 cx hH hi_23 dX7_block_143 ?_
      obtain rfl := Option.some.inj h
      exact fb_iret (wd := wF cI cZ b) cx rfl hH dX7_block_144
    replace h := fb_in c_22 h
    have qc_4 := lv_neT c_4 (a := 0) (by decide)
    have qc_7 := lv_neT c_7 (a := 1) (by decide)
    have qc_9 := lv_neT c_9 (a := 2) (by decide)
    have qc_11 := lv_neT c_11 (a := 3) (by decide)
    have qc_13 := lv_neT c_13 (a := 4) (by decide)
    have qc_16 := lv_neT c_16 (a := 5) (by decide)
    have qc_20 := lv_neT c_20 (a := 6) (by decide)
    have qc_22 := lv_neT c_22 (a := 7) (by decide)
    refine lv_tableOut (tgt := 145) hx hb dX7_block_14 (by omega) (by decide) ?_
    refine lv_iconst (v := (-1)) hx hb dX7_block_145 (by decide) ?_
    obtain rfl := Option.some.inj h
    exact fb_iret (wd := wF cI cZ b) cx rfl hH dX7_block_146
  · replace h := fb_ip c_3 h
    refine lv_iconst (v := (-1)) hx hb dX7_block_11 (by decide) ?_
    obtain rfl := Option.some.inj h
    exact fb_iret (wd := wF cI cZ b) cx rfl hH dX7_block_12
set_option maxHeartbeats 4000000 in
set_option maxRecDepth 100000 in
theorem ctX7_lay (l : Launch) (D : va_G) (cI cZ : ClassId) (b : Nat → Nat) {S : Sg} {r : Int32} {S9 : Sg} (h : pX7_lay S = some (r, S9)) : CTi l D cI cZ (wF cI cZ b) yX7_lay cX7_lay 1 (some .int) 6 [.ref (b 0)] S r S9 := by
  refine fb_starti (by decide) (Nat.le_of_ble_eq_true rfl) (fun p e s m args below meth c ls cx hH hl => ?_)
  obtain ⟨hx, hb, -⟩ := id cx
  have hl : lv_has ls 1 [(0, .ref (b 0))] := hl
  unfold pX7_lay at h
  refine lv_aload_n hx hb dX7_lay_0 rfl (lv_at hl 0 rfl) ?_
  refine F_ro0_4 cx hH lkX7_38 dX7_lay_1 ?_
  obtain ⟨r_2, S_3, hc_1, h⟩ := fb_bd2_s h
  refine fb_vi (wd := wF cI cZ b) (As := []) (rest := []) cx hH mwX6_layAll (ctX6_layAll l D cI cZ b hc_1) (F_rc5 cx hH) mlX7_184 (by decide) rfl hl.1 (Nat.le_of_ble_eq_true rfl) rfl dX7_lay_4 (fun H locs hH => ?_)
  obtain ⟨rfl, rfl⟩ := Prod.mk.inj (Option.some.inj h)
  exact fb_iret (wd := wF cI cZ b) cx rfl hH dX7_lay_7
set_option maxHeartbeats 4000000 in
set_option maxRecDepth 100000 in
theorem ctX7_place (l : Launch) (D : va_G) (cI cZ : ClassId) (b : Nat → Nat) {S : Sg} {x1 : Int32} {r : Int32} (h : pX7_place S x1 = some r) : CTi l D cI cZ (wF cI cZ b) yX7_place cX7_place 2 (some .int) 1 [.ref (b 0), .int x1] S r S := by
  refine fb_starti (by decide) (Nat.le_of_ble_eq_true rfl) (fun p e s m args below meth c ls cx hH hl => ?_)
  obtain ⟨hx, hb, -⟩ := id cx
  have hl : lv_has ls 2 [(0, .ref (b 0)), (1, .int x1)] := hl
  unfold pX7_place at h
  refine lv_iload_n hx hb dX7_place_0 rfl (lv_at hl 1 rfl) ?_
  refine lv_iconst (v := 0) hx hb dX7_place_1 (by decide) ?_
  refine lv_bipush (v := 23) hx hb dX7_place_2 (by decide) ?_
  obtain ⟨r_2, hc_1, h⟩ := fb_bd_s h
  refine fb_si (wd := wF cI cZ b) (As := [.int x1, .int 0, .int 23]) (rest := []) cx hH mwX7_within (ctX7_within l D cI cZ b hc_1) mlX7_63 (by decide) rfl hl.1 (Nat.le_of_ble_eq_true rfl) rfl dX7_place_4 (fun H locs hH => ?_)
  refine lv_if_eq (tgt := 22) hx hb dX7_place_7 (by decide) (fun c_3 => ?_) (fun c_3 => ?_)
  · replace h := fb_ip c_3 h
    refine lv_iconst (v := (-1)) hx hb dX7_place_22 (by decide) ?_
    obtain rfl := Option.some.inj h
    exact fb_iret (wd := wF cI cZ b) cx rfl hH dX7_place_23
  · replace h := fb_in c_3 h
    refine lv_aload_n hx hb dX7_place_10 rfl (lv_at hl 0 rfl) ?_
    refine F_ro0_4 cx hH lkX7_38 dX7_place_11 ?_
    refine F_ra27 cx hH lkX7_187 dX7_place_14 ?_
    refine lv_iload_n hx hb dX7_place_17 rfl (lv_at hl 1 rfl) ?_
    obtain ⟨hi_4, h⟩ := fb_ck_s h
    refine F_l27 cx hH hi_4 dX7_place_18 ?_
    refine lv_goto (tgt := 23) hx hb dX7_place_19 (by decide) ?_
    obtain rfl := Option.some.inj h
    exact fb_iret (wd := wF cI cZ b) cx rfl hH dX7_place_23
set_option maxHeartbeats 4000000 in
set_option maxRecDepth 100000 in
theorem ctX7_lift (l : Launch) (D : va_G) (cI cZ : ClassId) (b : Nat → Nat) {S : Sg} {x1 : Int32} {r : Int32} {S9 : Sg} (h : pX7_lift S x1 = some (r, S9)) : CTi l D cI cZ (wF cI cZ b) yX7_lift cX7_lift 2 (some .boolean) 1 [.ref (b 0), .int x1] S r S9 := by
  refine fb_starti (by decide) (Nat.le_of_ble_eq_true rfl) (fun p e s m args below meth c ls cx hH hl => ?_)
  obtain ⟨hx, hb, -⟩ := id cx
  have hl : lv_has ls 2 [(0, .ref (b 0)), (1, .int x1)] := hl
  unfold pX7_lift at h
  refine lv_aload_n hx hb dX7_lift_0 rfl (lv_at hl 0 rfl) ?_
  refine F_ro0_4 cx hH lkX7_38 dX7_lift_1 ?_
  refine lv_iload_n hx hb dX7_lift_4 rfl (lv_at hl 1 rfl) ?_
  obtain ⟨r_2, hc_1, h⟩ := fb_bd_s h
  refine fb_vi (wd := wF cI cZ b) (As := [.int x1]) (rest := []) cx hH mwX6_has (ctX6_has l D cI cZ b hc_1) (F_rc5 cx hH) mlX7_163 (by decide) rfl hl.1 (Nat.le_of_ble_eq_true rfl) rfl dX7_lift_5 (fun H locs hH => ?_)
  refine lv_if_ne (tgt := 17) hx hb dX7_lift_8 (by decide) (fun c_3 => ?_) (fun c_3 => ?_)
  · replace h := fb_in c_3 h
    refine lv_aload_n hx hb dX7_lift_17 rfl (lv_at hl 0 rfl) ?_
    refine F_ro0_4 cx hH lkX7_38 dX7_lift_18 ?_
    refine F_ra25 cx hH lkX7_178 dX7_lift_21 ?_
    refine lv_iload_n hx hb dX7_lift_24 rfl (lv_at hl 1 rfl) ?_
    obtain ⟨hi_4, h⟩ := fb_ck_s h
    refine F_l25 cx hH hi_4 dX7_lift_25 ?_
    refine lv_iconst (v := (-1)) hx hb dX7_lift_26 (by decide) ?_
    refine lv_icmp_ne (tgt := 36) hx hb dX7_lift_27 (by decide) (fun c_5 => ?_) (fun c_5 => ?_)
    · replace h := fb_in c_5 h
      refine lv_aload_n hx hb dX7_lift_36 rfl (lv_at hl 0 rfl) ?_
      refine F_ro0_4 cx hH lkX7_38 dX7_lift_37 ?_
      refine lv_iload_n hx hb dX7_lift_40 rfl (lv_at hl 1 rfl) ?_
      obtain ⟨S_7, hc_6, h⟩ := fb_bd_s h
      refine fb_vv (wd := wF cI cZ b) (As := [.int x1]) (rest := []) cx hH mwX6_takeOut (ctX6_takeOut l D cI cZ b hc_6) (F_rc5 cx hH) mlX7_190 (by decide) rfl hl.1 (Nat.le_of_ble_eq_true rfl) rfl dX7_lift_41 (fun H locs hH => ?_)
      refine lv_aload_n hx hb dX7_lift_44 rfl (lv_at hl 0 rfl) ?_
      obtain ⟨r_9, S_10, hc_8, h⟩ := fb_bd2_s h
      refine fb_vi (wd := wF cI cZ b) (As := []) (rest := []) cx hH mwX7_granted (ctX7_granted l D cI cZ b hc_8) (F_rc0 cx hH) mlX7_92 (by decide) rfl hl.1 (Nat.le_of_ble_eq_true rfl) rfl dX7_lift_45 (fun H locs hH => ?_)
      obtain ⟨hn, h⟩ := fb_cb_s h
      obtain ⟨rfl, rfl⟩ := Prod.mk.inj (Option.some.inj h)
      exact fb_zret (wd := wF cI cZ b) cx rfl hH hn dX7_lift_48
    · replace h := fb_ip c_5 h
      refine lv_aload_n hx hb dX7_lift_30 rfl (lv_at hl 0 rfl) ?_
      refine lv_iconst (v := 4) hx hb dX7_lift_31 (by decide) ?_
      obtain ⟨r_12, S_13, hc_11, h⟩ := fb_bd2_s h
      refine fb_vi (wd := wF cI cZ b) (As := [.int 4]) (rest := []) cx hH mwX7_denied (ctX7_denied l D cI cZ b hc_11) (F_rc0 cx hH) mlX7_85 (by decide) rfl hl.1 (Nat.le_of_ble_eq_true rfl) rfl dX7_lift_32 (fun H locs hH => ?_)
      obtain ⟨hn, h⟩ := fb_cb_s h
      obtain ⟨rfl, rfl⟩ := Prod.mk.inj (Option.some.inj h)
      exact fb_zret (wd := wF cI cZ b) cx rfl hH hn dX7_lift_35
  · replace h := fb_ip c_3 h
    refine lv_aload_n hx hb dX7_lift_11 rfl (lv_at hl 0 rfl) ?_
    refine lv_iconst (v := 1) hx hb dX7_lift_12 (by decide) ?_
    obtain ⟨r_15, S_16, hc_14, h⟩ := fb_bd2_s h
    refine fb_vi (wd := wF cI cZ b) (As := [.int 1]) (rest := []) cx hH mwX7_denied (ctX7_denied l D cI cZ b hc_14) (F_rc0 cx hH) mlX7_85 (by decide) rfl hl.1 (Nat.le_of_ble_eq_true rfl) rfl dX7_lift_13 (fun H locs hH => ?_)
    obtain ⟨hn, h⟩ := fb_cb_s h
    obtain ⟨rfl, rfl⟩ := Prod.mk.inj (Option.some.inj h)
    exact fb_zret (wd := wF cI cZ b) cx rfl hH hn dX7_lift_16
set_option maxHeartbeats 4000000 in
set_option maxRecDepth 100000 in
theorem ctX7_pass (l : Launch) (D : va_G) (cI cZ : ClassId) (b : Nat → Nat) {S : Sg} {x1 : Int32} {r : Int32} {S9 : Sg} (h : pX7_pass S x1 = some (r, S9)) : CTi l D cI cZ (wF cI cZ b) yX7_pass cX7_pass 2 (some .int) 1 [.ref (b 0), .int x1] S r S9 := by
  refine fb_starti (by decide) (Nat.le_of_ble_eq_true rfl) (fun p e s m args below meth c ls cx hH hl => ?_)
  obtain ⟨hx, hb, -⟩ := id cx
  have hl : lv_has ls 2 [(0, .ref (b 0)), (1, .int x1)] := hl
  unfold pX7_pass at h
  refine lv_iload_n hx hb dX7_pass_0 rfl (lv_at hl 1 rfl) ?_
  refine lv_iconst (v := 1) hx hb dX7_pass_1 (by decide) ?_
  refine lv_bipush (v := 100) hx hb dX7_pass_2 (by decide) ?_
  obtain ⟨r_2, hc_1, h⟩ := fb_bd_s h
  refine fb_si (wd := wF cI cZ b) (As := [.int x1, .int 1, .int 100]) (rest := []) cx hH mwX7_within (ctX7_within l D cI cZ b hc_1) mlX7_63 (by decide) rfl hl.1 (Nat.le_of_ble_eq_true rfl) rfl dX7_pass_4 (fun H locs hH => ?_)
  refine lv_if_eq (tgt := 25) hx hb dX7_pass_7 (by decide) (fun c_3 => ?_) (fun c_3 => ?_)
  · replace h := fb_ip c_3 h
    refine lv_aload_n hx hb dX7_pass_25 rfl (lv_at hl 0 rfl) ?_
    refine lv_iconst (v := 2) hx hb dX7_pass_26 (by decide) ?_
    obtain ⟨r_5, S_6, hc_4, h⟩ := fb_bd2_s h
    refine fb_vi (wd := wF cI cZ b) (As := [.int 2]) (rest := []) cx hH mwX7_refused (ctX7_refused l D cI cZ b hc_4) (F_rc0 cx hH) mlX7_67 (by decide) rfl hl.1 (Nat.le_of_ble_eq_true rfl) rfl dX7_pass_27 (fun H locs hH => ?_)
    obtain ⟨rfl, rfl⟩ := Prod.mk.inj (Option.some.inj h)
    exact fb_iret (wd := wF cI cZ b) cx rfl hH dX7_pass_30
  · replace h := fb_in c_3 h
    refine lv_aload_n hx hb dX7_pass_10 rfl (lv_at hl 0 rfl) ?_
    refine F_ro0_4 cx hH lkX7_38 dX7_pass_11 ?_
    refine F_g10 cx hH lkX7_194 dX7_pass_14 ?_
    refine lv_iload_n hx hb dX7_pass_17 rfl (lv_at hl 1 rfl) ?_
    refine lv_iadd hx hb dX7_pass_18 ?_
    refine lv_sipush (v := 3000) hx hb dX7_pass_19 (by decide) ?_
    refine lv_icmp_le (tgt := 31) hx hb dX7_pass_22 (by decide) (fun c_7 => ?_) (fun c_7 => ?_)
    · replace h := fb_ip c_7 h
      refine lv_aload_n hx hb dX7_pass_31 rfl (lv_at hl 0 rfl) ?_
      refine F_ro0_4 cx hH lkX7_38 dX7_pass_32 ?_
      refine lv_iload_n hx hb dX7_pass_35 rfl (lv_at hl 1 rfl) ?_
      obtain ⟨S_9, hc_8, h⟩ := fb_bd_s h
      refine fb_vv (wd := wF cI cZ b) (As := [.int x1]) (rest := []) cx hH mwX6_goOn (ctX6_goOn l D cI cZ b hc_8) (F_rc5 cx hH) mlX7_197 (by decide) rfl hl.1 (Nat.le_of_ble_eq_true rfl) rfl dX7_pass_36 (fun H locs hH => ?_)
      refine lv_aload_n hx hb dX7_pass_39 rfl (lv_at hl 0 rfl) ?_
      refine lv_aload_n hx hb dX7_pass_40 rfl (lv_at hl 0 rfl) ?_
      refine F_ro0_4 cx hH lkX7_38 dX7_pass_41 ?_
      refine F_g10 cx hH lkX7_194 dX7_pass_44 ?_
      obtain ⟨r_11, S_12, hc_10, h⟩ := fb_bd2_s h
      refine fb_vi (wd := wF cI cZ b) (As := [.int (S_9.1 10)]) (rest := []) cx hH mwX7_answered (ctX7_answered l D cI cZ b hc_10) (F_rc0 cx hH) mlX7_78 (by decide) rfl hl.1 (Nat.le_of_ble_eq_true rfl) rfl dX7_pass_47 (fun H locs hH => ?_)
      obtain ⟨rfl, rfl⟩ := Prod.mk.inj (Option.some.inj h)
      exact fb_iret (wd := wF cI cZ b) cx rfl hH dX7_pass_50
    · replace h := fb_in c_7 h
      refine lv_aload_n hx hb dX7_pass_25 rfl (lv_at hl 0 rfl) ?_
      refine lv_iconst (v := 2) hx hb dX7_pass_26 (by decide) ?_
      obtain ⟨r_14, S_15, hc_13, h⟩ := fb_bd2_s h
      refine fb_vi (wd := wF cI cZ b) (As := [.int 2]) (rest := []) cx hH mwX7_refused (ctX7_refused l D cI cZ b hc_13) (F_rc0 cx hH) mlX7_67 (by decide) rfl hl.1 (Nat.le_of_ble_eq_true rfl) rfl dX7_pass_27 (fun H locs hH => ?_)
      obtain ⟨rfl, rfl⟩ := Prod.mk.inj (Option.some.inj h)
      exact fb_iret (wd := wF cI cZ b) cx rfl hH dX7_pass_30
set_option maxHeartbeats 4000000 in
set_option maxRecDepth 100000 in
theorem ctX7_pieces (l : Launch) (D : va_G) (cI cZ : ClassId) (b : Nat → Nat) {S : Sg} {x1 x2 : Int32} {r : Int32} {S9 : Sg} (h : pX7_pieces S x1 x2 = some (r, S9)) : CTi l D cI cZ (wF cI cZ b) yX7_pieces cX7_pieces 3 (some .int) 3 [.ref (b 0), .int x1, .int x2] S r S9 := by
  refine fb_starti (by decide) (Nat.le_of_ble_eq_true rfl) (fun p e s m args below meth c ls cx hH hl => ?_)
  obtain ⟨hx, hb, -⟩ := id cx
  have hl : lv_has ls 3 [(0, .ref (b 0)), (1, .int x1), (2, .int x2)] := hl
  unfold pX7_pieces at h
  refine lv_iload_n hx hb dX7_pieces_0 rfl (lv_at hl 1 rfl) ?_
  refine lv_iload_n hx hb dX7_pieces_1 rfl (lv_at hl 2 rfl) ?_
  obtain ⟨r_2, hc_1, h⟩ := fb_bd_s h
  refine fb_si (wd := wF cI cZ b) (As := [.int x1, .int x2]) (rest := []) cx hH mwX7_isEnd (ctX7_isEnd l D cI cZ b hc_1) mlX7_108 (by decide) rfl hl.1 (Nat.le_of_ble_eq_true rfl) rfl dX7_pieces_2 (fun H locs hH => ?_)
  refine lv_if_ne (tgt := 14) hx hb dX7_pieces_5 (by decide) (fun c_3 => ?_) (fun c_3 => ?_)
  · replace h := fb_in c_3 h
    refine lv_aload_n hx hb dX7_pieces_14 rfl (lv_at hl 0 rfl) ?_
    refine lv_aload_n hx hb dX7_pieces_15 rfl (lv_at hl 0 rfl) ?_
    refine F_ro0_5 cx hH lkX7_45 dX7_pieces_16 ?_
    refine lv_iload_n hx hb dX7_pieces_19 rfl (lv_at hl 1 rfl) ?_
    refine lv_iload_n hx hb dX7_pieces_20 rfl (lv_at hl 2 rfl) ?_
    obtain ⟨r_5, S_6, hc_4, h⟩ := fb_bd2_s h
    refine fb_vi (wd := wF cI cZ b) (As := [.int x1, .int x2]) (rest := [.ref (b 0)]) cx hH mwX2_mostPieces (ctX2_mostPieces l D cI cZ b hc_4) (F_rc6 cx hH) mlX7_200 (by decide) rfl hl.1 (Nat.le_of_ble_eq_true rfl) rfl dX7_pieces_21 (fun H locs hH => ?_)
    obtain ⟨r_8, S_9, hc_7, h⟩ := fb_bd2_s h
    refine fb_vi (wd := wF cI cZ b) (As := [.int r_5]) (rest := []) cx hH mwX7_answered (ctX7_answered l D cI cZ b hc_7) (F_rc0 cx hH) mlX7_78 (by decide) rfl hl.1 (Nat.le_of_ble_eq_true rfl) rfl dX7_pieces_24 (fun H locs hH => ?_)
    obtain ⟨rfl, rfl⟩ := Prod.mk.inj (Option.some.inj h)
    exact fb_iret (wd := wF cI cZ b) cx rfl hH dX7_pieces_27
  · replace h := fb_ip c_3 h
    refine lv_aload_n hx hb dX7_pieces_8 rfl (lv_at hl 0 rfl) ?_
    refine lv_iconst (v := 2) hx hb dX7_pieces_9 (by decide) ?_
    obtain ⟨r_11, S_12, hc_10, h⟩ := fb_bd2_s h
    refine fb_vi (wd := wF cI cZ b) (As := [.int 2]) (rest := []) cx hH mwX7_refused (ctX7_refused l D cI cZ b hc_10) (F_rc0 cx hH) mlX7_67 (by decide) rfl hl.1 (Nat.le_of_ble_eq_true rfl) rfl dX7_pieces_10 (fun H locs hH => ?_)
    obtain ⟨rfl, rfl⟩ := Prod.mk.inj (Option.some.inj h)
    exact fb_iret (wd := wF cI cZ b) cx rfl hH dX7_pieces_13
set_option maxHeartbeats 4000000 in
set_option maxRecDepth 100000 in
theorem ctX7_order (l : Launch) (D : va_G) (cI cZ : ClassId) (b : Nat → Nat) {S : Sg} {x1 x2 x3 x4 x5 : Int32} {r : Int32} {S9 : Sg} (h : pX7_order S x1 x2 x3 x4 x5 = some (r, S9)) : CTi l D cI cZ (wF cI cZ b) yX7_order cX7_order 6 (some .int) 2 [.ref (b 0), .int x1, .int x2, .int x3, .int x4, .int x5] S r S9 := by
  refine fb_starti (by decide) (Nat.le_of_ble_eq_true rfl) (fun p e s m args below meth c ls cx hH hl => ?_)
  obtain ⟨hx, hb, -⟩ := id cx
  have hl : lv_has ls 6 [(0, .ref (b 0)), (1, .int x1), (2, .int x2), (3, .int x3), (4, .int x4), (5, .int x5)] := hl
  unfold pX7_order at h
  refine lv_aload_n hx hb dX7_order_0 rfl (lv_at hl 0 rfl) ?_
  refine F_ro0_0 cx hH lkX7_10 dX7_order_1 ?_
  refine lv_iload_n hx hb dX7_order_4 rfl (lv_at hl 1 rfl) ?_
  obtain ⟨r_2, hc_1, h⟩ := fb_bd_s h
  refine fb_vi (wd := wF cI cZ b) (As := [.int x1]) (rest := []) cx hH mwX3_has (ctX3_has l D cI cZ b hc_1) (F_rc1 cx hH) mlX7_81 (by decide) rfl hl.1 (Nat.le_of_ble_eq_true rfl) rfl dX7_order_5 (fun H locs hH => ?_)
  refine lv_if_eq (tgt := 22) hx hb dX7_order_8 (by decide) (fun c_3 => ?_) (fun c_3 => ?_)
  · replace h := fb_ip c_3 h
    refine lv_aload_n hx hb dX7_order_22 rfl (lv_at hl 0 rfl) ?_
    refine lv_iconst (v := 1) hx hb dX7_order_23 (by decide) ?_
    obtain ⟨r_5, S_6, hc_4, h⟩ := fb_bd2_s h
    refine fb_vi (wd := wF cI cZ b) (As := [.int 1]) (rest := []) cx hH mwX7_refused (ctX7_refused l D cI cZ b hc_4) (F_rc0 cx hH) mlX7_67 (by decide) rfl hl.1 (Nat.le_of_ble_eq_true rfl) rfl dX7_order_24 (fun H locs hH => ?_)
    obtain ⟨rfl, rfl⟩ := Prod.mk.inj (Option.some.inj h)
    exact fb_iret (wd := wF cI cZ b) cx rfl hH dX7_order_27
  · replace h := fb_in c_3 h
    refine lv_aload_n hx hb dX7_order_11 rfl (lv_at hl 0 rfl) ?_
    refine F_ro0_1 cx hH lkX7_27 dX7_order_12 ?_
    refine lv_iload_n hx hb dX7_order_15 rfl (lv_at hl 2 rfl) ?_
    obtain ⟨r_8, hc_7, h⟩ := fb_bd_s h
    refine fb_vi (wd := wF cI cZ b) (As := [.int x2]) (rest := []) cx hH mwX4_has (ctX4_has l D cI cZ b hc_7) (F_rc2 cx hH) mlX7_104 (by decide) rfl hl.1 (Nat.le_of_ble_eq_true rfl) rfl dX7_order_16 (fun H locs hH => ?_)
    refine lv_if_ne (tgt := 28) hx hb dX7_order_19 (by decide) (fun c_9 => ?_) (fun c_9 => ?_)
    · replace h := fb_in c_9 h
      refine lv_iload_n hx hb dX7_order_28 rfl (lv_at hl 3 rfl) ?_
      refine lv_iload hx hb dX7_order_29 (lv_at hl 4 rfl) ?_
      obtain ⟨r_11, hc_10, h⟩ := fb_bd_s h
      refine fb_si (wd := wF cI cZ b) (As := [.int x3, .int x4]) (rest := []) cx hH mwX7_isEnd (ctX7_isEnd l D cI cZ b hc_10) mlX7_108 (by decide) rfl hl.1 (Nat.le_of_ble_eq_true rfl) rfl dX7_order_31 (fun H locs hH => ?_)
      refine lv_if_eq (tgt := 49) hx hb dX7_order_34 (by decide) (fun c_12 => ?_) (fun c_12 => ?_)
      · replace h := fb_ip c_12 h
        refine lv_aload_n hx hb dX7_order_49 rfl (lv_at hl 0 rfl) ?_
        refine lv_iconst (v := 2) hx hb dX7_order_50 (by decide) ?_
        obtain ⟨r_14, S_15, hc_13, h⟩ := fb_bd2_s h
        refine fb_vi (wd := wF cI cZ b) (As := [.int 2]) (rest := []) cx hH mwX7_refused (ctX7_refused l D cI cZ b hc_13) (F_rc0 cx hH) mlX7_67 (by decide) rfl hl.1 (Nat.le_of_ble_eq_true rfl) rfl dX7_order_51 (fun H locs hH => ?_)
        obtain ⟨rfl, rfl⟩ := Prod.mk.inj (Option.some.inj h)
        exact fb_iret (wd := wF cI cZ b) cx rfl hH dX7_order_54
      · replace h := fb_in c_12 h
        refine lv_iload hx hb dX7_order_37 (lv_at hl 5 rfl) ?_
        refine lv_iconst (v := 1) hx hb dX7_order_39 (by decide) ?_
        refine lv_sipush (v := 500) hx hb dX7_order_40 (by decide) ?_
        obtain ⟨r_17, hc_16, h⟩ := fb_bd_s h
        refine fb_si (wd := wF cI cZ b) (As := [.int x5, .int 1, .int 500]) (rest := []) cx hH mwX7_within (ctX7_within l D cI cZ b hc_16) mlX7_63 (by decide) rfl hl.1 (Nat.le_of_ble_eq_true rfl) rfl dX7_order_43 (fun H locs hH => ?_)
        refine lv_if_ne (tgt := 55) hx hb dX7_order_46 (by decide) (fun c_18 => ?_) (fun c_18 => ?_)
        · replace h := fb_in c_18 h
          refine lv_aload_n hx hb dX7_order_55 rfl (lv_at hl 0 rfl) ?_
          refine F_ro0_6 cx hH lkX7_52 dX7_order_56 ?_
          refine F_g14 cx hH lkX7_203 dX7_order_59 ?_
          refine lv_bipush (v := 40) hx hb dX7_order_62 (by decide) ?_
          refine lv_icmp_lt (tgt := 73) hx hb dX7_order_64 (by decide) (fun c_19 => ?_) (fun c_19 => ?_)
          · replace h := fb_ip c_19 h
            refine lv_aload_n hx hb dX7_order_73 rfl (lv_at hl 0 rfl) ?_
            refine lv_aload_n hx hb dX7_order_74 rfl (lv_at hl 0 rfl) ?_
            refine F_ro0_6 cx hH lkX7_52 dX7_order_75 ?_
            refine lv_iload_n hx hb dX7_order_78 rfl (lv_at hl 1 rfl) ?_
            refine lv_aload_n hx hb dX7_order_79 rfl (lv_at hl 0 rfl) ?_
            refine F_ro0_1 cx hH lkX7_27 dX7_order_80 ?_
            refine F_ra11 cx hH lkX7_204 dX7_order_83 ?_
            refine lv_iload_n hx hb dX7_order_86 rfl (lv_at hl 2 rfl) ?_
            obtain ⟨hi_20, h⟩ := fb_ck_s h
            refine F_l11 cx hH hi_20 dX7_order_87 ?_
            refine lv_iload_n hx hb dX7_order_88 rfl (lv_at hl 3 rfl) ?_
            refine lv_iload hx hb dX7_order_89 (lv_at hl 4 rfl) ?_
            refine lv_iload hx hb dX7_order_91 (lv_at hl 5 rfl) ?_
            obtain ⟨r_22, S_23, hc_21, h⟩ := fb_bd2_s h
            refine fb_vi (wd := wF cI cZ b) (As := [.int x1, .int (S.2 11 x2.toNatClampNeg), .int x3, .int x4, .int x5]) (rest := [.ref (b 0)]) cx hH mwX5_add (ctX5_add l D cI cZ b hc_21) (F_rc7 cx hH) mlX7_205 (by decide) rfl hl.1 (Nat.le_of_ble_eq_true rfl) rfl dX7_order_93 (fun H locs hH => ?_)
            obtain ⟨r_25, S_26, hc_24, h⟩ := fb_bd2_s h
            refine fb_vi (wd := wF cI cZ b) (As := [.int r_22]) (rest := []) cx hH mwX7_answered (ctX7_answered l D cI cZ b hc_24) (F_rc0 cx hH) mlX7_78 (by decide) rfl hl.1 (Nat.le_of_ble_eq_true rfl) rfl dX7_order_96 (fun H locs hH => ?_)
            obtain ⟨rfl, rfl⟩ := Prod.mk.inj (Option.some.inj h)
            exact fb_iret (wd := wF cI cZ b) cx rfl hH dX7_order_99
          · replace h := fb_in c_19 h
            refine lv_aload_n hx hb dX7_order_67 rfl (lv_at hl 0 rfl) ?_
            refine lv_iconst (v := 3) hx hb dX7_order_68 (by decide) ?_
            obtain ⟨r_28, S_29, hc_27, h⟩ := fb_bd2_s h
            refine fb_vi (wd := wF cI cZ b) (As := [.int 3]) (rest := []) cx hH mwX7_refused (ctX7_refused l D cI cZ b hc_27) (F_rc0 cx hH) mlX7_67 (by decide) rfl hl.1 (Nat.le_of_ble_eq_true rfl) rfl dX7_order_69 (fun H locs hH => ?_)
            obtain ⟨rfl, rfl⟩ := Prod.mk.inj (Option.some.inj h)
            exact fb_iret (wd := wF cI cZ b) cx rfl hH dX7_order_72
        · replace h := fb_ip c_18 h
          refine lv_aload_n hx hb dX7_order_49 rfl (lv_at hl 0 rfl) ?_
          refine lv_iconst (v := 2) hx hb dX7_order_50 (by decide) ?_
          obtain ⟨r_31, S_32, hc_30, h⟩ := fb_bd2_s h
          refine fb_vi (wd := wF cI cZ b) (As := [.int 2]) (rest := []) cx hH mwX7_refused (ctX7_refused l D cI cZ b hc_30) (F_rc0 cx hH) mlX7_67 (by decide) rfl hl.1 (Nat.le_of_ble_eq_true rfl) rfl dX7_order_51 (fun H locs hH => ?_)
          obtain ⟨rfl, rfl⟩ := Prod.mk.inj (Option.some.inj h)
          exact fb_iret (wd := wF cI cZ b) cx rfl hH dX7_order_54
    · replace h := fb_ip c_9 h
      refine lv_aload_n hx hb dX7_order_22 rfl (lv_at hl 0 rfl) ?_
      refine lv_iconst (v := 1) hx hb dX7_order_23 (by decide) ?_
      obtain ⟨r_34, S_35, hc_33, h⟩ := fb_bd2_s h
      refine fb_vi (wd := wF cI cZ b) (As := [.int 1]) (rest := []) cx hH mwX7_refused (ctX7_refused l D cI cZ b hc_33) (F_rc0 cx hH) mlX7_67 (by decide) rfl hl.1 (Nat.le_of_ble_eq_true rfl) rfl dX7_order_24 (fun H locs hH => ?_)
      obtain ⟨rfl, rfl⟩ := Prod.mk.inj (Option.some.inj h)
      exact fb_iret (wd := wF cI cZ b) cx rfl hH dX7_order_27
set_option maxHeartbeats 4000000 in
set_option maxRecDepth 100000 in
theorem ctX7_takeBlocks (l : Launch) (D : va_G) (cI cZ : ClassId) (b : Nat → Nat) {S : Sg} {x1 x2 : Int32} {S9 : Sg} (h : pX7_takeBlocks S x1 x2 = some S9) : CTv l D cI cZ (wF cI cZ b) yX7_takeBlocks cX7_takeBlocks 8 5 [.ref (b 0), .int x1, .int x2] S S9 := by
  refine fb_startv (by decide) (Nat.le_of_ble_eq_true rfl) (fun p e s m args below meth c ls cx hH hl => ?_)
  obtain ⟨hx, hb, -⟩ := id cx
  have hl : lv_has ls 8 [(0, .ref (b 0)), (1, .int x1), (2, .int x2)] := hl
  have hL42 : ∀ (n : Nat), ∀ (T : Sg) (x1 x2 x3 x4 x5 : Int32) (H : Heap) (locs : List Loc) (ls : Array Slot), pX7_takeBlocks_l42 n T x1 x2 x3 x4 x5 = some S9 → HB D (wF cI cZ b S) (wF cI cZ b T) s H locs → lv_has ls 8 [(0, .ref (b 0)), (1, .int x1), (2, .int x2), (3, .int x3), (4, .int x4), (5, .int x5)] → W p l e (rmk 5) s m args below meth c H locs 0 0 (Ev D cI cZ (wF cI cZ b) S S9 below args s) (F0 m 42 ls []) := by
    intro n42
    induction n42 with
    | zero => intro T x1 x2 x3 x4 x5 H locs ls h hH hl; simp [pX7_takeBlocks_l42] at h
    | succ n42 ih42 =>
      intro T x1 x2 x3 x4 x5 H locs ls h hH hl
      rw [pX7_takeBlocks_l42] at h
      refine lv_iload hx hb dX7_takeBlocks_42 (lv_at hl 5 rfl) ?_
      refine lv_sipush (v := 200) hx hb dX7_takeBlocks_44 (by decide) ?_
      refine lv_icmp_ge (tgt := 168) hx hb dX7_takeBlocks_47 (by decide) (fun c_29 => ?_) (fun c_29 => ?_)
      · replace h := fb_ip c_29 h
        obtain rfl := Option.some.inj h
        exact fb_vret (wd := wF cI cZ b) cx hH dX7_takeBlocks_168
      · replace h := fb_in c_29 h
        refine lv_iload hx hb dX7_takeBlocks_50 (lv_at hl 4 rfl) ?_
        refine lv_if_le (tgt := 168) hx hb dX7_takeBlocks_52 (by decide) (fun c_30 => ?_) (fun c_30 => ?_)
        · replace h := fb_ip c_30 h
          obtain rfl := Option.some.inj h
          exact fb_vret (wd := wF cI cZ b) cx hH dX7_takeBlocks_168
        · replace h := fb_in c_30 h
          refine lv_aload_n hx hb dX7_takeBlocks_55 rfl (lv_at hl 0 rfl) ?_
          refine F_ro0_4 cx hH lkX7_38 dX7_takeBlocks_56 ?_
          refine lv_aload_n hx hb dX7_takeBlocks_59 rfl (lv_at hl 0 rfl) ?_
          refine F_ro0_6 cx hH lkX7_52 dX7_takeBlocks_60 ?_
          refine F_ra30 cx hH lkX7_216 dX7_takeBlocks_63 ?_
          refine lv_iload_n hx hb dX7_takeBlocks_66 rfl (lv_at hl 1 rfl) ?_
          obtain ⟨hi_31, h⟩ := fb_ck_s h
          refine F_l30 cx hH hi_31 dX7_takeBlocks_67 ?_
          refine lv_aload_n hx hb dX7_takeBlocks_68 rfl (lv_at hl 0 rfl) ?_
          refine F_ro0_6 cx hH lkX7_52 dX7_takeBlocks_69 ?_
          refine F_ra31 cx hH lkX7_217 dX7_takeBlocks_72 ?_
          refine lv_iload_n hx hb dX7_takeBlocks_75 rfl (lv_at hl 1 rfl) ?_
          obtain ⟨hi_32, h⟩ := fb_ck_s h
          refine F_l31 cx hH hi_32 dX7_takeBlocks_76 ?_
          obtain ⟨r_34, hc_33, h⟩ := fb_bd_s h
          refine fb_vi (wd := wF cI cZ b) (As := [.int (T.2 30 x1.toNatClampNeg), .int (T.2 31 x1.toNatClampNeg)]) (rest := []) cx hH mwX6_longestCured (ctX6_longestCured l D cI cZ b hc_33) (F_rc5 cx hH) mlX7_266 (by decide) rfl hl.1 (Nat.le_of_ble_eq_true rfl) rfl dX7_takeBlocks_77 (fun H locs hH => ?_)
          obtain ⟨x6_35, ex6_35, h⟩ := fb_vl_s h
          refine fb_top ex6_35 ?_
          refine lv_istore (lv' := [(6, .int x6_35), (0, .ref (b 0)), (1, .int x1), (2, .int x2), (3, .int x3), (4, .int x4), (5, .int x5)]) hx hb dX7_takeBlocks_80 hl (by decide) rfl (fun ls hl => ?_)
          refine lv_iload hx hb dX7_takeBlocks_82 (lv_at hl 0 rfl) ?_
          refine lv_iconst (v := (-1)) hx hb dX7_takeBlocks_84 (by decide) ?_
          refine lv_icmp_ne (tgt := 91) hx hb dX7_takeBlocks_85 (by decide) (fun c_36 => ?_) (fun c_36 => ?_)
          · replace h := fb_in c_36 h
            refine lv_iload_n hx hb dX7_takeBlocks_91 rfl (lv_at hl 3 rfl) ?_
            refine lv_iload hx hb dX7_takeBlocks_92 (lv_at hl 5 rfl) ?_
            refine fb_min cx hl.1 mlX7_269 ⟨Nat.le_of_ble_eq_true rfl, Nat.le_of_ble_eq_true rfl⟩ dX7_takeBlocks_94 ?_
            obtain ⟨x7_37, ex7_37, h⟩ := fb_vl_s h
            refine fb_top ex7_37 ?_
            refine lv_istore (lv' := [(7, .int x7_37), (6, .int x6_35), (0, .ref (b 0)), (1, .int x1), (2, .int x2), (3, .int x3), (4, .int x4), (5, .int x5)]) hx hb dX7_takeBlocks_97 hl (by decide) rfl (fun ls hl => ?_)
            refine lv_aload_n hx hb dX7_takeBlocks_99 rfl (lv_at hl 2 rfl) ?_
            refine F_ro0_4 cx hH lkX7_38 dX7_takeBlocks_100 ?_
            refine lv_iload hx hb dX7_takeBlocks_103 (lv_at hl 1 rfl) ?_
            refine lv_iload hx hb dX7_takeBlocks_105 (lv_at hl 0 rfl) ?_
            obtain ⟨S_39, hc_38, h⟩ := fb_bd_s h
            refine fb_vv (wd := wF cI cZ b) (As := [.int x6_35, .int x7_37]) (rest := []) cx hH mwX6_use (ctX6_use l D cI cZ b hc_38) (F_rc5 cx hH) mlX7_274 (by decide) rfl hl.1 (Nat.le_of_ble_eq_true rfl) rfl dX7_takeBlocks_107 (fun H locs hH => ?_)
            refine lv_aload_n hx hb dX7_takeBlocks_110 rfl (lv_at hl 2 rfl) ?_
            refine F_ro0_6 cx hH lkX7_52 dX7_takeBlocks_111 ?_
            refine lv_iload_n hx hb dX7_takeBlocks_114 rfl (lv_at hl 3 rfl) ?_
            refine lv_iload hx hb dX7_takeBlocks_115 (lv_at hl 1 rfl) ?_
            obtain ⟨S_41, hc_40, h⟩ := fb_bd_s h
            refine fb_vv (wd := wF cI cZ b) (As := [.int x1, .int x6_35]) (rest := []) cx hH mwX5_take (ctX5_take l D cI cZ b hc_40) (F_rc7 cx hH) mlX7_277 (by decide) rfl hl.1 (Nat.le_of_ble_eq_true rfl) rfl dX7_takeBlocks_117 (fun H locs hH => ?_)
            refine lv_aload_n hx hb dX7_takeBlocks_120 rfl (lv_at hl 2 rfl) ?_
            refine lv_dup hx hb dX7_takeBlocks_121 rfl ?_
            refine F_g0 cx hH lkX7_56 dX7_takeBlocks_122 ?_
            refine lv_aload_n hx hb dX7_takeBlocks_125 rfl (lv_at hl 2 rfl) ?_
            refine F_ro0_5 cx hH lkX7_45 dX7_takeBlocks_126 ?_
            obtain ⟨r_43, hc_42, h⟩ := fb_bd_s h
            refine fb_vi (wd := wF cI cZ b) (As := []) (rest := [.int (S_41.1 0), .ref (b 0)]) cx hH mwX2_area (ctX2_area l D cI cZ b hc_42) (F_rc6 cx hH) mlX7_156 (by decide) rfl hl.1 (Nat.le_of_ble_eq_true rfl) rfl dX7_takeBlocks_129 (fun H locs hH => ?_)
            refine lv_iload_n hx hb dX7_takeBlocks_132 rfl (lv_at hl 5 rfl) ?_
            refine lv_iload hx hb dX7_takeBlocks_133 (lv_at hl 0 rfl) ?_
            refine lv_imul hx hb dX7_takeBlocks_135 ?_
            refine lv_isub hx hb dX7_takeBlocks_136 ?_
            refine lv_aload_n hx hb dX7_takeBlocks_137 rfl (lv_at hl 2 rfl) ?_
            refine F_ro0_4 cx hH lkX7_38 dX7_takeBlocks_138 ?_
            refine F_ra21 cx hH lkX7_168 dX7_takeBlocks_141 ?_
            refine lv_iload hx hb dX7_takeBlocks_144 (lv_at hl 1 rfl) ?_
            obtain ⟨hi_44, h⟩ := fb_ck_s h
            refine F_l21 cx hH hi_44 dX7_takeBlocks_146 ?_
            refine lv_imul hx hb dX7_takeBlocks_147 ?_
            refine lv_bipush (v := 100) hx hb dX7_takeBlocks_148 (by decide) ?_
            obtain ⟨hi_45, h⟩ := fb_c0_s h
            refine lv_idiv hx hb dX7_takeBlocks_150 hi_45 ?_
            refine lv_iadd hx hb dX7_takeBlocks_151 ?_
            obtain ⟨S_46, eS_46, h⟩ := fb_st_s h
            refine F_p0 cx hH lkX7_56 dX7_takeBlocks_152 (fun H locs hH => ?_)
            rw [← eS_46] at hH
            refine lv_iload hx hb dX7_takeBlocks_155 (lv_at hl 6 rfl) ?_
            refine lv_iload hx hb dX7_takeBlocks_157 (lv_at hl 0 rfl) ?_
            refine lv_isub hx hb dX7_takeBlocks_159 ?_
            obtain ⟨x4_47, ex4_47, h⟩ := fb_vl_s h
            refine fb_top ex4_47 ?_
            refine lv_istore (lv' := [(4, .int x4_47), (7, .int x7_37), (6, .int x6_35), (0, .ref (b 0)), (1, .int x1), (2, .int x2), (3, .int x3), (5, .int x5)]) hx hb dX7_takeBlocks_160 hl (by decide) rfl (fun ls hl => ?_)
            obtain ⟨x5_48, ex5_48, h⟩ := fb_vl_s h
            refine lv_iinc (v := x5_48) (lv' := [(5, .int x5_48), (4, .int x4_47), (7, .int x7_37), (6, .int x6_35), (0, .ref (b 0)), (1, .int x1), (2, .int x2), (3, .int x3)]) hx hb dX7_takeBlocks_162 hl (k := 7) rfl (by rw [ex5_48]; rfl) (by decide) rfl (fun ls hl => ?_)
            refine lv_goto (tgt := 42) hx hb dX7_takeBlocks_165 (by decide) ?_
            exact ih42 _ _ _ _ _ _ _ _ _ h hH (lv_sub hl [4, 5, 6, 7, 1, 0] rfl)
          · replace h := fb_ip c_36 h
            refine lv_goto (tgt := 168) hx hb dX7_takeBlocks_88 (by decide) ?_
            obtain rfl := Option.some.inj h
            exact fb_vret (wd := wF cI cZ b) cx hH dX7_takeBlocks_168
  unfold pX7_takeBlocks at h
  refine lv_aload_n hx hb dX7_takeBlocks_0 rfl (lv_at hl 0 rfl) ?_
  refine F_ro0_6 cx hH lkX7_52 dX7_takeBlocks_1 ?_
  refine F_ra32 cx hH lkX7_212 dX7_takeBlocks_4 ?_
  refine lv_iload_n hx hb dX7_takeBlocks_7 rfl (lv_at hl 1 rfl) ?_
  obtain ⟨hi_21, h⟩ := fb_ck_s h
  refine F_l32 cx hH hi_21 dX7_takeBlocks_8 ?_
  refine lv_aload_n hx hb dX7_takeBlocks_9 rfl (lv_at hl 0 rfl) ?_
  refine F_ro0_6 cx hH lkX7_52 dX7_takeBlocks_10 ?_
  refine F_ra33 cx hH lkX7_214 dX7_takeBlocks_13 ?_
  refine lv_iload_n hx hb dX7_takeBlocks_16 rfl (lv_at hl 1 rfl) ?_
  obtain ⟨hi_22, h⟩ := fb_ck_s h
  refine F_l33 cx hH hi_22 dX7_takeBlocks_17 ?_
  refine lv_imul hx hb dX7_takeBlocks_18 ?_
  obtain ⟨x3_23, ex3_23, h⟩ := fb_vl_s h
  refine fb_top ex3_23 ?_
  refine lv_istore_n (lv' := [(3, .int x3_23), (0, .ref (b 0)), (1, .int x1), (2, .int x2)]) hx hb dX7_takeBlocks_19 rfl hl (by decide) rfl (fun ls hl => ?_)
  refine lv_aload_n hx hb dX7_takeBlocks_20 rfl (lv_at hl 1 rfl) ?_
  refine F_ro0_6 cx hH lkX7_52 dX7_takeBlocks_21 ?_
  refine F_ra34 cx hH lkX7_221 dX7_takeBlocks_24 ?_
  refine lv_iload_n hx hb dX7_takeBlocks_27 rfl (lv_at hl 2 rfl) ?_
  obtain ⟨hi_24, h⟩ := fb_ck_s h
  refine F_l34 cx hH hi_24 dX7_takeBlocks_28 ?_
  obtain ⟨x4_25, ex4_25, h⟩ := fb_vl_s h
  refine fb_top ex4_25 ?_
  refine lv_istore (lv' := [(4, .int x4_25), (3, .int x3_23), (0, .ref (b 0)), (1, .int x1), (2, .int x2)]) hx hb dX7_takeBlocks_29 hl (by decide) rfl (fun ls hl => ?_)
  refine lv_aload_n hx hb dX7_takeBlocks_31 rfl (lv_at hl 2 rfl) ?_
  refine F_ro0_6 cx hH lkX7_52 dX7_takeBlocks_32 ?_
  refine lv_iload_n hx hb dX7_takeBlocks_35 rfl (lv_at hl 3 rfl) ?_
  obtain ⟨S_27, hc_26, h⟩ := fb_bd_s h
  refine fb_vv (wd := wF cI cZ b) (As := [.int x1]) (rest := []) cx hH mwX5_beginTaking (ctX5_beginTaking l D cI cZ b hc_26) (F_rc7 cx hH) mlX7_263 (by decide) rfl hl.1 (Nat.le_of_ble_eq_true rfl) rfl dX7_takeBlocks_36 (fun H locs hH => ?_)
  refine lv_iconst (v := 0) hx hb dX7_takeBlocks_39 (by decide) ?_
  obtain ⟨x5_28, ex5_28, h⟩ := fb_vl_s h
  refine fb_top ex5_28 ?_
  refine lv_istore (lv' := [(5, .int x5_28), (4, .int x4_25), (3, .int x3_23), (0, .ref (b 0)), (1, .int x1), (2, .int x2)]) hx hb dX7_takeBlocks_40 hl (by decide) rfl (fun ls hl => ?_)
  exact hL42 5000 _ _ _ _ _ _ _ _ _ h hH (lv_sub hl [3, 4, 5, 2, 1, 0] rfl)
set_option maxHeartbeats 4000000 in
set_option maxRecDepth 100000 in
theorem ctX7_fill (l : Launch) (D : va_G) (cI cZ : ClassId) (b : Nat → Nat) {S : Sg} {x1 : Int32} {r : Int32} {S9 : Sg} (h : pX7_fill S x1 = some (r, S9)) : CTi l D cI cZ (wF cI cZ b) yX7_fill cX7_fill 4 (some .int) 6 [.ref (b 0), .int x1] S r S9 := by
  refine fb_starti (by decide) (Nat.le_of_ble_eq_true rfl) (fun p e s m args below meth c ls cx hH hl => ?_)
  obtain ⟨hx, hb, -⟩ := id cx
  have hl : lv_has ls 4 [(0, .ref (b 0)), (1, .int x1)] := hl
  unfold pX7_fill at h
  refine lv_aload_n hx hb dX7_fill_0 rfl (lv_at hl 0 rfl) ?_
  refine F_ro0_6 cx hH lkX7_52 dX7_fill_1 ?_
  refine lv_iload_n hx hb dX7_fill_4 rfl (lv_at hl 1 rfl) ?_
  obtain ⟨r_2, hc_1, h⟩ := fb_bd_s h
  refine fb_vi (wd := wF cI cZ b) (As := [.int x1]) (rest := []) cx hH mwX5_has (ctX5_has l D cI cZ b hc_1) (F_rc7 cx hH) mlX7_208 (by decide) rfl hl.1 (Nat.le_of_ble_eq_true rfl) rfl dX7_fill_5 (fun H locs hH => ?_)
  refine lv_if_ne (tgt := 17) hx hb dX7_fill_8 (by decide) (fun c_3 => ?_) (fun c_3 => ?_)
  · replace h := fb_in c_3 h
    refine lv_aload_n hx hb dX7_fill_17 rfl (lv_at hl 0 rfl) ?_
    refine F_ro0_6 cx hH lkX7_52 dX7_fill_18 ?_
    refine lv_iload_n hx hb dX7_fill_21 rfl (lv_at hl 1 rfl) ?_
    obtain ⟨r_5, hc_4, h⟩ := fb_bd_s h
    refine fb_vi (wd := wF cI cZ b) (As := [.int x1]) (rest := []) cx hH mwX5_isFilled (ctX5_isFilled l D cI cZ b hc_4) (F_rc7 cx hH) mlX7_209 (by decide) rfl hl.1 (Nat.le_of_ble_eq_true rfl) rfl dX7_fill_22 (fun H locs hH => ?_)
    refine lv_if_eq (tgt := 34) hx hb dX7_fill_25 (by decide) (fun c_6 => ?_) (fun c_6 => ?_)
    · replace h := fb_ip c_6 h
      refine lv_aload_n hx hb dX7_fill_34 rfl (lv_at hl 0 rfl) ?_
      refine F_ro0_5 cx hH lkX7_45 dX7_fill_35 ?_
      refine lv_aload_n hx hb dX7_fill_38 rfl (lv_at hl 0 rfl) ?_
      refine F_ro0_6 cx hH lkX7_52 dX7_fill_39 ?_
      refine F_ra32 cx hH lkX7_212 dX7_fill_42 ?_
      refine lv_iload_n hx hb dX7_fill_45 rfl (lv_at hl 1 rfl) ?_
      obtain ⟨hi_7, h⟩ := fb_ck_s h
      refine F_l32 cx hH hi_7 dX7_fill_46 ?_
      refine lv_aload_n hx hb dX7_fill_47 rfl (lv_at hl 0 rfl) ?_
      refine F_ro0_6 cx hH lkX7_52 dX7_fill_48 ?_
      refine F_ra33 cx hH lkX7_214 dX7_fill_51 ?_
      refine lv_iload_n hx hb dX7_fill_54 rfl (lv_at hl 1 rfl) ?_
      obtain ⟨hi_8, h⟩ := fb_ck_s h
      refine F_l33 cx hH hi_8 dX7_fill_55 ?_
      obtain ⟨r_10, S_11, hc_9, h⟩ := fb_bd2_s h
      refine fb_vi (wd := wF cI cZ b) (As := [.int (S.2 32 x1.toNatClampNeg), .int (S.2 33 x1.toNatClampNeg)]) (rest := []) cx hH mwX2_mostPieces (ctX2_mostPieces l D cI cZ b hc_9) (F_rc6 cx hH) mlX7_200 (by decide) rfl hl.1 (Nat.le_of_ble_eq_true rfl) rfl dX7_fill_56 (fun H locs hH => ?_)
      obtain ⟨x2_12, ex2_12, h⟩ := fb_vl_s h
      refine fb_top ex2_12 ?_
      refine lv_istore_n (lv' := [(2, .int x2_12), (0, .ref (b 0)), (1, .int x1)]) hx hb dX7_fill_59 rfl hl (by decide) rfl (fun ls hl => ?_)
      refine lv_aload_n hx hb dX7_fill_60 rfl (lv_at hl 1 rfl) ?_
      refine F_ro0_4 cx hH lkX7_38 dX7_fill_61 ?_
      refine lv_aload_n hx hb dX7_fill_64 rfl (lv_at hl 1 rfl) ?_
      refine F_ro0_6 cx hH lkX7_52 dX7_fill_65 ?_
      refine F_ra30 cx hH lkX7_216 dX7_fill_68 ?_
      refine lv_iload_n hx hb dX7_fill_71 rfl (lv_at hl 2 rfl) ?_
      obtain ⟨hi_13, h⟩ := fb_ck_s h
      refine F_l30 cx hH hi_13 dX7_fill_72 ?_
      refine lv_aload_n hx hb dX7_fill_73 rfl (lv_at hl 1 rfl) ?_
      refine F_ro0_6 cx hH lkX7_52 dX7_fill_74 ?_
      refine F_ra31 cx hH lkX7_217 dX7_fill_77 ?_
      refine lv_iload_n hx hb dX7_fill_80 rfl (lv_at hl 2 rfl) ?_
      obtain ⟨hi_14, h⟩ := fb_ck_s h
      refine F_l31 cx hH hi_14 dX7_fill_81 ?_
      obtain ⟨r_16, hc_15, h⟩ := fb_bd_s h
      refine fb_vi (wd := wF cI cZ b) (As := [.int (S_11.2 30 x1.toNatClampNeg), .int (S_11.2 31 x1.toNatClampNeg)]) (rest := []) cx hH mwX6_curedOf (ctX6_curedOf l D cI cZ b hc_15) (F_rc5 cx hH) mlX7_218 (by decide) rfl hl.1 (Nat.le_of_ble_eq_true rfl) rfl dX7_fill_82 (fun H locs hH => ?_)
      obtain ⟨x3_17, ex3_17, h⟩ := fb_vl_s h
      refine fb_top ex3_17 ?_
      refine lv_istore_n (lv' := [(3, .int x3_17), (2, .int x2_12), (0, .ref (b 0)), (1, .int x1)]) hx hb dX7_fill_85 rfl hl (by decide) rfl (fun ls hl => ?_)
      refine lv_iload_n hx hb dX7_fill_86 rfl (lv_at hl 0 rfl) ?_
      refine lv_iload_n hx hb dX7_fill_87 rfl (lv_at hl 1 rfl) ?_
      refine lv_imul hx hb dX7_fill_88 ?_
      refine lv_aload_n hx hb dX7_fill_89 rfl (lv_at hl 2 rfl) ?_
      refine F_ro0_6 cx hH lkX7_52 dX7_fill_90 ?_
      refine F_ra34 cx hH lkX7_221 dX7_fill_93 ?_
      refine lv_iload_n hx hb dX7_fill_96 rfl (lv_at hl 3 rfl) ?_
      obtain ⟨hi_18, h⟩ := fb_ck_s h
      refine F_l34 cx hH hi_18 dX7_fill_97 ?_
      refine lv_icmp_ge (tgt := 107) hx hb dX7_fill_98 (by decide) (fun c_19 => ?_) (fun c_19 => ?_)
      · replace h := fb_ip c_19 h
        refine lv_aload_n hx hb dX7_fill_107 rfl (lv_at hl 2 rfl) ?_
        refine lv_iload_n hx hb dX7_fill_108 rfl (lv_at hl 3 rfl) ?_
        refine lv_iload_n hx hb dX7_fill_109 rfl (lv_at hl 1 rfl) ?_
        obtain ⟨S_21, hc_20, h⟩ := fb_bd_s h
        refine fb_vv (wd := wF cI cZ b) (As := [.int x1, .int x2_12]) (rest := []) cx hH mwX7_takeBlocks (ctX7_takeBlocks l D cI cZ b hc_20) (F_rc0 cx hH) mlX7_224 (by decide) rfl hl.1 (Nat.le_of_ble_eq_true rfl) rfl dX7_fill_110 (fun H locs hH => ?_)
        refine lv_aload_n hx hb dX7_fill_113 rfl (lv_at hl 2 rfl) ?_
        refine lv_aload_n hx hb dX7_fill_114 rfl (lv_at hl 2 rfl) ?_
        refine F_ro0_6 cx hH lkX7_52 dX7_fill_115 ?_
        refine F_ra35 cx hH lkX7_227 dX7_fill_118 ?_
        refine lv_iload_n hx hb dX7_fill_121 rfl (lv_at hl 3 rfl) ?_
        obtain ⟨hi_22, h⟩ := fb_ck_s h
        refine F_l35 cx hH hi_22 dX7_fill_122 ?_
        obtain ⟨r_24, S_25, hc_23, h⟩ := fb_bd2_s h
        refine fb_vi (wd := wF cI cZ b) (As := [.int (S_21.2 35 x1.toNatClampNeg)]) (rest := []) cx hH mwX7_answered (ctX7_answered l D cI cZ b hc_23) (F_rc0 cx hH) mlX7_78 (by decide) rfl hl.1 (Nat.le_of_ble_eq_true rfl) rfl dX7_fill_123 (fun H locs hH => ?_)
        obtain ⟨rfl, rfl⟩ := Prod.mk.inj (Option.some.inj h)
        exact fb_iret (wd := wF cI cZ b) cx rfl hH dX7_fill_126
      · replace h := fb_in c_19 h
        refine lv_aload_n hx hb dX7_fill_101 rfl (lv_at hl 2 rfl) ?_
        refine lv_iconst (v := 5) hx hb dX7_fill_102 (by decide) ?_
        obtain ⟨r_27, S_28, hc_26, h⟩ := fb_bd2_s h
        refine fb_vi (wd := wF cI cZ b) (As := [.int 5]) (rest := []) cx hH mwX7_refused (ctX7_refused l D cI cZ b hc_26) (F_rc0 cx hH) mlX7_67 (by decide) rfl hl.1 (Nat.le_of_ble_eq_true rfl) rfl dX7_fill_103 (fun H locs hH => ?_)
        obtain ⟨rfl, rfl⟩ := Prod.mk.inj (Option.some.inj h)
        exact fb_iret (wd := wF cI cZ b) cx rfl hH dX7_fill_106
    · replace h := fb_in c_6 h
      refine lv_aload_n hx hb dX7_fill_28 rfl (lv_at hl 0 rfl) ?_
      refine lv_iconst (v := 4) hx hb dX7_fill_29 (by decide) ?_
      obtain ⟨r_30, S_31, hc_29, h⟩ := fb_bd2_s h
      refine fb_vi (wd := wF cI cZ b) (As := [.int 4]) (rest := []) cx hH mwX7_refused (ctX7_refused l D cI cZ b hc_29) (F_rc0 cx hH) mlX7_67 (by decide) rfl hl.1 (Nat.le_of_ble_eq_true rfl) rfl dX7_fill_30 (fun H locs hH => ?_)
      obtain ⟨rfl, rfl⟩ := Prod.mk.inj (Option.some.inj h)
      exact fb_iret (wd := wF cI cZ b) cx rfl hH dX7_fill_33
  · replace h := fb_ip c_3 h
    refine lv_aload_n hx hb dX7_fill_11 rfl (lv_at hl 0 rfl) ?_
    refine lv_iconst (v := 1) hx hb dX7_fill_12 (by decide) ?_
    obtain ⟨r_33, S_34, hc_32, h⟩ := fb_bd2_s h
    refine fb_vi (wd := wF cI cZ b) (As := [.int 1]) (rest := []) cx hH mwX7_refused (ctX7_refused l D cI cZ b hc_32) (F_rc0 cx hH) mlX7_67 (by decide) rfl hl.1 (Nat.le_of_ble_eq_true rfl) rfl dX7_fill_13 (fun H locs hH => ?_)
    obtain ⟨rfl, rfl⟩ := Prod.mk.inj (Option.some.inj h)
    exact fb_iret (wd := wF cI cZ b) cx rfl hH dX7_fill_16
set_option maxHeartbeats 4000000 in
set_option maxRecDepth 100000 in
theorem ctX7_led (l : Launch) (D : va_G) (cI cZ : ClassId) (b : Nat → Nat) {S : Sg} {x1 : Int32} {r : Int32} (h : pX7_led S x1 = some r) : CTi l D cI cZ (wF cI cZ b) yX7_led cX7_led 2 (some .int) 1 [.ref (b 0), .int x1] S r S := by
  refine fb_starti (by decide) (Nat.le_of_ble_eq_true rfl) (fun p e s m args below meth c ls cx hH hl => ?_)
  obtain ⟨hx, hb, -⟩ := id cx
  have hl : lv_has ls 2 [(0, .ref (b 0)), (1, .int x1)] := hl
  unfold pX7_led at h
  refine lv_aload_n hx hb dX7_led_0 rfl (lv_at hl 0 rfl) ?_
  refine F_ro0_4 cx hH lkX7_38 dX7_led_1 ?_
  refine lv_iload_n hx hb dX7_led_4 rfl (lv_at hl 1 rfl) ?_
  obtain ⟨r_2, hc_1, h⟩ := fb_bd_s h
  refine fb_vi (wd := wF cI cZ b) (As := [.int x1]) (rest := []) cx hH mwX6_piecesOfLot (ctX6_piecesOfLot l D cI cZ b hc_1) (F_rc5 cx hH) mlX7_236 (by decide) rfl hl.1 (Nat.le_of_ble_eq_true rfl) rfl dX7_led_5 (fun H locs hH => ?_)
  obtain rfl := Option.some.inj h
  exact fb_iret (wd := wF cI cZ b) cx rfl hH dX7_led_8
set_option maxHeartbeats 4000000 in
set_option maxRecDepth 100000 in
theorem ctX7_shred (l : Launch) (D : va_G) (cI cZ : ClassId) (b : Nat → Nat) {S : Sg} {r : Int32} {S9 : Sg} (h : pX7_shred S = some (r, S9)) : CTi l D cI cZ (wF cI cZ b) yX7_shred cX7_shred 2 (some .int) 0 [.ref (b 0)] S r S9 := by
  refine fb_starti (by decide) (Nat.le_of_ble_eq_true rfl) (fun p e s m args below meth c ls cx hH hl => ?_)
  obtain ⟨hx, hb, -⟩ := id cx
  have hl : lv_has ls 2 [(0, .ref (b 0))] := hl
  unfold pX7_shred at h
  refine lv_aload_n hx hb dX7_shred_0 rfl (lv_at hl 0 rfl) ?_
  refine F_g0 cx hH lkX7_56 dX7_shred_1 ?_
  obtain ⟨x1_1, ex1_1, h⟩ := fb_vl_s h
  refine fb_top ex1_1 ?_
  refine lv_istore_n (lv' := [(1, .int x1_1), (0, .ref (b 0))]) hx hb dX7_shred_4 rfl hl (by decide) rfl (fun ls hl => ?_)
  refine lv_aload_n hx hb dX7_shred_5 rfl (lv_at hl 1 rfl) ?_
  refine lv_iconst (v := 0) hx hb dX7_shred_6 (by decide) ?_
  obtain ⟨S_2, eS_2, h⟩ := fb_st_s h
  refine F_p0 cx hH lkX7_56 dX7_shred_7 (fun H locs hH => ?_)
  rw [← eS_2] at hH
  refine lv_iload_n hx hb dX7_shred_10 rfl (lv_at hl 0 rfl) ?_
  obtain ⟨rfl, rfl⟩ := Prod.mk.inj (Option.some.inj h)
  exact fb_iret (wd := wF cI cZ b) cx rfl hH dX7_shred_11
set_option maxHeartbeats 4000000 in
set_option maxRecDepth 100000 in
theorem ctX7_count (l : Launch) (D : va_G) (cI cZ : ClassId) (b : Nat → Nat) {S : Sg} {x1 : Int32} {r : Int32} (h : pX7_count S x1 = some r) : CTi l D cI cZ (wF cI cZ b) yX7_count cX7_count 2 (some .int) 1 [.ref (b 0), .int x1] S r S := by
  refine fb_starti (by decide) (Nat.le_of_ble_eq_true rfl) (fun p e s m args below meth c ls cx hH hl => ?_)
  obtain ⟨hx, hb, -⟩ := id cx
  have hl : lv_has ls 2 [(0, .ref (b 0)), (1, .int x1)] := hl
  unfold pX7_count at h
  refine lv_iload_n hx hb dX7_count_0 rfl (lv_at hl 1 rfl) ?_
  by_cases c_1 : x1 = 0
  · replace h := fb_ip c_1 h
    refine lv_tableIn (off := 55) (tgt := 56) hx hb dX7_count_1 (by rw [c_1]; decide) (by rw [c_1]; decide) (by rw [c_1]; decide) (by decide) ?_
    refine lv_aload_n hx hb dX7_count_56 rfl (lv_at hl 0 rfl) ?_
    refine F_ro0_0 cx hH lkX7_10 dX7_count_57 ?_
    refine F_g2 cx hH lkX7_71 dX7_count_60 ?_
    obtain rfl := Option.some.inj h
    exact fb_iret (wd := wF cI cZ b) cx rfl hH dX7_count_63
  replace h := fb_in c_1 h
  by_cases c_2 : x1 = 1
  · replace h := fb_ip c_2 h
    refine lv_tableIn (off := 63) (tgt := 64) hx hb dX7_count_1 (by rw [c_2]; decide) (by rw [c_2]; decide) (by rw [c_2]; decide) (by decide) ?_
    refine lv_aload_n hx hb dX7_count_64 rfl (lv_at hl 0 rfl) ?_
    refine F_ro0_1 cx hH lkX7_27 dX7_count_65 ?_
    refine F_g3 cx hH lkX7_101 dX7_count_68 ?_
    obtain rfl := Option.some.inj h
    exact fb_iret (wd := wF cI cZ b) cx rfl hH dX7_count_71
  replace h := fb_in c_2 h
  by_cases c_3 : x1 = 2
  · replace h := fb_ip c_3 h
    refine lv_tableIn (off := 71) (tgt := 72) hx hb dX7_count_1 (by rw [c_3]; decide) (by rw [c_3]; decide) (by rw [c_3]; decide) (by decide) ?_
    refine lv_aload_n hx hb dX7_count_72 rfl (lv_at hl 0 rfl) ?_
    refine F_ro0_3 cx hH lkX7_31 dX7_count_73 ?_
    refine F_g6 cx hH lkX7_144 dX7_count_76 ?_
    obtain rfl := Option.some.inj h
    exact fb_iret (wd := wF cI cZ b) cx rfl hH dX7_count_79
  replace h := fb_in c_3 h
  by_cases c_4 : x1 = 3
  · replace h := fb_ip c_4 h
    refine lv_tableIn (off := 79) (tgt := 80) hx hb dX7_count_1 (by rw [c_4]; decide) (by rw [c_4]; decide) (by rw [c_4]; decide) (by decide) ?_
    refine lv_aload_n hx hb dX7_count_80 rfl (lv_at hl 0 rfl) ?_
    refine F_ro0_3 cx hH lkX7_31 dX7_count_81 ?_
    refine F_g7 cx hH lkX7_128 dX7_count_84 ?_
    obtain rfl := Option.some.inj h
    exact fb_iret (wd := wF cI cZ b) cx rfl hH dX7_count_87
  replace h := fb_in c_4 h
  by_cases c_5 : x1 = 4
  · replace h := fb_ip c_5 h
    refine lv_tableIn (off := 87) (tgt := 88) hx hb dX7_count_1 (by rw [c_5]; decide) (by rw [c_5]; decide) (by rw [c_5]; decide) (by decide) ?_
    refine lv_aload_n hx hb dX7_count_88 rfl (lv_at hl 0 rfl) ?_
    refine F_ro0_3 cx hH lkX7_31 dX7_count_89 ?_
    refine F_g8 cx hH lkX7_239 dX7_count_92 ?_
    obtain rfl := Option.some.inj h
    exact fb_iret (wd := wF cI cZ b) cx rfl hH dX7_count_95
  replace h := fb_in c_5 h
  by_cases c_6 : x1 = 5
  · replace h := fb_ip c_6 h
    refine lv_tableIn (off := 95) (tgt := 96) hx hb dX7_count_1 (by rw [c_6]; decide) (by rw [c_6]; decide) (by rw [c_6]; decide) (by decide) ?_
    refine lv_aload_n hx hb dX7_count_96 rfl (lv_at hl 0 rfl) ?_
    refine F_ro0_4 cx hH lkX7_38 dX7_count_97 ?_
    refine F_g9 cx hH lkX7_112 dX7_count_100 ?_
    obtain rfl := Option.some.inj h
    exact fb_iret (wd := wF cI cZ b) cx rfl hH dX7_count_103
  replace h := fb_in c_6 h
  by_cases c_7 : x1 = 6
  · replace h := fb_ip c_7 h
    refine lv_tableIn (off := 103) (tgt := 104) hx hb dX7_count_1 (by rw [c_7]; decide) (by rw [c_7]; decide) (by rw [c_7]; decide) (by decide) ?_
    refine lv_aload_n hx hb dX7_count_104 rfl (lv_at hl 0 rfl) ?_
    refine F_ro0_4 cx hH lkX7_38 dX7_count_105 ?_
    obtain ⟨r_9, hc_8, h⟩ := fb_bd_s h
    refine fb_vi (wd := wF cI cZ b) (As := []) (rest := []) cx hH mwX6_placesTaken (ctX6_placesTaken l D cI cZ b hc_8) (F_rc5 cx hH) mlX7_241 (by decide) rfl hl.1 (Nat.le_of_ble_eq_true rfl) rfl dX7_count_108 (fun H locs hH => ?_)
    obtain rfl := Option.some.inj h
    exact fb_iret (wd := wF cI cZ b) cx rfl hH dX7_count_111
  replace h := fb_in c_7 h
  by_cases c_10 : x1 = 7
  · replace h := fb_ip c_10 h
    refine lv_tableIn (off := 111) (tgt := 112) hx hb dX7_count_1 (by rw [c_10]; decide) (by rw [c_10]; decide) (by rw [c_10]; decide) (by decide) ?_
    refine lv_aload_n hx hb dX7_count_112 rfl (lv_at hl 0 rfl) ?_
    refine F_ro0_6 cx hH lkX7_52 dX7_count_113 ?_
    refine F_g14 cx hH lkX7_203 dX7_count_116 ?_
    obtain rfl := Option.some.inj h
    exact fb_iret (wd := wF cI cZ b) cx rfl hH dX7_count_119
  replace h := fb_in c_10 h
  by_cases c_11 : x1 = 8
  · replace h := fb_ip c_11 h
    refine lv_tableIn (off := 119) (tgt := 120) hx hb dX7_count_1 (by rw [c_11]; decide) (by rw [c_11]; decide) (by rw [c_11]; decide) (by decide) ?_
    refine lv_aload_n hx hb dX7_count_120 rfl (lv_at hl 0 rfl) ?_
    refine F_ro0_6 cx hH lkX7_52 dX7_count_121 ?_
    refine F_g15 cx hH lkX7_244 dX7_count_124 ?_
    obtain rfl := Option.some.inj h
    exact fb_iret (wd := wF cI cZ b) cx rfl hH dX7_count_127
  replace h := fb_in c_11 h
  by_cases c_12 : x1 = 9
  · replace h := fb_ip c_12 h
    refine lv_tableIn (off := 127) (tgt := 128) hx hb dX7_count_1 (by rw [c_12]; decide) (by rw [c_12]; decide) (by rw [c_12]; decide) (by decide) ?_
    refine lv_aload_n hx hb dX7_count_128 rfl (lv_at hl 0 rfl) ?_
    refine F_ro0_4 cx hH lkX7_38 dX7_count_129 ?_
    refine F_g10 cx hH lkX7_194 dX7_count_132 ?_
    obtain rfl := Option.some.inj h
    exact fb_iret (wd := wF cI cZ b) cx rfl hH dX7_count_135
  replace h := fb_in c_12 h
  have qc_1 := lv_neT c_1 (a := 0) (by decide)
  have qc_2 := lv_neT c_2 (a := 1) (by decide)
  have qc_3 := lv_neT c_3 (a := 2) (by decide)
  have qc_4 := lv_neT c_4 (a := 3) (by decide)
  have qc_5 := lv_neT c_5 (a := 4) (by decide)
  have qc_6 := lv_neT c_6 (a := 5) (by decide)
  have qc_7 := lv_neT c_7 (a := 6) (by decide)
  have qc_10 := lv_neT c_10 (a := 7) (by decide)
  have qc_11 := lv_neT c_11 (a := 8) (by decide)
  have qc_12 := lv_neT c_12 (a := 9) (by decide)
  refine lv_tableOut (tgt := 136) hx hb dX7_count_1 (by omega) (by decide) ?_
  refine lv_iconst (v := (-1)) hx hb dX7_count_136 (by decide) ?_
  obtain rfl := Option.some.inj h
  exact fb_iret (wd := wF cI cZ b) cx rfl hH dX7_count_137
set_option maxHeartbeats 4000000 in
set_option maxRecDepth 100000 in
theorem ctX7_trouble (l : Launch) (D : va_G) (cI cZ : ClassId) (b : Nat → Nat) {S : Sg} {r : Int32} (h : pX7_trouble S = some r) : CTi l D cI cZ (wF cI cZ b) yX7_trouble cX7_trouble 1 (some .int) 0 [.ref (b 0)] S r S := by
  refine fb_starti (by decide) (Nat.le_of_ble_eq_true rfl) (fun p e s m args below meth c ls cx hH hl => ?_)
  obtain ⟨hx, hb, -⟩ := id cx
  have hl : lv_has ls 1 [(0, .ref (b 0))] := hl
  unfold pX7_trouble at h
  refine lv_aload_n hx hb dX7_trouble_0 rfl (lv_at hl 0 rfl) ?_
  refine F_g1 cx hH lkX7_60 dX7_trouble_1 ?_
  obtain rfl := Option.some.inj h
  exact fb_iret (wd := wF cI cZ b) cx rfl hH dX7_trouble_4
