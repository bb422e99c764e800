set_option maxHeartbeats 4000000 in
set_option maxRecDepth 100000 in
theorem ctX8_thrown (l : Launch) (D : va_G) (cI cZ : ClassId) (a : Nat → Nat) {S : Sg} {r : Int32} (h : pX8_thrown S = some r) : CTi l D cI cZ (wM cI cZ a) yX8_thrown cX8_thrown 1 (some .int) 0 [.ref (a 0)] S r S := by
  refine fb_starti (by decide) (Nat.le_of_ble_eq_true rfl) (fun p e s m args below meth c ls cx hH hl => ?_)
  obtain ⟨hx, hb, -⟩ := id cx
  have hl : lv_has ls 1 [(0, .ref (a 0))] := hl
  unfold pX8_thrown at h
  refine lv_aload_n hx hb dX8_thrown_0 rfl (lv_at hl 0 rfl) ?_
  refine M_g0 cx hH lkX8_1 dX8_thrown_1 ?_
  obtain rfl := Option.some.inj h
  exact fb_iret (wd := wM cI cZ a) cx rfl hH dX8_thrown_4
set_option maxHeartbeats 4000000 in
set_option maxRecDepth 100000 in
theorem ctX8_refused (l : Launch) (D : va_G) (cI cZ : ClassId) (a : Nat → Nat) {S : Sg} {x1 : Int32} {r : Int32} {S9 : Sg} (h : pX8_refused S x1 = some (r, S9)) : CTi l D cI cZ (wM cI cZ a) yX8_refused cX8_refused 2 (some .int) 0 [.ref (a 0), .int x1] S r S9 := by
  refine fb_starti (by decide) (Nat.le_of_ble_eq_true rfl) (fun p e s m args below meth c ls cx hH hl => ?_)
  obtain ⟨hx, hb, -⟩ := id cx
  have hl : lv_has ls 2 [(0, .ref (a 0)), (1, .int x1)] := hl
  unfold pX8_refused at h
  refine lv_aload_n hx hb dX8_refused_0 rfl (lv_at hl 0 rfl) ?_
  refine lv_iload_n hx hb dX8_refused_1 rfl (lv_at hl 1 rfl) ?_
  obtain ⟨S_1, eS_1, h⟩ := fb_st_s h
  refine M_p1 cx hH lkX8_7 dX8_refused_2 (fun H locs hH => ?_)
  rw [← eS_1] at hH
  refine lv_iconst (v := (-1)) hx hb dX8_refused_5 (by decide) ?_
  obtain ⟨rfl, rfl⟩ := Prod.mk.inj (Option.some.inj h)
  exact fb_iret (wd := wM cI cZ a) cx rfl hH dX8_refused_6
set_option maxHeartbeats 4000000 in
set_option maxRecDepth 100000 in
theorem ctX8_denied (l : Launch) (D : va_G) (cI cZ : ClassId) (a : Nat → Nat) {S : Sg} {x1 : Int32} {r : Int32} {S9 : Sg} (h : pX8_denied S x1 = some (r, S9)) : CTi l D cI cZ (wM cI cZ a) yX8_denied cX8_denied 2 (some .boolean) 0 [.ref (a 0), .int x1] S r S9 := by
  refine fb_starti (by decide) (Nat.le_of_ble_eq_true rfl) (fun p e s m args below meth c ls cx hH hl => ?_)
  obtain ⟨hx, hb, -⟩ := id cx
  have hl : lv_has ls 2 [(0, .ref (a 0)), (1, .int x1)] := hl
  unfold pX8_denied at h
  refine lv_aload_n hx hb dX8_denied_0 rfl (lv_at hl 0 rfl) ?_
  refine lv_iload_n hx hb dX8_denied_1 rfl (lv_at hl 1 rfl) ?_
  obtain ⟨S_1, eS_1, h⟩ := fb_st_s h
  refine M_p1 cx hH lkX8_7 dX8_denied_2 (fun H locs hH => ?_)
  rw [← eS_1] at hH
  refine lv_iconst (v := 0) hx hb dX8_denied_5 (by decide) ?_
  obtain ⟨hn, h⟩ := fb_cb_s h
  obtain ⟨rfl, rfl⟩ := Prod.mk.inj (Option.some.inj h)
  exact fb_zret (wd := wM cI cZ a) cx rfl hH hn dX8_denied_6
set_option maxHeartbeats 4000000 in
set_option maxRecDepth 100000 in
theorem ctX8_done (l : Launch) (D : va_G) (cI cZ : ClassId) (a : Nat → Nat) {S : Sg} {x1 : Int32} {r : Int32} {S9 : Sg} (h : pX8_done S x1 = some (r, S9)) : CTi l D cI cZ (wM cI cZ a) yX8_done cX8_done 2 (some .int) 0 [.ref (a 0), .int x1] S r S9 := by
  refine fb_starti (by decide) (Nat.le_of_ble_eq_true rfl) (fun p e s m args below meth c ls cx hH hl => ?_)
  obtain ⟨hx, hb, -⟩ := id cx
  have hl : lv_has ls 2 [(0, .ref (a 0)), (1, .int x1)] := hl
  unfold pX8_done at h
  refine lv_aload_n hx hb dX8_done_0 rfl (lv_at hl 0 rfl) ?_
  refine lv_iconst (v := 0) hx hb dX8_done_1 (by decide) ?_
  obtain ⟨S_1, eS_1, h⟩ := fb_st_s h
  refine M_p1 cx hH lkX8_7 dX8_done_2 (fun H locs hH => ?_)
  rw [← eS_1] at hH
  refine lv_iload_n hx hb dX8_done_5 rfl (lv_at hl 1 rfl) ?_
  obtain ⟨rfl, rfl⟩ := Prod.mk.inj (Option.some.inj h)
  exact fb_iret (wd := wM cI cZ a) cx rfl hH dX8_done_6
set_option maxHeartbeats 4000000 in
set_option maxRecDepth 100000 in
theorem ctX8_granted (l : Launch) (D : va_G) (cI cZ : ClassId) (a : Nat → Nat) {S : Sg} {r : Int32} {S9 : Sg} (h : pX8_granted S = some (r, S9)) : CTi l D cI cZ (wM cI cZ a) yX8_granted cX8_granted 1 (some .boolean) 0 [.ref (a 0)] S r S9 := by
  refine fb_starti (by decide) (Nat.le_of_ble_eq_true rfl) (fun p e s m args below meth c ls cx hH hl => ?_)
  obtain ⟨hx, hb, -⟩ := id cx
  have hl : lv_has ls 1 [(0, .ref (a 0))] := hl
  unfold pX8_granted at h
  refine lv_aload_n hx hb dX8_granted_0 rfl (lv_at hl 0 rfl) ?_
  refine lv_iconst (v := 0) hx hb dX8_granted_1 (by decide) ?_
  obtain ⟨S_1, eS_1, h⟩ := fb_st_s h
  refine M_p1 cx hH lkX8_7 dX8_granted_2 (fun H locs hH => ?_)
  rw [← eS_1] at hH
  refine lv_iconst (v := 1) hx hb dX8_granted_5 (by decide) ?_
  obtain ⟨hn, h⟩ := fb_cb_s h
  obtain ⟨rfl, rfl⟩ := Prod.mk.inj (Option.some.inj h)
  exact fb_zret (wd := wM cI cZ a) cx rfl hH hn dX8_granted_6
set_option maxHeartbeats 4000000 in
set_option maxRecDepth 100000 in
theorem ctX8_in (l : Launch) (D : va_G) (cI cZ : ClassId) (a : Nat → Nat) {S : Sg} {x0 x1 x2 : Int32} {r : Int32} (h : pX8_in S x0 x1 x2 = some r) : CTi l D cI cZ (wM cI cZ a) yX8_in cX8_in 3 (some .boolean) 0 [.int x0, .int x1, .int x2] S r S := by
  refine fb_starti (by decide) (Nat.le_of_ble_eq_true rfl) (fun p e s m args below meth c ls cx hH hl => ?_)
  obtain ⟨hx, hb, -⟩ := id cx
  have hl : lv_has ls 3 [(0, .int x0), (1, .int x1), (2, .int x2)] := hl
  unfold pX8_in at h
  refine lv_iload_n hx hb dX8_in_0 rfl (lv_at hl 0 rfl) ?_
  refine lv_iload_n hx hb dX8_in_1 rfl (lv_at hl 1 rfl) ?_
  refine lv_icmp_lt (tgt := 14) hx hb dX8_in_2 (by decide) (fun c_1 => ?_) (fun c_1 => ?_)
  · replace h := fb_ip c_1 h
    refine lv_iconst (v := 0) hx hb dX8_in_14 (by decide) ?_
    obtain ⟨hn, h⟩ := fb_cb_s h
    obtain rfl := Option.some.inj h
    exact fb_zret (wd := wM cI cZ a) cx rfl hH hn dX8_in_15
  · replace h := fb_in c_1 h
    refine lv_iload_n hx hb dX8_in_5 rfl (lv_at hl 0 rfl) ?_
    refine lv_iload_n hx hb dX8_in_6 rfl (lv_at hl 2 rfl) ?_
    refine lv_icmp_gt (tgt := 14) hx hb dX8_in_7 (by decide) (fun c_2 => ?_) (fun c_2 => ?_)
    · replace h := fb_ip c_2 h
      refine lv_iconst (v := 0) hx hb dX8_in_14 (by decide) ?_
      obtain ⟨hn, h⟩ := fb_cb_s h
      obtain rfl := Option.some.inj h
      exact fb_zret (wd := wM cI cZ a) cx rfl hH hn dX8_in_15
    · replace h := fb_in c_2 h
      refine lv_iconst (v := 1) hx hb dX8_in_10 (by decide) ?_
      refine lv_goto (tgt := 15) hx hb dX8_in_11 (by decide) ?_
      obtain ⟨hn, h⟩ := fb_cb_s h
      obtain rfl := Option.some.inj h
      exact fb_zret (wd := wM cI cZ a) cx rfl hH hn dX8_in_15
set_option maxHeartbeats 4000000 in
set_option maxRecDepth 100000 in
theorem ctX8_isKind (l : Launch) (D : va_G) (cI cZ : ClassId) (a : Nat → Nat) {S : Sg} {x1 : Int32} {r : Int32} (h : pX8_isKind S x1 = some r) : CTi l D cI cZ (wM cI cZ a) yX8_isKind cX8_isKind 2 (some .boolean) 0 [.ref (a 0), .int x1] S r S := by
  refine fb_starti (by decide) (Nat.le_of_ble_eq_true rfl) (fun p e s m args below meth c ls cx hH hl => ?_)
  obtain ⟨hx, hb, -⟩ := id cx
  have hl : lv_has ls 2 [(0, .ref (a 0)), (1, .int x1)] := hl
  unfold pX8_isKind at h
  refine lv_iload_n hx hb dX8_isKind_0 rfl (lv_at hl 1 rfl) ?_
  refine lv_if_lt (tgt := 16) hx hb dX8_isKind_1 (by decide) (fun c_1 => ?_) (fun c_1 => ?_)
  · replace h := fb_ip c_1 h
    refine lv_iconst (v := 0) hx hb dX8_isKind_16 (by decide) ?_
    obtain ⟨hn, h⟩ := fb_cb_s h
    obtain rfl := Option.some.inj h
    exact fb_zret (wd := wM cI cZ a) cx rfl hH hn dX8_isKind_17
  · replace h := fb_in c_1 h
    refine lv_iload_n hx hb dX8_isKind_4 rfl (lv_at hl 1 rfl) ?_
    refine lv_aload_n hx hb dX8_isKind_5 rfl (lv_at hl 0 rfl) ?_
    refine M_g2 cx hH lkX8_108 dX8_isKind_6 ?_
    refine lv_icmp_ge (tgt := 16) hx hb dX8_isKind_9 (by decide) (fun c_2 => ?_) (fun c_2 => ?_)
    · replace h := fb_ip c_2 h
      refine lv_iconst (v := 0) hx hb dX8_isKind_16 (by decide) ?_
      obtain ⟨hn, h⟩ := fb_cb_s h
      obtain rfl := Option.some.inj h
      exact fb_zret (wd := wM cI cZ a) cx rfl hH hn dX8_isKind_17
    · replace h := fb_in c_2 h
      refine lv_iconst (v := 1) hx hb dX8_isKind_12 (by decide) ?_
      refine lv_goto (tgt := 17) hx hb dX8_isKind_13 (by decide) ?_
      obtain ⟨hn, h⟩ := fb_cb_s h
      obtain rfl := Option.some.inj h
      exact fb_zret (wd := wM cI cZ a) cx rfl hH hn dX8_isKind_17
set_option maxHeartbeats 4000000 in
set_option maxRecDepth 100000 in
theorem ctX8_isLength (l : Launch) (D : va_G) (cI cZ : ClassId) (a : Nat → Nat) {S : Sg} {x1 : Int32} {r : Int32} (h : pX8_isLength S x1 = some r) : CTi l D cI cZ (wM cI cZ a) yX8_isLength cX8_isLength 2 (some .boolean) 0 [.ref (a 0), .int x1] S r S := by
  refine fb_starti (by decide) (Nat.le_of_ble_eq_true rfl) (fun p e s m args below meth c ls cx hH hl => ?_)
  obtain ⟨hx, hb, -⟩ := id cx
  have hl : lv_has ls 2 [(0, .ref (a 0)), (1, .int x1)] := hl
  unfold pX8_isLength at h
  refine lv_iload_n hx hb dX8_isLength_0 rfl (lv_at hl 1 rfl) ?_
  refine lv_if_lt (tgt := 16) hx hb dX8_isLength_1 (by decide) (fun c_1 => ?_) (fun c_1 => ?_)
  · replace h := fb_ip c_1 h
    refine lv_iconst (v := 0) hx hb dX8_isLength_16 (by decide) ?_
    obtain ⟨hn, h⟩ := fb_cb_s h
    obtain rfl := Option.some.inj h
    exact fb_zret (wd := wM cI cZ a) cx rfl hH hn dX8_isLength_17
  · replace h := fb_in c_1 h
    refine lv_iload_n hx hb dX8_isLength_4 rfl (lv_at hl 1 rfl) ?_
    refine lv_aload_n hx hb dX8_isLength_5 rfl (lv_at hl 0 rfl) ?_
    refine M_g3 cx hH lkX8_111 dX8_isLength_6 ?_
    refine lv_icmp_ge (tgt := 16) hx hb dX8_isLength_9 (by decide) (fun c_2 => ?_) (fun c_2 => ?_)
    · replace h := fb_ip c_2 h
      refine lv_iconst (v := 0) hx hb dX8_isLength_16 (by decide) ?_
      obtain ⟨hn, h⟩ := fb_cb_s h
      obtain rfl := Option.some.inj h
      exact fb_zret (wd := wM cI cZ a) cx rfl hH hn dX8_isLength_17
    · replace h := fb_in c_2 h
      refine lv_iconst (v := 1) hx hb dX8_isLength_12 (by decide) ?_
      refine lv_goto (tgt := 17) hx hb dX8_isLength_13 (by decide) ?_
      obtain ⟨hn, h⟩ := fb_cb_s h
      obtain rfl := Option.some.inj h
      exact fb_zret (wd := wM cI cZ a) cx rfl hH hn dX8_isLength_17
set_option maxHeartbeats 4000000 in
set_option maxRecDepth 100000 in
theorem ctX8_kind (l : Launch) (D : va_G) (cI cZ : ClassId) (a : Nat → Nat) {S : Sg} {x1 x2 : Int32} {r : Int32} {S9 : Sg} (h : pX8_kind S x1 x2 = some (r, S9)) : CTi l D cI cZ (wM cI cZ a) yX8_kind cX8_kind 3 (some .int) 1 [.ref (a 0), .int x1, .int x2] S r S9 := by
  refine fb_starti (by decide) (Nat.le_of_ble_eq_true rfl) (fun p e s m args below meth c ls cx hH hl => ?_)
  obtain ⟨hx, hb, -⟩ := id cx
  have hl : lv_has ls 3 [(0, .ref (a 0)), (1, .int x1), (2, .int x2)] := hl
  unfold pX8_kind at h
  refine lv_aload_n hx hb dX8_kind_0 rfl (lv_at hl 0 rfl) ?_
  refine lv_iconst (v := 0) hx hb dX8_kind_1 (by decide) ?_
  obtain ⟨S_1, eS_1, h⟩ := fb_st_s h
  refine M_p0 cx hH lkX8_1 dX8_kind_2 (fun H locs hH => ?_)
  rw [← eS_1] at hH
  refine lv_iload_n hx hb dX8_kind_5 rfl (lv_at hl 1 rfl) ?_
  refine lv_bipush (v := 40) hx hb dX8_kind_6 (by decide) ?_
  refine lv_sipush (v := 180) hx hb dX8_kind_8 (by decide) ?_
  obtain ⟨r_3, hc_2, h⟩ := fb_bd_s h
  refine fb_si (wd := wM cI cZ a) (As := [.int x1, .int 40, .int 180]) (rest := []) cx hH mwX8_in (ctX8_in l D cI cZ a hc_2) mlX8_114 (by decide) rfl hl.1 (Nat.le_of_ble_eq_true rfl) rfl dX8_kind_11 (fun H locs hH => ?_)
  refine lv_if_eq (tgt := 27) hx hb dX8_kind_14 (by decide) (fun c_4 => ?_) (fun c_4 => ?_)
  · replace h := fb_ip c_4 h
    refine lv_aload_n hx hb dX8_kind_27 rfl (lv_at hl 0 rfl) ?_
    refine lv_iconst (v := 2) hx hb dX8_kind_28 (by decide) ?_
    obtain ⟨r_6, S_7, hc_5, h⟩ := fb_bd2_s h
    refine fb_vi (wd := wM cI cZ a) (As := [.int 2]) (rest := []) cx hH mwX8_refused (ctX8_refused l D cI cZ a hc_5) (M_rc0 cx hH) mlX8_118 (by decide) rfl hl.1 (Nat.le_of_ble_eq_true rfl) rfl dX8_kind_29 (fun H locs hH => ?_)
    obtain ⟨rfl, rfl⟩ := Prod.mk.inj (Option.some.inj h)
    exact fb_iret (wd := wM cI cZ a) cx rfl hH dX8_kind_32
  · replace h := fb_in c_4 h
    refine lv_iload_n hx hb dX8_kind_17 rfl (lv_at hl 2 rfl) ?_
    refine lv_iconst (v := 1) hx hb dX8_kind_18 (by decide) ?_
    refine lv_bipush (v := 20) hx hb dX8_kind_19 (by decide) ?_
    obtain ⟨r_9, hc_8, h⟩ := fb_bd_s h
    refine fb_si (wd := wM cI cZ a) (As := [.int x2, .int 1, .int 20]) (rest := []) cx hH mwX8_in (ctX8_in l D cI cZ a hc_8) mlX8_114 (by decide) rfl hl.1 (Nat.le_of_ble_eq_true rfl) rfl dX8_kind_21 (fun H locs hH => ?_)
    refine lv_if_ne (tgt := 33) hx hb dX8_kind_24 (by decide) (fun c_10 => ?_) (fun c_10 => ?_)
    · replace h := fb_in c_10 h
      refine lv_aload_n hx hb dX8_kind_33 rfl (lv_at hl 0 rfl) ?_
      refine M_g2 cx hH lkX8_108 dX8_kind_34 ?_
      refine lv_iconst (v := 5) hx hb dX8_kind_37 (by decide) ?_
      refine lv_icmp_ne (tgt := 47) hx hb dX8_kind_38 (by decide) (fun c_11 => ?_) (fun c_11 => ?_)
      · replace h := fb_in c_11 h
        refine lv_aload_n hx hb dX8_kind_47 rfl (lv_at hl 0 rfl) ?_
        refine M_ra1 cx hH lkX8_22 dX8_kind_48 ?_
        refine lv_aload_n hx hb dX8_kind_51 rfl (lv_at hl 0 rfl) ?_
        refine M_g2 cx hH lkX8_108 dX8_kind_52 ?_
        refine lv_iload_n hx hb dX8_kind_55 rfl (lv_at hl 1 rfl) ?_
        obtain ⟨hi_13, h⟩ := fb_ck_s h
        obtain ⟨S_12, eS_12, h⟩ := fb_st_s h
        refine M_s1 cx hH hi_13 dX8_kind_56 (fun H locs hH => ?_)
        rw [← eS_12] at hH
        refine lv_aload_n hx hb dX8_kind_57 rfl (lv_at hl 0 rfl) ?_
        refine M_ra2 cx hH lkX8_26 dX8_kind_58 ?_
        refine lv_aload_n hx hb dX8_kind_61 rfl (lv_at hl 0 rfl) ?_
        refine M_g2 cx hH lkX8_108 dX8_kind_62 ?_
        refine lv_iload_n hx hb dX8_kind_65 rfl (lv_at hl 2 rfl) ?_
        obtain ⟨hi_15, h⟩ := fb_ck_s h
        obtain ⟨S_14, eS_14, h⟩ := fb_st_s h
        refine M_s2 cx hH hi_15 dX8_kind_66 (fun H locs hH => ?_)
        rw [← eS_14] at hH
        refine lv_aload_n hx hb dX8_kind_67 rfl (lv_at hl 0 rfl) ?_
        refine lv_dup hx hb dX8_kind_68 rfl ?_
        refine M_g2 cx hH lkX8_108 dX8_kind_69 ?_
        refine lv_iconst (v := 1) hx hb dX8_kind_72 (by decide) ?_
        refine lv_iadd hx hb dX8_kind_73 ?_
        obtain ⟨S_16, eS_16, h⟩ := fb_st_s h
        refine M_p2 cx hH lkX8_108 dX8_kind_74 (fun H locs hH => ?_)
        rw [← eS_16] at hH
        refine lv_aload_n hx hb dX8_kind_77 rfl (lv_at hl 0 rfl) ?_
        refine lv_aload_n hx hb dX8_kind_78 rfl (lv_at hl 0 rfl) ?_
        refine M_g2 cx hH lkX8_108 dX8_kind_79 ?_
        refine lv_iconst (v := 1) hx hb dX8_kind_82 (by decide) ?_
        refine lv_isub hx hb dX8_kind_83 ?_
        obtain ⟨r_18, S_19, hc_17, h⟩ := fb_bd2_s h
        refine fb_vi (wd := wM cI cZ a) (As := [.int ((S_16.1 2) - 1)]) (rest := []) cx hH mwX8_done (ctX8_done l D cI cZ a hc_17) (M_rc0 cx hH) mlX8_122 (by decide) rfl hl.1 (Nat.le_of_ble_eq_true rfl) rfl dX8_kind_84 (fun H locs hH => ?_)
        obtain ⟨rfl, rfl⟩ := Prod.mk.inj (Option.some.inj h)
        exact fb_iret (wd := wM cI cZ a) cx rfl hH dX8_kind_87
      · replace h := fb_ip c_11 h
        refine lv_aload_n hx hb dX8_kind_41 rfl (lv_at hl 0 rfl) ?_
        refine lv_iconst (v := 3) hx hb dX8_kind_42 (by decide) ?_
        obtain ⟨r_21, S_22, hc_20, h⟩ := fb_bd2_s h
        refine fb_vi (wd := wM cI cZ a) (As := [.int 3]) (rest := []) cx hH mwX8_refused (ctX8_refused l D cI cZ a hc_20) (M_rc0 cx hH) mlX8_118 (by decide) rfl hl.1 (Nat.le_of_ble_eq_true rfl) rfl dX8_kind_43 (fun H locs hH => ?_)
        obtain ⟨rfl, rfl⟩ := Prod.mk.inj (Option.some.inj h)
        exact fb_iret (wd := wM cI cZ a) cx rfl hH dX8_kind_46
    · replace h := fb_ip c_10 h
      refine lv_aload_n hx hb dX8_kind_27 rfl (lv_at hl 0 rfl) ?_
      refine lv_iconst (v := 2) hx hb dX8_kind_28 (by decide) ?_
      obtain ⟨r_24, S_25, hc_23, h⟩ := fb_bd2_s h
      refine fb_vi (wd := wM cI cZ a) (As := [.int 2]) (rest := []) cx hH mwX8_refused (ctX8_refused l D cI cZ a hc_23) (M_rc0 cx hH) mlX8_118 (by decide) rfl hl.1 (Nat.le_of_ble_eq_true rfl) rfl dX8_kind_29 (fun H locs hH => ?_)
      obtain ⟨rfl, rfl⟩ := Prod.mk.inj (Option.some.inj h)
      exact fb_iret (wd := wM cI cZ a) cx rfl hH dX8_kind_32
set_option maxHeartbeats 4000000 in
set_option maxRecDepth 100000 in
theorem ctX8_change (l : Launch) (D : va_G) (cI cZ : ClassId) (a : Nat → Nat) {S : Sg} {x1 x2 x3 : Int32} {r : Int32} {S9 : Sg} (h : pX8_change S x1 x2 x3 = some (r, S9)) : CTi l D cI cZ (wM cI cZ a) yX8_change cX8_change 4 (some .boolean) 1 [.ref (a 0), .int x1, .int x2, .int x3] S r S9 := by
  refine fb_starti (by decide) (Nat.le_of_ble_eq_true rfl) (fun p e s m args below meth c ls cx hH hl => ?_)
  obtain ⟨hx, hb, -⟩ := id cx
  have hl : lv_has ls 4 [(0, .ref (a 0)), (1, .int x1), (2, .int x2), (3, .int x3)] := hl
  unfold pX8_change at h
  refine lv_aload_n hx hb dX8_change_0 rfl (lv_at hl 0 rfl) ?_
  refine lv_iconst (v := 0) hx hb dX8_change_1 (by decide) ?_
  obtain ⟨S_1, eS_1, h⟩ := fb_st_s h
  refine M_p0 cx hH lkX8_1 dX8_change_2 (fun H locs hH => ?_)
  rw [← eS_1] at hH
  refine lv_aload_n hx hb dX8_change_5 rfl (lv_at hl 0 rfl) ?_
  refine lv_iload_n hx hb dX8_change_6 rfl (lv_at hl 1 rfl) ?_
  obtain ⟨r_3, hc_2, h⟩ := fb_bd_s h
  refine fb_vi (wd := wM cI cZ a) (As := [.int x1]) (rest := []) cx hH mwX8_isKind (ctX8_isKind l D cI cZ a hc_2) (M_rc0 cx hH) mlX8_125 (by decide) rfl hl.1 (Nat.le_of_ble_eq_true rfl) rfl dX8_change_7 (fun H locs hH => ?_)
  refine lv_if_eq (tgt := 26) hx hb dX8_change_10 (by decide) (fun c_4 => ?_) (fun c_4 => ?_)
  · replace h := fb_ip c_4 h
    refine lv_aload_n hx hb dX8_change_26 rfl (lv_at hl 0 rfl) ?_
    refine lv_iconst (v := 1) hx hb dX8_change_27 (by decide) ?_
    obtain ⟨r_6, S_7, hc_5, h⟩ := fb_bd2_s h
    refine fb_vi (wd := wM cI cZ a) (As := [.int 1]) (rest := []) cx hH mwX8_denied (ctX8_denied l D cI cZ a hc_5) (M_rc0 cx hH) mlX8_129 (by decide) rfl hl.1 (Nat.le_of_ble_eq_true rfl) rfl dX8_change_28 (fun H locs hH => ?_)
    obtain ⟨hn, h⟩ := fb_cb_s h
    obtain ⟨rfl, rfl⟩ := Prod.mk.inj (Option.some.inj h)
    exact fb_zret (wd := wM cI cZ a) cx rfl hH hn dX8_change_31
  · replace h := fb_in c_4 h
    refine lv_aload_n hx hb dX8_change_13 rfl (lv_at hl 0 rfl) ?_
    refine lv_iload_n hx hb dX8_change_14 rfl (lv_at hl 2 rfl) ?_
    obtain ⟨r_9, hc_8, h⟩ := fb_bd_s h
    refine fb_vi (wd := wM cI cZ a) (As := [.int x2]) (rest := []) cx hH mwX8_isKind (ctX8_isKind l D cI cZ a hc_8) (M_rc0 cx hH) mlX8_125 (by decide) rfl hl.1 (Nat.le_of_ble_eq_true rfl) rfl dX8_change_15 (fun H locs hH => ?_)
    refine lv_if_eq (tgt := 26) hx hb dX8_change_18 (by decide) (fun c_10 => ?_) (fun c_10 => ?_)
    · replace h := fb_ip c_10 h
      refine lv_aload_n hx hb dX8_change_26 rfl (lv_at hl 0 rfl) ?_
      refine lv_iconst (v := 1) hx hb dX8_change_27 (by decide) ?_
      obtain ⟨r_12, S_13, hc_11, h⟩ := fb_bd2_s h
      refine fb_vi (wd := wM cI cZ a) (As := [.int 1]) (rest := []) cx hH mwX8_denied (ctX8_denied l D cI cZ a hc_11) (M_rc0 cx hH) mlX8_129 (by decide) rfl hl.1 (Nat.le_of_ble_eq_true rfl) rfl dX8_change_28 (fun H locs hH => ?_)
      obtain ⟨hn, h⟩ := fb_cb_s h
      obtain ⟨rfl, rfl⟩ := Prod.mk.inj (Option.some.inj h)
      exact fb_zret (wd := wM cI cZ a) cx rfl hH hn dX8_change_31
    · replace h := fb_in c_10 h
      refine lv_iload_n hx hb dX8_change_21 rfl (lv_at hl 1 rfl) ?_
      refine lv_iload_n hx hb dX8_change_22 rfl (lv_at hl 2 rfl) ?_
      refine lv_icmp_ne (tgt := 32) hx hb dX8_change_23 (by decide) (fun c_14 => ?_) (fun c_14 => ?_)
      · replace h := fb_in c_14 h
        refine lv_iload_n hx hb dX8_change_32 rfl (lv_at hl 3 rfl) ?_
        refine lv_iconst (v := 0) hx hb dX8_change_33 (by decide) ?_
        refine lv_bipush (v := 60) hx hb dX8_change_34 (by decide) ?_
        obtain ⟨r_16, hc_15, h⟩ := fb_bd_s h
        refine fb_si (wd := wM cI cZ a) (As := [.int x3, .int 0, .int 60]) (rest := []) cx hH mwX8_in (ctX8_in l D cI cZ a hc_15) mlX8_114 (by decide) rfl hl.1 (Nat.le_of_ble_eq_true rfl) rfl dX8_change_36 (fun H locs hH => ?_)
        refine lv_if_ne (tgt := 48) hx hb dX8_change_39 (by decide) (fun c_17 => ?_) (fun c_17 => ?_)
        · replace h := fb_in c_17 h
          refine lv_aload_n hx hb dX8_change_48 rfl (lv_at hl 0 rfl) ?_
          refine M_ra3 cx hH lkX8_29 dX8_change_49 ?_
          refine lv_iconst (v := 5) hx hb dX8_change_52 (by decide) ?_
          refine lv_iload_n hx hb dX8_change_53 rfl (lv_at hl 1 rfl) ?_
          refine lv_imul hx hb dX8_change_54 ?_
          refine lv_iload_n hx hb dX8_change_55 rfl (lv_at hl 2 rfl) ?_
          refine lv_iadd hx hb dX8_change_56 ?_
          refine lv_iload_n hx hb dX8_change_57 rfl (lv_at hl 3 rfl) ?_
          obtain ⟨hi_19, h⟩ := fb_ck_s h
          obtain ⟨S_18, eS_18, h⟩ := fb_st_s h
          refine M_s3 cx hH hi_19 dX8_change_58 (fun H locs hH => ?_)
          rw [← eS_18] at hH
          refine lv_aload_n hx hb dX8_change_59 rfl (lv_at hl 0 rfl) ?_
          obtain ⟨r_21, S_22, hc_20, h⟩ := fb_bd2_s h
          refine fb_vi (wd := wM cI cZ a) (As := []) (rest := []) cx hH mwX8_granted (ctX8_granted l D cI cZ a hc_20) (M_rc0 cx hH) mlX8_132 (by decide) rfl hl.1 (Nat.le_of_ble_eq_true rfl) rfl dX8_change_60 (fun H locs hH => ?_)
          obtain ⟨hn, h⟩ := fb_cb_s h
          obtain ⟨rfl, rfl⟩ := Prod.mk.inj (Option.some.inj h)
          exact fb_zret (wd := wM cI cZ a) cx rfl hH hn dX8_change_63
        · replace h := fb_ip c_17 h
          refine lv_aload_n hx hb dX8_change_42 rfl (lv_at hl 0 rfl) ?_
          refine lv_iconst (v := 2) hx hb dX8_change_43 (by decide) ?_
          obtain ⟨r_24, S_25, hc_23, h⟩ := fb_bd2_s h
          refine fb_vi (wd := wM cI cZ a) (As := [.int 2]) (rest := []) cx hH mwX8_denied (ctX8_denied l D cI cZ a hc_23) (M_rc0 cx hH) mlX8_129 (by decide) rfl hl.1 (Nat.le_of_ble_eq_true rfl) rfl dX8_change_44 (fun H locs hH => ?_)
          obtain ⟨hn, h⟩ := fb_cb_s h
          obtain ⟨rfl, rfl⟩ := Prod.mk.inj (Option.some.inj h)
          exact fb_zret (wd := wM cI cZ a) cx rfl hH hn dX8_change_47
      · replace h := fb_ip c_14 h
        refine lv_aload_n hx hb dX8_change_26 rfl (lv_at hl 0 rfl) ?_
        refine lv_iconst (v := 1) hx hb dX8_change_27 (by decide) ?_
        obtain ⟨r_27, S_28, hc_26, h⟩ := fb_bd2_s h
        refine fb_vi (wd := wM cI cZ a) (As := [.int 1]) (rest := []) cx hH mwX8_denied (ctX8_denied l D cI cZ a hc_26) (M_rc0 cx hH) mlX8_129 (by decide) rfl hl.1 (Nat.le_of_ble_eq_true rfl) rfl dX8_change_28 (fun H locs hH => ?_)
        obtain ⟨hn, h⟩ := fb_cb_s h
        obtain ⟨rfl, rfl⟩ := Prod.mk.inj (Option.some.inj h)
        exact fb_zret (wd := wM cI cZ a) cx rfl hH hn dX8_change_31
set_option maxHeartbeats 4000000 in
set_option maxRecDepth 100000 in
theorem ctX8_length (l : Launch) (D : va_G) (cI cZ : ClassId) (a : Nat → Nat) {S : Sg} {x1 : Int32} {r : Int32} {S9 : Sg} (h : pX8_length S x1 = some (r, S9)) : CTi l D cI cZ (wM cI cZ a) yX8_length cX8_length 3 (some .int) 1 [.ref (a 0), .int x1] S r S9 := by
  refine fb_starti (by decide) (Nat.le_of_ble_eq_true rfl) (fun p e s m args below meth c ls cx hH hl => ?_)
  obtain ⟨hx, hb, -⟩ := id cx
  have hl : lv_has ls 3 [(0, .ref (a 0)), (1, .int x1)] := hl
  have hL23 : ∀ (n : Nat), ∀ (T : Sg) (x1 x2 : Int32) (H : Heap) (locs : List Loc) (ls : Array Slot), pX8_length_l23 n T x1 x2 = some (r, S9) → HB D (wM cI cZ a S) (wM cI cZ a T) s H locs → lv_has ls 3 [(0, .ref (a 0)), (1, .int x1), (2, .int x2)] → W p l e (rmk 1) s m args below meth c H locs 0 0 (Ei D cI cZ (wM cI cZ a) S r S9 below args s) (F0 m 23 ls []) := by
    intro n23
    induction n23 with
    | zero => intro T x1 x2 H locs ls h hH hl; simp [pX8_length_l23] at h
    | succ n23 ih23 =>
      intro T x1 x2 H locs ls h hH hl
      rw [pX8_length_l23] at h
      refine lv_iload_n hx hb dX8_length_23 rfl (lv_at hl 2 rfl) ?_
      refine lv_aload_n hx hb dX8_length_24 rfl (lv_at hl 0 rfl) ?_
      refine M_g3 cx hH lkX8_111 dX8_length_25 ?_
      refine lv_icmp_ge (tgt := 53) hx hb dX8_length_28 (by decide) (fun c_26 => ?_) (fun c_26 => ?_)
      · replace h := fb_ip c_26 h
        refine lv_aload_n hx hb dX8_length_53 rfl (lv_at hl 0 rfl) ?_
        refine M_g3 cx hH lkX8_111 dX8_length_54 ?_
        refine lv_bipush (v := 6) hx hb dX8_length_57 (by decide) ?_
        refine lv_icmp_ne (tgt := 68) hx hb dX8_length_59 (by decide) (fun c_27 => ?_) (fun c_27 => ?_)
        · replace h := fb_in c_27 h
          refine lv_aload_n hx hb dX8_length_68 rfl (lv_at hl 0 rfl) ?_
          refine M_ra4 cx hH lkX8_32 dX8_length_69 ?_
          refine lv_aload_n hx hb dX8_length_72 rfl (lv_at hl 0 rfl) ?_
          refine M_g3 cx hH lkX8_111 dX8_length_73 ?_
          refine lv_iload_n hx hb dX8_length_76 rfl (lv_at hl 1 rfl) ?_
          obtain ⟨hi_29, h⟩ := fb_ck_s h
          obtain ⟨S_28, eS_28, h⟩ := fb_st_s h
          refine M_s4 cx hH hi_29 dX8_length_77 (fun H locs hH => ?_)
          rw [← eS_28] at hH
          refine lv_aload_n hx hb dX8_length_78 rfl (lv_at hl 0 rfl) ?_
          refine lv_dup hx hb dX8_length_79 rfl ?_
          refine M_g3 cx hH lkX8_111 dX8_length_80 ?_
          refine lv_iconst (v := 1) hx hb dX8_length_83 (by decide) ?_
          refine lv_iadd hx hb dX8_length_84 ?_
          obtain ⟨S_30, eS_30, h⟩ := fb_st_s h
          refine M_p3 cx hH lkX8_111 dX8_length_85 (fun H locs hH => ?_)
          rw [← eS_30] at hH
          refine lv_aload_n hx hb dX8_length_88 rfl (lv_at hl 0 rfl) ?_
          refine lv_aload_n hx hb dX8_length_89 rfl (lv_at hl 0 rfl) ?_
          refine M_g3 cx hH lkX8_111 dX8_length_90 ?_
          refine lv_iconst (v := 1) hx hb dX8_length_93 (by decide) ?_
          refine lv_isub hx hb dX8_length_94 ?_
          obtain ⟨r_32, S_33, hc_31, h⟩ := fb_bd2_s h
          refine fb_vi (wd := wM cI cZ a) (As := [.int ((S_30.1 3) - 1)]) (rest := []) cx hH mwX8_done (ctX8_done l D cI cZ a hc_31) (M_rc0 cx hH) mlX8_122 (by decide) rfl hl.1 (Nat.le_of_ble_eq_true rfl) rfl dX8_length_95 (fun H locs hH => ?_)
          obtain ⟨rfl, rfl⟩ := Prod.mk.inj (Option.some.inj h)
          exact fb_iret (wd := wM cI cZ a) cx rfl hH dX8_length_98
        · replace h := fb_ip c_27 h
          refine lv_aload_n hx hb dX8_length_62 rfl (lv_at hl 0 rfl) ?_
          refine lv_iconst (v := 3) hx hb dX8_length_63 (by decide) ?_
          obtain ⟨r_35, S_36, hc_34, h⟩ := fb_bd2_s h
          refine fb_vi (wd := wM cI cZ a) (As := [.int 3]) (rest := []) cx hH mwX8_refused (ctX8_refused l D cI cZ a hc_34) (M_rc0 cx hH) mlX8_118 (by decide) rfl hl.1 (Nat.le_of_ble_eq_true rfl) rfl dX8_length_64 (fun H locs hH => ?_)
          obtain ⟨rfl, rfl⟩ := Prod.mk.inj (Option.some.inj h)
          exact fb_iret (wd := wM cI cZ a) cx rfl hH dX8_length_67
      · replace h := fb_in c_26 h
        refine lv_aload_n hx hb dX8_length_31 rfl (lv_at hl 0 rfl) ?_
        refine M_ra4 cx hH lkX8_32 dX8_length_32 ?_
        refine lv_iload_n hx hb dX8_length_35 rfl (lv_at hl 2 rfl) ?_
        obtain ⟨hi_37, h⟩ := fb_ck_s h
        refine M_l4 cx hH hi_37 dX8_length_36 ?_
        refine lv_iload_n hx hb dX8_length_37 rfl (lv_at hl 1 rfl) ?_
        refine lv_icmp_ne (tgt := 47) hx hb dX8_length_38 (by decide) (fun c_38 => ?_) (fun c_38 => ?_)
        · replace h := fb_in c_38 h
          obtain ⟨x2_39, ex2_39, h⟩ := fb_vl_s h
          refine lv_iinc (v := x2_39) (lv' := [(2, .int x2_39), (0, .ref (a 0)), (1, .int x1)]) hx hb dX8_length_47 hl (k := 2) rfl (by rw [ex2_39]; rfl) (by decide) rfl (fun ls hl => ?_)
          refine lv_goto (tgt := 23) hx hb dX8_length_50 (by decide) ?_
          exact ih23 _ _ _ _ _ _ h hH (lv_sub hl [1, 2, 0] rfl)
        · replace h := fb_ip c_38 h
          refine lv_aload_n hx hb dX8_length_41 rfl (lv_at hl 0 rfl) ?_
          refine lv_iconst (v := 4) hx hb dX8_length_42 (by decide) ?_
          obtain ⟨r_41, S_42, hc_40, h⟩ := fb_bd2_s h
          refine fb_vi (wd := wM cI cZ a) (As := [.int 4]) (rest := []) cx hH mwX8_refused (ctX8_refused l D cI cZ a hc_40) (M_rc0 cx hH) mlX8_118 (by decide) rfl hl.1 (Nat.le_of_ble_eq_true rfl) rfl dX8_length_43 (fun H locs hH => ?_)
          obtain ⟨rfl, rfl⟩ := Prod.mk.inj (Option.some.inj h)
          exact fb_iret (wd := wM cI cZ a) cx rfl hH dX8_length_46
  unfold pX8_length at h
  refine lv_aload_n hx hb dX8_length_0 rfl (lv_at hl 0 rfl) ?_
  refine lv_iconst (v := 0) hx hb dX8_length_1 (by decide) ?_
  obtain ⟨S_18, eS_18, h⟩ := fb_st_s h
  refine M_p0 cx hH lkX8_1 dX8_length_2 (fun H locs hH => ?_)
  rw [← eS_18] at hH
  refine lv_iload_n hx hb dX8_length_5 rfl (lv_at hl 1 rfl) ?_
  refine lv_iconst (v := 5) hx hb dX8_length_6 (by decide) ?_
  refine lv_bipush (v := 80) hx hb dX8_length_7 (by decide) ?_
  obtain ⟨r_20, hc_19, h⟩ := fb_bd_s h
  refine fb_si (wd := wM cI cZ a) (As := [.int x1, .int 5, .int 80]) (rest := []) cx hH mwX8_in (ctX8_in l D cI cZ a hc_19) mlX8_114 (by decide) rfl hl.1 (Nat.le_of_ble_eq_true rfl) rfl dX8_length_9 (fun H locs hH => ?_)
  refine lv_if_ne (tgt := 21) hx hb dX8_length_12 (by decide) (fun c_21 => ?_) (fun c_21 => ?_)
  · replace h := fb_in c_21 h
    refine lv_iconst (v := 0) hx hb dX8_length_21 (by decide) ?_
    obtain ⟨x2_22, ex2_22, h⟩ := fb_vl_s h
    refine fb_top ex2_22 ?_
    refine lv_istore_n (lv' := [(2, .int x2_22), (0, .ref (a 0)), (1, .int x1)]) hx hb dX8_length_22 rfl hl (by decide) rfl (fun ls hl => ?_)
    exact hL23 5000 _ _ _ _ _ _ h hH (lv_sub hl [1, 2, 0] rfl)
  · replace h := fb_ip c_21 h
    refine lv_aload_n hx hb dX8_length_15 rfl (lv_at hl 0 rfl) ?_
    refine lv_iconst (v := 2) hx hb dX8_length_16 (by decide) ?_
    obtain ⟨r_24, S_25, hc_23, h⟩ := fb_bd2_s h
    refine fb_vi (wd := wM cI cZ a) (As := [.int 2]) (rest := []) cx hH mwX8_refused (ctX8_refused l D cI cZ a hc_23) (M_rc0 cx hH) mlX8_118 (by decide) rfl hl.1 (Nat.le_of_ble_eq_true rfl) rfl dX8_length_17 (fun H locs hH => ?_)
    obtain ⟨rfl, rfl⟩ := Prod.mk.inj (Option.some.inj h)
    exact fb_iret (wd := wM cI cZ a) cx rfl hH dX8_length_20
set_option maxHeartbeats 4000000 in
set_option maxRecDepth 100000 in
theorem ctX8_worth (l : Launch) (D : va_G) (cI cZ : ClassId) (a : Nat → Nat) {S : Sg} {x1 x2 x3 : Int32} {r : Int32} {S9 : Sg} (h : pX8_worth S x1 x2 x3 = some (r, S9)) : CTi l D cI cZ (wM cI cZ a) yX8_worth cX8_worth 4 (some .boolean) 1 [.ref (a 0), .int x1, .int x2, .int x3] S r S9 := by
  refine fb_starti (by decide) (Nat.le_of_ble_eq_true rfl) (fun p e s m args below meth c ls cx hH hl => ?_)
  obtain ⟨hx, hb, -⟩ := id cx
  have hl : lv_has ls 4 [(0, .ref (a 0)), (1, .int x1), (2, .int x2), (3, .int x3)] := hl
  unfold pX8_worth at h
  refine lv_aload_n hx hb dX8_worth_0 rfl (lv_at hl 0 rfl) ?_
  refine lv_iconst (v := 0) hx hb dX8_worth_1 (by decide) ?_
  obtain ⟨S_1, eS_1, h⟩ := fb_st_s h
  refine M_p0 cx hH lkX8_1 dX8_worth_2 (fun H locs hH => ?_)
  rw [← eS_1] at hH
  refine lv_aload_n hx hb dX8_worth_5 rfl (lv_at hl 0 rfl) ?_
  refine lv_iload_n hx hb dX8_worth_6 rfl (lv_at hl 1 rfl) ?_
  obtain ⟨r_3, hc_2, h⟩ := fb_bd_s h
  refine fb_vi (wd := wM cI cZ a) (As := [.int x1]) (rest := []) cx hH mwX8_isLength (ctX8_isLength l D cI cZ a hc_2) (M_rc0 cx hH) mlX8_136 (by decide) rfl hl.1 (Nat.le_of_ble_eq_true rfl) rfl dX8_worth_7 (fun H locs hH => ?_)
  refine lv_if_eq (tgt := 21) hx hb dX8_worth_10 (by decide) (fun c_4 => ?_) (fun c_4 => ?_)
  · replace h := fb_ip c_4 h
    refine lv_aload_n hx hb dX8_worth_21 rfl (lv_at hl 0 rfl) ?_
    refine lv_iconst (v := 1) hx hb dX8_worth_22 (by decide) ?_
    obtain ⟨r_6, S_7, hc_5, h⟩ := fb_bd2_s h
    refine fb_vi (wd := wM cI cZ a) (As := [.int 1]) (rest := []) cx hH mwX8_denied (ctX8_denied l D cI cZ a hc_5) (M_rc0 cx hH) mlX8_129 (by decide) rfl hl.1 (Nat.le_of_ble_eq_true rfl) rfl dX8_worth_23 (fun H locs hH => ?_)
    obtain ⟨hn, h⟩ := fb_cb_s h
    obtain ⟨rfl, rfl⟩ := Prod.mk.inj (Option.some.inj h)
    exact fb_zret (wd := wM cI cZ a) cx rfl hH hn dX8_worth_26
  · replace h := fb_in c_4 h
    refine lv_aload_n hx hb dX8_worth_13 rfl (lv_at hl 0 rfl) ?_
    refine lv_iload_n hx hb dX8_worth_14 rfl (lv_at hl 2 rfl) ?_
    obtain ⟨r_9, hc_8, h⟩ := fb_bd_s h
    refine fb_vi (wd := wM cI cZ a) (As := [.int x2]) (rest := []) cx hH mwX8_isKind (ctX8_isKind l D cI cZ a hc_8) (M_rc0 cx hH) mlX8_125 (by decide) rfl hl.1 (Nat.le_of_ble_eq_true rfl) rfl dX8_worth_15 (fun H locs hH => ?_)
    refine lv_if_ne (tgt := 27) hx hb dX8_worth_18 (by decide) (fun c_10 => ?_) (fun c_10 => ?_)
    · replace h := fb_in c_10 h
      refine lv_iload_n hx hb dX8_worth_27 rfl (lv_at hl 3 rfl) ?_
      refine lv_iconst (v := 0) hx hb dX8_worth_28 (by decide) ?_
      refine lv_sipush (v := 999) hx hb dX8_worth_29 (by decide) ?_
      obtain ⟨r_12, hc_11, h⟩ := fb_bd_s h
      refine fb_si (wd := wM cI cZ a) (As := [.int x3, .int 0, .int 999]) (rest := []) cx hH mwX8_in (ctX8_in l D cI cZ a hc_11) mlX8_114 (by decide) rfl hl.1 (Nat.le_of_ble_eq_true rfl) rfl dX8_worth_32 (fun H locs hH => ?_)
      refine lv_if_ne (tgt := 44) hx hb dX8_worth_35 (by decide) (fun c_13 => ?_) (fun c_13 => ?_)
      · replace h := fb_in c_13 h
        refine lv_aload_n hx hb dX8_worth_44 rfl (lv_at hl 0 rfl) ?_
        refine M_ra5 cx hH lkX8_35 dX8_worth_45 ?_
        refine lv_bipush (v := 6) hx hb dX8_worth_48 (by decide) ?_
        refine lv_iload_n hx hb dX8_worth_50 rfl (lv_at hl 2 rfl) ?_
        refine lv_imul hx hb dX8_worth_51 ?_
        refine lv_iload_n hx hb dX8_worth_52 rfl (lv_at hl 1 rfl) ?_
        refine lv_iadd hx hb dX8_worth_53 ?_
        refine lv_iload_n hx hb dX8_worth_54 rfl (lv_at hl 3 rfl) ?_
        obtain ⟨hi_15, h⟩ := fb_ck_s h
        obtain ⟨S_14, eS_14, h⟩ := fb_st_s h
        refine M_s5 cx hH hi_15 dX8_worth_55 (fun H locs hH => ?_)
        rw [← eS_14] at hH
        refine lv_aload_n hx hb dX8_worth_56 rfl (lv_at hl 0 rfl) ?_
        obtain ⟨r_17, S_18, hc_16, h⟩ := fb_bd2_s h
        refine fb_vi (wd := wM cI cZ a) (As := []) (rest := []) cx hH mwX8_granted (ctX8_granted l D cI cZ a hc_16) (M_rc0 cx hH) mlX8_132 (by decide) rfl hl.1 (Nat.le_of_ble_eq_true rfl) rfl dX8_worth_57 (fun H locs hH => ?_)
        obtain ⟨hn, h⟩ := fb_cb_s h
        obtain ⟨rfl, rfl⟩ := Prod.mk.inj (Option.some.inj h)
        exact fb_zret (wd := wM cI cZ a) cx rfl hH hn dX8_worth_60
      · replace h := fb_ip c_13 h
        refine lv_aload_n hx hb dX8_worth_38 rfl (lv_at hl 0 rfl) ?_
        refine lv_iconst (v := 2) hx hb dX8_worth_39 (by decide) ?_
        obtain ⟨r_20, S_21, hc_19, h⟩ := fb_bd2_s h
        refine fb_vi (wd := wM cI cZ a) (As := [.int 2]) (rest := []) cx hH mwX8_denied (ctX8_denied l D cI cZ a hc_19) (M_rc0 cx hH) mlX8_129 (by decide) rfl hl.1 (Nat.le_of_ble_eq_true rfl) rfl dX8_worth_40 (fun H locs hH => ?_)
        obtain ⟨hn, h⟩ := fb_cb_s h
        obtain ⟨rfl, rfl⟩ := Prod.mk.inj (Option.some.inj h)
        exact fb_zret (wd := wM cI cZ a) cx rfl hH hn dX8_worth_43
    · replace h := fb_ip c_10 h
      refine lv_aload_n hx hb dX8_worth_21 rfl (lv_at hl 0 rfl) ?_
      refine lv_iconst (v := 1) hx hb dX8_worth_22 (by decide) ?_
      obtain ⟨r_23, S_24, hc_22, h⟩ := fb_bd2_s h
      refine fb_vi (wd := wM cI cZ a) (As := [.int 1]) (rest := []) cx hH mwX8_denied (ctX8_denied l D cI cZ a hc_22) (M_rc0 cx hH) mlX8_129 (by decide) rfl hl.1 (Nat.le_of_ble_eq_true rfl) rfl dX8_worth_23 (fun H locs hH => ?_)
      obtain ⟨hn, h⟩ := fb_cb_s h
      obtain ⟨rfl, rfl⟩ := Prod.mk.inj (Option.some.inj h)
      exact fb_zret (wd := wM cI cZ a) cx rfl hH hn dX8_worth_26
set_option maxHeartbeats 4000000 in
set_option maxRecDepth 100000 in
theorem ctX8_size (l : Launch) (D : va_G) (cI cZ : ClassId) (a : Nat → Nat) {S : Sg} {x1 x2 : Int32} {r : Int32} {S9 : Sg} (h : pX8_size S x1 x2 = some (r, S9)) : CTi l D cI cZ (wM cI cZ a) yX8_size cX8_size 3 (some .boolean) 1 [.ref (a 0), .int x1, .int x2] S r S9 := by
  refine fb_starti (by decide) (Nat.le_of_ble_eq_true rfl) (fun p e s m args below meth c ls cx hH hl => ?_)
  obtain ⟨hx, hb, -⟩ := id cx
  have hl : lv_has ls 3 [(0, .ref (a 0)), (1, .int x1), (2, .int x2)] := hl
  unfold pX8_size at h
  refine lv_aload_n hx hb dX8_size_0 rfl (lv_at hl 0 rfl) ?_
  refine lv_iconst (v := 0) hx hb dX8_size_1 (by decide) ?_
  obtain ⟨S_1, eS_1, h⟩ := fb_st_s h
  refine M_p0 cx hH lkX8_1 dX8_size_2 (fun H locs hH => ?_)
  rw [← eS_1] at hH
  refine lv_iload_n hx hb dX8_size_5 rfl (lv_at hl 1 rfl) ?_
  refine lv_iconst (v := 1) hx hb dX8_size_6 (by decide) ?_
  refine lv_bipush (v := 60) hx hb dX8_size_7 (by decide) ?_
  obtain ⟨r_3, hc_2, h⟩ := fb_bd_s h
  refine fb_si (wd := wM cI cZ a) (As := [.int x1, .int 1, .int 60]) (rest := []) cx hH mwX8_in (ctX8_in l D cI cZ a hc_2) mlX8_114 (by decide) rfl hl.1 (Nat.le_of_ble_eq_true rfl) rfl dX8_size_9 (fun H locs hH => ?_)
  refine lv_if_eq (tgt := 25) hx hb dX8_size_12 (by decide) (fun c_4 => ?_) (fun c_4 => ?_)
  · replace h := fb_ip c_4 h
    refine lv_aload_n hx hb dX8_size_25 rfl (lv_at hl 0 rfl) ?_
    refine lv_iconst (v := 2) hx hb dX8_size_26 (by decide) ?_
    obtain ⟨r_6, S_7, hc_5, h⟩ := fb_bd2_s h
    refine fb_vi (wd := wM cI cZ a) (As := [.int 2]) (rest := []) cx hH mwX8_denied (ctX8_denied l D cI cZ a hc_5) (M_rc0 cx hH) mlX8_129 (by decide) rfl hl.1 (Nat.le_of_ble_eq_true rfl) rfl dX8_size_27 (fun H locs hH => ?_)
    obtain ⟨hn, h⟩ := fb_cb_s h
    obtain ⟨rfl, rfl⟩ := Prod.mk.inj (Option.some.inj h)
    exact fb_zret (wd := wM cI cZ a) cx rfl hH hn dX8_size_30
  · replace h := fb_in c_4 h
    refine lv_iload_n hx hb dX8_size_15 rfl (lv_at hl 2 rfl) ?_
    refine lv_iconst (v := 1) hx hb dX8_size_16 (by decide) ?_
    refine lv_bipush (v := 60) hx hb dX8_size_17 (by decide) ?_
    obtain ⟨r_9, hc_8, h⟩ := fb_bd_s h
    refine fb_si (wd := wM cI cZ a) (As := [.int x2, .int 1, .int 60]) (rest := []) cx hH mwX8_in (ctX8_in l D cI cZ a hc_8) mlX8_114 (by decide) rfl hl.1 (Nat.le_of_ble_eq_true rfl) rfl dX8_size_19 (fun H locs hH => ?_)
    refine lv_if_ne (tgt := 31) hx hb dX8_size_22 (by decide) (fun c_10 => ?_) (fun c_10 => ?_)
    · replace h := fb_in c_10 h
      refine lv_aload_n hx hb dX8_size_31 rfl (lv_at hl 0 rfl) ?_
      refine M_g10 cx hH lkX8_139 dX8_size_32 ?_
      refine lv_if_le (tgt := 44) hx hb dX8_size_35 (by decide) (fun c_11 => ?_) (fun c_11 => ?_)
      · replace h := fb_ip c_11 h
        refine lv_aload_n hx hb dX8_size_44 rfl (lv_at hl 0 rfl) ?_
        refine lv_iload_n hx hb dX8_size_45 rfl (lv_at hl 1 rfl) ?_
        obtain ⟨S_12, eS_12, h⟩ := fb_st_s h
        refine M_p4 cx hH lkX8_16 dX8_size_46 (fun H locs hH => ?_)
        rw [← eS_12] at hH
        refine lv_aload_n hx hb dX8_size_49 rfl (lv_at hl 0 rfl) ?_
        refine lv_iload_n hx hb dX8_size_50 rfl (lv_at hl 2 rfl) ?_
        obtain ⟨S_13, eS_13, h⟩ := fb_st_s h
        refine M_p5 cx hH lkX8_19 dX8_size_51 (fun H locs hH => ?_)
        rw [← eS_13] at hH
        refine lv_aload_n hx hb dX8_size_54 rfl (lv_at hl 0 rfl) ?_
        obtain ⟨r_15, S_16, hc_14, h⟩ := fb_bd2_s h
        refine fb_vi (wd := wM cI cZ a) (As := []) (rest := []) cx hH mwX8_granted (ctX8_granted l D cI cZ a hc_14) (M_rc0 cx hH) mlX8_132 (by decide) rfl hl.1 (Nat.le_of_ble_eq_true rfl) rfl dX8_size_55 (fun H locs hH => ?_)
        obtain ⟨hn, h⟩ := fb_cb_s h
        obtain ⟨rfl, rfl⟩ := Prod.mk.inj (Option.some.inj h)
        exact fb_zret (wd := wM cI cZ a) cx rfl hH hn dX8_size_58
      · replace h := fb_in c_11 h
        refine lv_aload_n hx hb dX8_size_38 rfl (lv_at hl 0 rfl) ?_
        refine lv_iconst (v := 4) hx hb dX8_size_39 (by decide) ?_
        obtain ⟨r_18, S_19, hc_17, h⟩ := fb_bd2_s h
        refine fb_vi (wd := wM cI cZ a) (As := [.int 4]) (rest := []) cx hH mwX8_denied (ctX8_denied l D cI cZ a hc_17) (M_rc0 cx hH) mlX8_129 (by decide) rfl hl.1 (Nat.le_of_ble_eq_true rfl) rfl dX8_size_40 (fun H locs hH => ?_)
        obtain ⟨hn, h⟩ := fb_cb_s h
        obtain ⟨rfl, rfl⟩ := Prod.mk.inj (Option.some.inj h)
        exact fb_zret (wd := wM cI cZ a) cx rfl hH hn dX8_size_43
    · replace h := fb_ip c_10 h
      refine lv_aload_n hx hb dX8_size_25 rfl (lv_at hl 0 rfl) ?_
      refine lv_iconst (v := 2) hx hb dX8_size_26 (by decide) ?_
      obtain ⟨r_21, S_22, hc_20, h⟩ := fb_bd2_s h
      refine fb_vi (wd := wM cI cZ a) (As := [.int 2]) (rest := []) cx hH mwX8_denied (ctX8_denied l D cI cZ a hc_20) (M_rc0 cx hH) mlX8_129 (by decide) rfl hl.1 (Nat.le_of_ble_eq_true rfl) rfl dX8_size_27 (fun H locs hH => ?_)
      obtain ⟨hn, h⟩ := fb_cb_s h
      obtain ⟨rfl, rfl⟩ := Prod.mk.inj (Option.some.inj h)
      exact fb_zret (wd := wM cI cZ a) cx rfl hH hn dX8_size_30
set_option maxHeartbeats 4000000 in
set_option maxRecDepth 100000 in
theorem ctX8_belt (l : Launch) (D : va_G) (cI cZ : ClassId) (a : Nat → Nat) {S : Sg} {r : Int32} (h : pX8_belt S = some r) : CTi l D cI cZ (wM cI cZ a) yX8_belt cX8_belt 3 (some .int) 0 [.ref (a 0)] S r S := by
  refine fb_starti (by decide) (Nat.le_of_ble_eq_true rfl) (fun p e s m args below meth c ls cx hH hl => ?_)
  obtain ⟨hx, hb, -⟩ := id cx
  have hl : lv_has ls 3 [(0, .ref (a 0))] := hl
  have hL4 : ∀ (n : Nat), ∀ (x1 x2 : Int32) (H : Heap) (locs : List Loc) (ls : Array Slot), pX8_belt_l4 S n x1 x2 = some r → HB D (wM cI cZ a S) (wM cI cZ a S) s H locs → lv_has ls 3 [(0, .ref (a 0)), (1, .int x1), (2, .int x2)] → W p l e (rmk 0) s m args below meth c H locs 0 0 (Ei D cI cZ (wM cI cZ a) S r S below args s) (F0 m 4 ls []) := by
    intro n4
    induction n4 with
    | zero => intro x1 x2 H locs ls h hH hl; simp [pX8_belt_l4] at h
    | succ n4 ih4 =>
      intro x1 x2 H locs ls h hH hl
      rw [pX8_belt_l4] at h
      refine lv_iload_n hx hb dX8_belt_4 rfl (lv_at hl 2 rfl) ?_
      refine lv_aload_n hx hb dX8_belt_5 rfl (lv_at hl 0 rfl) ?_
      refine M_g8 cx hH lkX8_142 dX8_belt_6 ?_
      refine lv_icmp_ge (tgt := 27) hx hb dX8_belt_9 (by decide) (fun c_7 => ?_) (fun c_7 => ?_)
      · replace h := fb_ip c_7 h
        refine lv_iload_n hx hb dX8_belt_27 rfl (lv_at hl 1 rfl) ?_
        obtain rfl := Option.some.inj h
        exact fb_iret (wd := wM cI cZ a) cx rfl hH dX8_belt_28
      · replace h := fb_in c_7 h
        refine lv_iload_n hx hb dX8_belt_12 rfl (lv_at hl 1 rfl) ?_
        refine lv_aload_n hx hb dX8_belt_13 rfl (lv_at hl 0 rfl) ?_
        refine M_ra7 cx hH lkX8_41 dX8_belt_14 ?_
        refine lv_iload_n hx hb dX8_belt_17 rfl (lv_at hl 2 rfl) ?_
        obtain ⟨hi_8, h⟩ := fb_ck_s h
        refine M_l7 cx hH hi_8 dX8_belt_18 ?_
        refine lv_iadd hx hb dX8_belt_19 ?_
        obtain ⟨x1_9, ex1_9, h⟩ := fb_vl_s h
        refine fb_top ex1_9 ?_
        refine lv_istore_n (lv' := [(1, .int x1_9), (0, .ref (a 0)), (2, .int x2)]) hx hb dX8_belt_20 rfl hl (by decide) rfl (fun ls hl => ?_)
        obtain ⟨x2_10, ex2_10, h⟩ := fb_vl_s h
        refine lv_iinc (v := x2_10) (lv' := [(2, .int x2_10), (1, .int x1_9), (0, .ref (a 0))]) hx hb dX8_belt_21 hl (k := 2) rfl (by rw [ex2_10]; rfl) (by decide) rfl (fun ls hl => ?_)
        refine lv_goto (tgt := 4) hx hb dX8_belt_24 (by decide) ?_
        exact ih4 _ _ _ _ _ h hH (lv_sub hl [2, 1, 0] rfl)
  unfold pX8_belt at h
  refine lv_iconst (v := 0) hx hb dX8_belt_0 (by decide) ?_
  obtain ⟨x1_5, ex1_5, h⟩ := fb_vl_s h
  refine fb_top ex1_5 ?_
  refine lv_istore_n (lv' := [(1, .int x1_5), (0, .ref (a 0))]) hx hb dX8_belt_1 rfl hl (by decide) rfl (fun ls hl => ?_)
  refine lv_iconst (v := 0) hx hb dX8_belt_2 (by decide) ?_
  obtain ⟨x2_6, ex2_6, h⟩ := fb_vl_s h
  refine fb_top ex2_6 ?_
  refine lv_istore_n (lv' := [(2, .int x2_6), (1, .int x1_5), (0, .ref (a 0))]) hx hb dX8_belt_3 rfl hl (by decide) rfl (fun ls hl => ?_)
  exact hL4 5000 _ _ _ _ _ h hH (lv_sub hl [2, 1, 0] rfl)
set_option maxHeartbeats 4000000 in
set_option maxRecDepth 100000 in
theorem ctX8_lays (l : Launch) (D : va_G) (cI cZ : ClassId) (a : Nat → Nat) {S : Sg} {x1 x2 x3 : Int32} {S9 : Sg} (h : pX8_lays S x1 x2 x3 = some S9) : CTv l D cI cZ (wM cI cZ a) yX8_lays cX8_lays 4 0 [.ref (a 0), .int x1, .int x2, .int x3] S S9 := by
  refine fb_startv (by decide) (Nat.le_of_ble_eq_true rfl) (fun p e s m args below meth c ls cx hH hl => ?_)
  obtain ⟨hx, hb, -⟩ := id cx
  have hl : lv_has ls 4 [(0, .ref (a 0)), (1, .int x1), (2, .int x2), (3, .int x3)] := hl
  unfold pX8_lays at h
  refine lv_aload_n hx hb dX8_lays_0 rfl (lv_at hl 0 rfl) ?_
  refine M_ra6 cx hH lkX8_38 dX8_lays_1 ?_
  refine lv_aload_n hx hb dX8_lays_4 rfl (lv_at hl 0 rfl) ?_
  refine M_g8 cx hH lkX8_142 dX8_lays_5 ?_
  refine lv_iload_n hx hb dX8_lays_8 rfl (lv_at hl 1 rfl) ?_
  obtain ⟨hi_2, h⟩ := fb_ck_s h
  obtain ⟨S_1, eS_1, h⟩ := fb_st_s h
  refine M_s6 cx hH hi_2 dX8_lays_9 (fun H locs hH => ?_)
  rw [← eS_1] at hH
  refine lv_aload_n hx hb dX8_lays_10 rfl (lv_at hl 0 rfl) ?_
  refine M_ra7 cx hH lkX8_41 dX8_lays_11 ?_
  refine lv_aload_n hx hb dX8_lays_14 rfl (lv_at hl 0 rfl) ?_
  refine M_g8 cx hH lkX8_142 dX8_lays_15 ?_
  refine lv_iload_n hx hb dX8_lays_18 rfl (lv_at hl 2 rfl) ?_
  obtain ⟨hi_4, h⟩ := fb_ck_s h
  obtain ⟨S_3, eS_3, h⟩ := fb_st_s h
  refine M_s7 cx hH hi_4 dX8_lays_19 (fun H locs hH => ?_)
  rw [← eS_3] at hH
  refine lv_aload_n hx hb dX8_lays_20 rfl (lv_at hl 0 rfl) ?_
  refine M_ra8 cx hH lkX8_44 dX8_lays_21 ?_
  refine lv_aload_n hx hb dX8_lays_24 rfl (lv_at hl 0 rfl) ?_
  refine M_g8 cx hH lkX8_142 dX8_lays_25 ?_
  refine lv_iload_n hx hb dX8_lays_28 rfl (lv_at hl 3 rfl) ?_
  obtain ⟨hi_6, h⟩ := fb_ck_s h
  obtain ⟨S_5, eS_5, h⟩ := fb_st_s h
  refine M_s8 cx hH hi_6 dX8_lays_29 (fun H locs hH => ?_)
  rw [← eS_5] at hH
  refine lv_aload_n hx hb dX8_lays_30 rfl (lv_at hl 0 rfl) ?_
  refine lv_dup hx hb dX8_lays_31 rfl ?_
  refine M_g8 cx hH lkX8_142 dX8_lays_32 ?_
  refine lv_iconst (v := 1) hx hb dX8_lays_35 (by decide) ?_
  refine lv_iadd hx hb dX8_lays_36 ?_
  obtain ⟨S_7, eS_7, h⟩ := fb_st_s h
  refine M_p8 cx hH lkX8_142 dX8_lays_37 (fun H locs hH => ?_)
  rw [← eS_7] at hH
  obtain rfl := Option.some.inj h
  exact fb_vret (wd := wM cI cZ a) cx hH dX8_lays_40
set_option maxHeartbeats 4000000 in
set_option maxRecDepth 100000 in
theorem ctX8_pour (l : Launch) (D : va_G) (cI cZ : ClassId) (a : Nat → Nat) {S : Sg} {x1 x2 : Int32} {r : Int32} {S9 : Sg} (h : pX8_pour S x1 x2 = some (r, S9)) : CTi l D cI cZ (wM cI cZ a) yX8_pour cX8_pour 7 (some .int) 1 [.ref (a 0), .int x1, .int x2] S r S9 := by
  refine fb_starti (by decide) (Nat.le_of_ble_eq_true rfl) (fun p e s m args below meth c ls cx hH hl => ?_)
  obtain ⟨hx, hb, -⟩ := id cx
  have hl : lv_has ls 7 [(0, .ref (a 0)), (1, .int x1), (2, .int x2)] := hl
  have hJ166 : ∀ (T : Sg) (x1 x2 x4 : Int32) (H : Heap) (locs : List Loc) (ls : Array Slot), pX8_pour_j166 T x1 x2 x4 = some (r, S9) → HB D (wM cI cZ a S) (wM cI cZ a T) s H locs → lv_has ls 7 [(0, .ref (a 0)), (1, .int x1), (2, .int x2), (4, .int x4)] → W p l e (rmk 1) s m args below meth c H locs 0 0 (Ei D cI cZ (wM cI cZ a) S r S9 below args s) (F0 m 166 ls []) := by
    intro T x1 x2 x4 H locs ls h hH hl
    unfold pX8_pour_j166 at h
    refine lv_iload hx hb dX8_pour_166 (lv_at hl 3 rfl) ?_
    refine lv_if_eq (tgt := 189) hx hb dX8_pour_168 (by decide) (fun c_56 => ?_) (fun c_56 => ?_)
    · replace h := fb_ip c_56 h
      refine lv_aload_n hx hb dX8_pour_189 rfl (lv_at hl 0 rfl) ?_
      refine lv_iload_n hx hb dX8_pour_190 rfl (lv_at hl 1 rfl) ?_
      refine lv_iload_n hx hb dX8_pour_191 rfl (lv_at hl 2 rfl) ?_
      refine lv_aload_n hx hb dX8_pour_192 rfl (lv_at hl 0 rfl) ?_
      refine M_g9 cx hH lkX8_153 dX8_pour_193 ?_
      obtain ⟨S_58, hc_57, h⟩ := fb_bd_s h
      refine fb_vv (wd := wM cI cZ a) (As := [.int x1, .int x2, .int (T.1 9)]) (rest := []) cx hH mwX8_lays (ctX8_lays l D cI cZ a hc_57) (M_rc0 cx hH) mlX8_149 (by decide) rfl hl.1 (Nat.le_of_ble_eq_true rfl) rfl dX8_pour_196 (fun H locs hH => ?_)
      refine lv_aload_n hx hb dX8_pour_199 rfl (lv_at hl 0 rfl) ?_
      refine lv_dup hx hb dX8_pour_200 rfl ?_
      refine M_g9 cx hH lkX8_153 dX8_pour_201 ?_
      refine lv_iconst (v := 1) hx hb dX8_pour_204 (by decide) ?_
      refine lv_iadd hx hb dX8_pour_205 ?_
      obtain ⟨S_59, eS_59, h⟩ := fb_st_s h
      refine M_p9 cx hH lkX8_153 dX8_pour_206 (fun H locs hH => ?_)
      rw [← eS_59] at hH
      refine lv_aload_n hx hb dX8_pour_209 rfl (lv_at hl 0 rfl) ?_
      refine lv_aload_n hx hb dX8_pour_210 rfl (lv_at hl 0 rfl) ?_
      obtain ⟨r_61, hc_60, h⟩ := fb_bd_s h
      refine fb_vi (wd := wM cI cZ a) (As := []) (rest := [.ref (a 0)]) cx hH mwX8_belt (ctX8_belt l D cI cZ a hc_60) (M_rc0 cx hH) mlX8_145 (by decide) rfl hl.1 (Nat.le_of_ble_eq_true rfl) rfl dX8_pour_211 (fun H locs hH => ?_)
      obtain ⟨r_63, S_64, hc_62, h⟩ := fb_bd2_s h
      refine fb_vi (wd := wM cI cZ a) (As := [.int r_61]) (rest := []) cx hH mwX8_done (ctX8_done l D cI cZ a hc_62) (M_rc0 cx hH) mlX8_122 (by decide) rfl hl.1 (Nat.le_of_ble_eq_true rfl) rfl dX8_pour_214 (fun H locs hH => ?_)
      obtain ⟨rfl, rfl⟩ := Prod.mk.inj (Option.some.inj h)
      exact fb_iret (wd := wM cI cZ a) cx rfl hH dX8_pour_217
    · replace h := fb_in c_56 h
      refine lv_aload_n hx hb dX8_pour_171 rfl (lv_at hl 0 rfl) ?_
      refine M_ra7 cx hH lkX8_41 dX8_pour_172 ?_
      refine lv_aload_n hx hb dX8_pour_175 rfl (lv_at hl 0 rfl) ?_
      refine M_g8 cx hH lkX8_142 dX8_pour_176 ?_
      refine lv_iconst (v := 1) hx hb dX8_pour_179 (by decide) ?_
      refine lv_isub hx hb dX8_pour_180 ?_
      refine lv_dup2_11 hx hb dX8_pour_181 rfl rfl ?_
      obtain ⟨hi_65, h⟩ := fb_ck_s h
      refine M_l7 cx hH hi_65 dX8_pour_182 ?_
      refine lv_iload_n hx hb dX8_pour_183 rfl (lv_at hl 2 rfl) ?_
      refine lv_iadd hx hb dX8_pour_184 ?_
      obtain ⟨hi_67, h⟩ := fb_ck_s h
      obtain ⟨S_66, eS_66, h⟩ := fb_st_s h
      refine M_s7 cx hH hi_67 dX8_pour_185 (fun H locs hH => ?_)
      rw [← eS_66] at hH
      refine lv_goto (tgt := 209) hx hb dX8_pour_186 (by decide) ?_
      refine lv_aload_n hx hb dX8_pour_209 rfl (lv_at hl 0 rfl) ?_
      refine lv_aload_n hx hb dX8_pour_210 rfl (lv_at hl 0 rfl) ?_
      obtain ⟨r_69, hc_68, h⟩ := fb_bd_s h
      refine fb_vi (wd := wM cI cZ a) (As := []) (rest := [.ref (a 0)]) cx hH mwX8_belt (ctX8_belt l D cI cZ a hc_68) (M_rc0 cx hH) mlX8_145 (by decide) rfl hl.1 (Nat.le_of_ble_eq_true rfl) rfl dX8_pour_211 (fun H locs hH => ?_)
      obtain ⟨r_71, S_72, hc_70, h⟩ := fb_bd2_s h
      refine fb_vi (wd := wM cI cZ a) (As := [.int r_69]) (rest := []) cx hH mwX8_done (ctX8_done l D cI cZ a hc_70) (M_rc0 cx hH) mlX8_122 (by decide) rfl hl.1 (Nat.le_of_ble_eq_true rfl) rfl dX8_pour_214 (fun H locs hH => ?_)
      obtain ⟨rfl, rfl⟩ := Prod.mk.inj (Option.some.inj h)
      exact fb_iret (wd := wM cI cZ a) cx rfl hH dX8_pour_217
  have hJ116 : ∀ (T : Sg) (x1 x2 x4 x5 t0 : Int32) (H : Heap) (locs : List Loc) (ls : Array Slot), pX8_pour_j116 T x1 x2 x4 x5 t0 = some (r, S9) → HB D (wM cI cZ a S) (wM cI cZ a T) s H locs → lv_has ls 7 [(0, .ref (a 0)), (1, .int x1), (2, .int x2), (4, .int x4), (5, .int x5)] → W p l e (rmk 1) s m args below meth c H locs 0 0 (Ei D cI cZ (wM cI cZ a) S r S9 below args s) (F0 m 116 ls [.int t0]) := by
    intro T x1 x2 x4 x5 t0 H locs ls h hH hl
    unfold pX8_pour_j116 at h
    obtain ⟨x6_73, ex6_73, h⟩ := fb_vl_s h
    refine fb_top ex6_73 ?_
    refine lv_istore (lv' := [(6, .int x6_73), (0, .ref (a 0)), (1, .int x1), (2, .int x2), (4, .int x4), (5, .int x5)]) hx hb dX8_pour_116 hl (by decide) rfl (fun ls hl => ?_)
    refine lv_aload_n hx hb dX8_pour_118 rfl (lv_at hl 1 rfl) ?_
    obtain ⟨r_75, hc_74, h⟩ := fb_bd_s h
    refine fb_vi (wd := wM cI cZ a) (As := []) (rest := []) cx hH mwX8_belt (ctX8_belt l D cI cZ a hc_74) (M_rc0 cx hH) mlX8_145 (by decide) rfl hl.1 (Nat.le_of_ble_eq_true rfl) rfl dX8_pour_119 (fun H locs hH => ?_)
    refine lv_iload hx hb dX8_pour_122 (lv_at hl 5 rfl) ?_
    refine lv_iadd hx hb dX8_pour_124 ?_
    refine lv_iload_n hx hb dX8_pour_125 rfl (lv_at hl 3 rfl) ?_
    refine lv_iadd hx hb dX8_pour_126 ?_
    refine lv_sipush (v := 2000) hx hb dX8_pour_127 (by decide) ?_
    refine lv_icmp_gt (tgt := 145) hx hb dX8_pour_130 (by decide) (fun c_76 => ?_) (fun c_76 => ?_)
    · replace h := fb_ip c_76 h
      refine lv_aload_n hx hb dX8_pour_145 rfl (lv_at hl 1 rfl) ?_
      refine lv_iconst (v := 3) hx hb dX8_pour_146 (by decide) ?_
      obtain ⟨r_78, S_79, hc_77, h⟩ := fb_bd2_s h
      refine fb_vi (wd := wM cI cZ a) (As := [.int 3]) (rest := []) cx hH mwX8_refused (ctX8_refused l D cI cZ a hc_77) (M_rc0 cx hH) mlX8_118 (by decide) rfl hl.1 (Nat.le_of_ble_eq_true rfl) rfl dX8_pour_147 (fun H locs hH => ?_)
      obtain ⟨rfl, rfl⟩ := Prod.mk.inj (Option.some.inj h)
      exact fb_iret (wd := wM cI cZ a) cx rfl hH dX8_pour_150
    · replace h := fb_in c_76 h
      refine lv_aload_n hx hb dX8_pour_133 rfl (lv_at hl 1 rfl) ?_
      refine M_g8 cx hH lkX8_142 dX8_pour_134 ?_
      refine lv_iload hx hb dX8_pour_137 (lv_at hl 0 rfl) ?_
      refine lv_iadd hx hb dX8_pour_139 ?_
      refine lv_bipush (v := 60) hx hb dX8_pour_140 (by decide) ?_
      refine lv_icmp_le (tgt := 151) hx hb dX8_pour_142 (by decide) (fun c_80 => ?_) (fun c_80 => ?_)
      · replace h := fb_ip c_80 h
        refine lv_iload hx hb dX8_pour_151 (lv_at hl 5 rfl) ?_
        refine lv_if_le (tgt := 166) hx hb dX8_pour_153 (by decide) (fun c_81 => ?_) (fun c_81 => ?_)
        · replace h := fb_ip c_81 h
          exact hJ166 _ _ _ _ _ _ _ h hH (lv_sub hl [1, 2, 3, 4] rfl)
        · replace h := fb_in c_81 h
          refine lv_aload_n hx hb dX8_pour_156 rfl (lv_at hl 1 rfl) ?_
          refine lv_bipush (v := (-2)) hx hb dX8_pour_157 (by decide) ?_
          refine lv_iload hx hb dX8_pour_159 (lv_at hl 5 rfl) ?_
          refine lv_bipush (v := (-2)) hx hb dX8_pour_161 (by decide) ?_
          obtain ⟨S_83, hc_82, h⟩ := fb_bd_s h
          refine fb_vv (wd := wM cI cZ a) (As := [.int (-2), .int x5, .int (-2)]) (rest := []) cx hH mwX8_lays (ctX8_lays l D cI cZ a hc_82) (M_rc0 cx hH) mlX8_149 (by decide) rfl hl.1 (Nat.le_of_ble_eq_true rfl) rfl dX8_pour_163 (fun H locs hH => ?_)
          exact hJ166 _ _ _ _ _ _ _ h hH (lv_sub hl [1, 2, 3, 4] rfl)
      · replace h := fb_in c_80 h
        refine lv_aload_n hx hb dX8_pour_145 rfl (lv_at hl 1 rfl) ?_
        refine lv_iconst (v := 3) hx hb dX8_pour_146 (by decide) ?_
        obtain ⟨r_85, S_86, hc_84, h⟩ := fb_bd2_s h
        refine fb_vi (wd := wM cI cZ a) (As := [.int 3]) (rest := []) cx hH mwX8_refused (ctX8_refused l D cI cZ a hc_84) (M_rc0 cx hH) mlX8_118 (by decide) rfl hl.1 (Nat.le_of_ble_eq_true rfl) rfl dX8_pour_147 (fun H locs hH => ?_)
        obtain ⟨rfl, rfl⟩ := Prod.mk.inj (Option.some.inj h)
        exact fb_iret (wd := wM cI cZ a) cx rfl hH dX8_pour_150
  have hJ95 : ∀ (T : Sg) (x1 x2 x4 t0 : Int32) (H : Heap) (locs : List Loc) (ls : Array Slot), pX8_pour_j95 T x1 x2 x4 t0 = some (r, S9) → HB D (wM cI cZ a S) (wM cI cZ a T) s H locs → lv_has ls 7 [(0, .ref (a 0)), (1, .int x1), (2, .int x2), (4, .int x4)] → W p l e (rmk 1) s m args below meth c H locs 0 0 (Ei D cI cZ (wM cI cZ a) S r S9 below args s) (F0 m 95 ls [.int t0]) := by
    intro T x1 x2 x4 t0 H locs ls h hH hl
    unfold pX8_pour_j95 at h
    obtain ⟨x5_87, ex5_87, h⟩ := fb_vl_s h
    refine fb_top ex5_87 ?_
    refine lv_istore (lv' := [(5, .int x5_87), (0, .ref (a 0)), (1, .int x1), (2, .int x2), (4, .int x4)]) hx hb dX8_pour_95 hl (by decide) rfl (fun ls hl => ?_)
    refine lv_iload hx hb dX8_pour_97 (lv_at hl 4 rfl) ?_
    refine lv_if_eq (tgt := 106) hx hb dX8_pour_99 (by decide) (fun c_88 => ?_) (fun c_88 => ?_)
    · replace h := fb_ip c_88 h
      refine lv_iload hx hb dX8_pour_106 (lv_at hl 0 rfl) ?_
      refine lv_if_le (tgt := 115) hx hb dX8_pour_108 (by decide) (fun c_89 => ?_) (fun c_89 => ?_)
      · replace h := fb_ip c_89 h
        refine lv_iconst (v := 1) hx hb dX8_pour_115 (by decide) ?_
        exact hJ116 _ _ _ _ _ _ _ _ _ h hH (lv_sub hl [1, 2, 3, 4, 0] rfl)
      · replace h := fb_in c_89 h
        refine lv_iconst (v := 2) hx hb dX8_pour_111 (by decide) ?_
        refine lv_goto (tgt := 116) hx hb dX8_pour_112 (by decide) ?_
        exact hJ116 _ _ _ _ _ _ _ _ _ h hH (lv_sub hl [1, 2, 3, 4, 0] rfl)
    · replace h := fb_in c_88 h
      refine lv_iconst (v := 0) hx hb dX8_pour_102 (by decide) ?_
      refine lv_goto (tgt := 116) hx hb dX8_pour_103 (by decide) ?_
      exact hJ116 _ _ _ _ _ _ _ _ _ h hH (lv_sub hl [1, 2, 3, 4, 0] rfl)
  have hJ69 : ∀ (T : Sg) (x1 x2 x3 t0 : Int32) (H : Heap) (locs : List Loc) (ls : Array Slot), pX8_pour_j69 T x1 x2 x3 t0 = some (r, S9) → HB D (wM cI cZ a S) (wM cI cZ a T) s H locs → lv_has ls 7 [(0, .ref (a 0)), (1, .int x1), (2, .int x2), (3, .int x3)] → W p l e (rmk 1) s m args below meth c H locs 0 0 (Ei D cI cZ (wM cI cZ a) S r S9 below args s) (F0 m 69 ls [.int t0]) := by
    intro T x1 x2 x3 t0 H locs ls h hH hl
    unfold pX8_pour_j69 at h
    obtain ⟨x4_90, ex4_90, h⟩ := fb_vl_s h
    refine fb_top ex4_90 ?_
    refine lv_istore (lv' := [(4, .int x4_90), (0, .ref (a 0)), (1, .int x1), (2, .int x2), (3, .int x3)]) hx hb dX8_pour_69 hl (by decide) rfl (fun ls hl => ?_)
    refine lv_iload_n hx hb dX8_pour_71 rfl (lv_at hl 4 rfl) ?_
    refine lv_iconst (v := (-1)) hx hb dX8_pour_72 (by decide) ?_
    refine lv_icmp_eq (tgt := 81) hx hb dX8_pour_73 (by decide) (fun c_91 => ?_) (fun c_91 => ?_)
    · replace h := fb_ip c_91 h
      refine lv_iconst (v := 0) hx hb dX8_pour_81 (by decide) ?_
      refine lv_goto (tgt := 95) hx hb dX8_pour_82 (by decide) ?_
      exact hJ95 _ _ _ _ _ _ _ _ h hH (lv_sub hl [1, 2, 3, 0] rfl)
    · replace h := fb_in c_91 h
      refine lv_iload hx hb dX8_pour_76 (lv_at hl 0 rfl) ?_
      refine lv_if_eq (tgt := 85) hx hb dX8_pour_78 (by decide) (fun c_92 => ?_) (fun c_92 => ?_)
      · replace h := fb_ip c_92 h
        refine lv_aload_n hx hb dX8_pour_85 rfl (lv_at hl 1 rfl) ?_
        refine M_ra3 cx hH lkX8_29 dX8_pour_86 ?_
        refine lv_iconst (v := 5) hx hb dX8_pour_89 (by decide) ?_
        refine lv_iload_n hx hb dX8_pour_90 rfl (lv_at hl 4 rfl) ?_
        refine lv_imul hx hb dX8_pour_91 ?_
        refine lv_iload_n hx hb dX8_pour_92 rfl (lv_at hl 2 rfl) ?_
        refine lv_iadd hx hb dX8_pour_93 ?_
        obtain ⟨hi_93, h⟩ := fb_ck_s h
        refine M_l3 cx hH hi_93 dX8_pour_94 ?_
        exact hJ95 _ _ _ _ _ _ _ _ h hH (lv_sub hl [1, 2, 3, 0] rfl)
      · replace h := fb_in c_92 h
        refine lv_iconst (v := 0) hx hb dX8_pour_81 (by decide) ?_
        refine lv_goto (tgt := 95) hx hb dX8_pour_82 (by decide) ?_
        exact hJ95 _ _ _ _ _ _ _ _ h hH (lv_sub hl [1, 2, 3, 0] rfl)
  have hJ58 : ∀ (T : Sg) (x1 x2 t0 : Int32) (H : Heap) (locs : List Loc) (ls : Array Slot), pX8_pour_j58 T x1 x2 t0 = some (r, S9) → HB D (wM cI cZ a S) (wM cI cZ a T) s H locs → lv_has ls 7 [(0, .ref (a 0)), (1, .int x1), (2, .int x2)] → W p l e (rmk 1) s m args below meth c H locs 0 0 (Ei D cI cZ (wM cI cZ a) S r S9 below args s) (F0 m 58 ls [.int t0]) := by
    intro T x1 x2 t0 H locs ls h hH hl
    unfold pX8_pour_j58 at h
    obtain ⟨x3_94, ex3_94, h⟩ := fb_vl_s h
    refine fb_top ex3_94 ?_
    refine lv_istore_n (lv' := [(3, .int x3_94), (0, .ref (a 0)), (1, .int x1), (2, .int x2)]) hx hb dX8_pour_58 rfl hl (by decide) rfl (fun ls hl => ?_)
    refine lv_iload_n hx hb dX8_pour_59 rfl (lv_at hl 0 rfl) ?_
    refine lv_iload_n hx hb dX8_pour_60 rfl (lv_at hl 2 rfl) ?_
    refine lv_icmp_ne (tgt := 68) hx hb dX8_pour_61 (by decide) (fun c_95 => ?_) (fun c_95 => ?_)
    · replace h := fb_in c_95 h
      refine lv_iconst (v := 0) hx hb dX8_pour_68 (by decide) ?_
      exact hJ69 _ _ _ _ _ _ _ _ h hH (lv_sub hl [1, 2, 3, 0] rfl)
    · replace h := fb_ip c_95 h
      refine lv_iconst (v := 1) hx hb dX8_pour_64 (by decide) ?_
      refine lv_goto (tgt := 69) hx hb dX8_pour_65 (by decide) ?_
      exact hJ69 _ _ _ _ _ _ _ _ h hH (lv_sub hl [1, 2, 3, 0] rfl)
  unfold pX8_pour at h
  refine lv_aload_n hx hb dX8_pour_0 rfl (lv_at hl 0 rfl) ?_
  refine lv_iconst (v := 0) hx hb dX8_pour_1 (by decide) ?_
  obtain ⟨S_41, eS_41, h⟩ := fb_st_s h
  refine M_p0 cx hH lkX8_1 dX8_pour_2 (fun H locs hH => ?_)
  rw [← eS_41] at hH
  refine lv_aload_n hx hb dX8_pour_5 rfl (lv_at hl 0 rfl) ?_
  refine lv_iload_n hx hb dX8_pour_6 rfl (lv_at hl 1 rfl) ?_
  obtain ⟨r_43, hc_42, h⟩ := fb_bd_s h
  refine fb_vi (wd := wM cI cZ a) (As := [.int x1]) (rest := []) cx hH mwX8_isKind (ctX8_isKind l D cI cZ a hc_42) (M_rc0 cx hH) mlX8_125 (by decide) rfl hl.1 (Nat.le_of_ble_eq_true rfl) rfl dX8_pour_7 (fun H locs hH => ?_)
  refine lv_if_ne (tgt := 19) hx hb dX8_pour_10 (by decide) (fun c_44 => ?_) (fun c_44 => ?_)
  · replace h := fb_in c_44 h
    refine lv_iload_n hx hb dX8_pour_19 rfl (lv_at hl 2 rfl) ?_
    refine lv_iconst (v := 1) hx hb dX8_pour_20 (by decide) ?_
    refine lv_sipush (v := 400) hx hb dX8_pour_21 (by decide) ?_
    obtain ⟨r_46, hc_45, h⟩ := fb_bd_s h
    refine fb_si (wd := wM cI cZ a) (As := [.int x2, .int 1, .int 400]) (rest := []) cx hH mwX8_in (ctX8_in l D cI cZ a hc_45) mlX8_114 (by decide) rfl hl.1 (Nat.le_of_ble_eq_true rfl) rfl dX8_pour_24 (fun H locs hH => ?_)
    refine lv_if_ne (tgt := 36) hx hb dX8_pour_27 (by decide) (fun c_47 => ?_) (fun c_47 => ?_)
    · replace h := fb_in c_47 h
      refine lv_aload_n hx hb dX8_pour_36 rfl (lv_at hl 0 rfl) ?_
      refine M_g8 cx hH lkX8_142 dX8_pour_37 ?_
      refine lv_if_ne (tgt := 47) hx hb dX8_pour_40 (by decide) (fun c_48 => ?_) (fun c_48 => ?_)
      · replace h := fb_in c_48 h
        refine lv_aload_n hx hb dX8_pour_47 rfl (lv_at hl 0 rfl) ?_
        refine M_ra6 cx hH lkX8_38 dX8_pour_48 ?_
        refine lv_aload_n hx hb dX8_pour_51 rfl (lv_at hl 0 rfl) ?_
        refine M_g8 cx hH lkX8_142 dX8_pour_52 ?_
        refine lv_iconst (v := 1) hx hb dX8_pour_55 (by decide) ?_
        refine lv_isub hx hb dX8_pour_56 ?_
        obtain ⟨hi_49, h⟩ := fb_ck_s h
        refine M_l6 cx hH hi_49 dX8_pour_57 ?_
        exact hJ58 _ _ _ _ _ _ _ h hH (lv_sub hl [0, 1, 2] rfl)
      · replace h := fb_ip c_48 h
        refine lv_iconst (v := (-1)) hx hb dX8_pour_43 (by decide) ?_
        refine lv_goto (tgt := 58) hx hb dX8_pour_44 (by decide) ?_
        exact hJ58 _ _ _ _ _ _ _ h hH (lv_sub hl [0, 1, 2] rfl)
    · replace h := fb_ip c_47 h
      refine lv_aload_n hx hb dX8_pour_30 rfl (lv_at hl 0 rfl) ?_
      refine lv_iconst (v := 2) hx hb dX8_pour_31 (by decide) ?_
      obtain ⟨r_51, S_52, hc_50, h⟩ := fb_bd2_s h
      refine fb_vi (wd := wM cI cZ a) (As := [.int 2]) (rest := []) cx hH mwX8_refused (ctX8_refused l D cI cZ a hc_50) (M_rc0 cx hH) mlX8_118 (by decide) rfl hl.1 (Nat.le_of_ble_eq_true rfl) rfl dX8_pour_32 (fun H locs hH => ?_)
      obtain ⟨rfl, rfl⟩ := Prod.mk.inj (Option.some.inj h)
      exact fb_iret (wd := wM cI cZ a) cx rfl hH dX8_pour_35
  · replace h := fb_ip c_44 h
    refine lv_aload_n hx hb dX8_pour_13 rfl (lv_at hl 0 rfl) ?_
    refine lv_iconst (v := 1) hx hb dX8_pour_14 (by decide) ?_
    obtain ⟨r_54, S_55, hc_53, h⟩ := fb_bd2_s h
    refine fb_vi (wd := wM cI cZ a) (As := [.int 1]) (rest := []) cx hH mwX8_refused (ctX8_refused l D cI cZ a hc_53) (M_rc0 cx hH) mlX8_118 (by decide) rfl hl.1 (Nat.le_of_ble_eq_true rfl) rfl dX8_pour_15 (fun H locs hH => ?_)
    obtain ⟨rfl, rfl⟩ := Prod.mk.inj (Option.some.inj h)
    exact fb_iret (wd := wM cI cZ a) cx rfl hH dX8_pour_18
set_option maxHeartbeats 4000000 in
set_option maxRecDepth 100000 in
theorem ctX8_run (l : Launch) (D : va_G) (cI cZ : ClassId) (a : Nat → Nat) {S : Sg} {x1 x2 : Int32} {r : Int32} {S9 : Sg} (h : pX8_run S x1 x2 = some (r, S9)) : CTi l D cI cZ (wM cI cZ a) yX8_run cX8_run 3 (some .int) 0 [.ref (a 0), .int x1, .int x2] S r S9 := by
  refine fb_starti (by decide) (Nat.le_of_ble_eq_true rfl) (fun p e s m args below meth c ls cx hH hl => ?_)
  obtain ⟨hx, hb, -⟩ := id cx
  have hl : lv_has ls 3 [(0, .ref (a 0)), (1, .int x1), (2, .int x2)] := hl
  unfold pX8_run at h
  refine lv_aload_n hx hb dX8_run_0 rfl (lv_at hl 0 rfl) ?_
  refine lv_iconst (v := 0) hx hb dX8_run_1 (by decide) ?_
  obtain ⟨S_1, eS_1, h⟩ := fb_st_s h
  refine M_p0 cx hH lkX8_1 dX8_run_2 (fun H locs hH => ?_)
  rw [← eS_1] at hH
  refine lv_iload_n hx hb dX8_run_5 rfl (lv_at hl 1 rfl) ?_
  refine lv_if_lt (tgt := 17) hx hb dX8_run_6 (by decide) (fun c_2 => ?_) (fun c_2 => ?_)
  · replace h := fb_ip c_2 h
    refine lv_iconst (v := (-1)) hx hb dX8_run_17 (by decide) ?_
    obtain ⟨rfl, rfl⟩ := Prod.mk.inj (Option.some.inj h)
    exact fb_iret (wd := wM cI cZ a) cx rfl hH dX8_run_18
  · replace h := fb_in c_2 h
    refine lv_iload_n hx hb dX8_run_9 rfl (lv_at hl 1 rfl) ?_
    refine lv_aload_n hx hb dX8_run_10 rfl (lv_at hl 0 rfl) ?_
    refine M_g8 cx hH lkX8_142 dX8_run_11 ?_
    refine lv_icmp_lt (tgt := 19) hx hb dX8_run_14 (by decide) (fun c_3 => ?_) (fun c_3 => ?_)
    · replace h := fb_ip c_3 h
      refine lv_iload_n hx hb dX8_run_19 rfl (lv_at hl 2 rfl) ?_
      refine lv_if_ne (tgt := 32) hx hb dX8_run_20 (by decide) (fun c_4 => ?_) (fun c_4 => ?_)
      · replace h := fb_in c_4 h
        refine lv_iload_n hx hb dX8_run_32 rfl (lv_at hl 2 rfl) ?_
        refine lv_iconst (v := 1) hx hb dX8_run_33 (by decide) ?_
        refine lv_icmp_ne (tgt := 46) hx hb dX8_run_34 (by decide) (fun c_5 => ?_) (fun c_5 => ?_)
        · replace h := fb_in c_5 h
          refine lv_iload_n hx hb dX8_run_46 rfl (lv_at hl 2 rfl) ?_
          refine lv_iconst (v := 2) hx hb dX8_run_47 (by decide) ?_
          refine lv_icmp_ne (tgt := 60) hx hb dX8_run_48 (by decide) (fun c_6 => ?_) (fun c_6 => ?_)
          · replace h := fb_in c_6 h
            refine lv_iconst (v := (-1)) hx hb dX8_run_60 (by decide) ?_
            obtain ⟨rfl, rfl⟩ := Prod.mk.inj (Option.some.inj h)
            exact fb_iret (wd := wM cI cZ a) cx rfl hH dX8_run_61
          · replace h := fb_ip c_6 h
            refine lv_aload_n hx hb dX8_run_51 rfl (lv_at hl 0 rfl) ?_
            refine M_ra8 cx hH lkX8_44 dX8_run_52 ?_
            refine lv_iload_n hx hb dX8_run_55 rfl (lv_at hl 1 rfl) ?_
            obtain ⟨hi_7, h⟩ := fb_ck_s h
            refine M_l8 cx hH hi_7 dX8_run_56 ?_
            refine lv_goto (tgt := 61) hx hb dX8_run_57 (by decide) ?_
            obtain ⟨rfl, rfl⟩ := Prod.mk.inj (Option.some.inj h)
            exact fb_iret (wd := wM cI cZ a) cx rfl hH dX8_run_61
        · replace h := fb_ip c_5 h
          refine lv_aload_n hx hb dX8_run_37 rfl (lv_at hl 0 rfl) ?_
          refine M_ra7 cx hH lkX8_41 dX8_run_38 ?_
          refine lv_iload_n hx hb dX8_run_41 rfl (lv_at hl 1 rfl) ?_
          obtain ⟨hi_8, h⟩ := fb_ck_s h
          refine M_l7 cx hH hi_8 dX8_run_42 ?_
          refine lv_goto (tgt := 61) hx hb dX8_run_43 (by decide) ?_
          obtain ⟨rfl, rfl⟩ := Prod.mk.inj (Option.some.inj h)
          exact fb_iret (wd := wM cI cZ a) cx rfl hH dX8_run_61
      · replace h := fb_ip c_4 h
        refine lv_aload_n hx hb dX8_run_23 rfl (lv_at hl 0 rfl) ?_
        refine M_ra6 cx hH lkX8_38 dX8_run_24 ?_
        refine lv_iload_n hx hb dX8_run_27 rfl (lv_at hl 1 rfl) ?_
        obtain ⟨hi_9, h⟩ := fb_ck_s h
        refine M_l6 cx hH hi_9 dX8_run_28 ?_
        refine lv_goto (tgt := 61) hx hb dX8_run_29 (by decide) ?_
        obtain ⟨rfl, rfl⟩ := Prod.mk.inj (Option.some.inj h)
        exact fb_iret (wd := wM cI cZ a) cx rfl hH dX8_run_61
    · replace h := fb_in c_3 h
      refine lv_iconst (v := (-1)) hx hb dX8_run_17 (by decide) ?_
      obtain ⟨rfl, rfl⟩ := Prod.mk.inj (Option.some.inj h)
      exact fb_iret (wd := wM cI cZ a) cx rfl hH dX8_run_18
set_option maxHeartbeats 4000000 in
set_option maxRecDepth 100000 in
theorem ctX8_reckons (l : Launch) (D : va_G) (cI cZ : ClassId) (a : Nat → Nat) {S : Sg} {x1 x2 : Int32} {S9 : Sg} (h : pX8_reckons S x1 x2 = some S9) : CTv l D cI cZ (wM cI cZ a) yX8_reckons cX8_reckons 5 1 [.ref (a 0), .int x1, .int x2] S S9 := by
  refine fb_startv (by decide) (Nat.le_of_ble_eq_true rfl) (fun p e s m args below meth c ls cx hH hl => ?_)
  obtain ⟨hx, hb, -⟩ := id cx
  have hl : lv_has ls 5 [(0, .ref (a 0)), (1, .int x1), (2, .int x2)] := hl
  have hL2 : ∀ (n : Nat), ∀ (T : Sg) (x1 x2 x3 : Int32) (H : Heap) (locs : List Loc) (ls : Array Slot), pX8_reckons_l2 n T x1 x2 x3 = some S9 → HB D (wM cI cZ a S) (wM cI cZ a T) s H locs → lv_has ls 5 [(0, .ref (a 0)), (1, .int x1), (2, .int x2), (3, .int x3)] → W p l e (rmk 1) s m args below meth c H locs 0 0 (Ev D cI cZ (wM cI cZ a) S S9 below args s) (F0 m 2 ls []) := by
    intro n2
    induction n2 with
    | zero => intro T x1 x2 x3 H locs ls h hH hl; simp [pX8_reckons_l2] at h
    | succ n2 ih2 =>
      have hL17 : ∀ (n : Nat), ∀ (T : Sg) (x1 x2 x3 x4 : Int32) (H : Heap) (locs : List Loc) (ls : Array Slot), pX8_reckons_l17 (pX8_reckons_l2 n2) n T x1 x2 x3 x4 = some S9 → HB D (wM cI cZ a S) (wM cI cZ a T) s H locs → lv_has ls 5 [(0, .ref (a 0)), (1, .int x1), (2, .int x2), (3, .int x3), (4, .int x4)] → W p l e (rmk 1) s m args below meth c H locs 0 0 (Ev D cI cZ (wM cI cZ a) S S9 below args s) (F0 m 17 ls []) := by
        intro n17
        induction n17 with
        | zero => intro T x1 x2 x3 x4 H locs ls h hH hl; simp [pX8_reckons_l17] at h
        | succ n17 ih17 =>
          intro T x1 x2 x3 x4 H locs ls h hH hl
          rw [pX8_reckons_l17] at h
          refine lv_iload hx hb dX8_reckons_17 (lv_at hl 4 rfl) ?_
          refine lv_aload_n hx hb dX8_reckons_19 rfl (lv_at hl 0 rfl) ?_
          refine M_g3 cx hH lkX8_111 dX8_reckons_20 ?_
          refine lv_icmp_ge (tgt := 85) hx hb dX8_reckons_23 (by decide) (fun c_18 => ?_) (fun c_18 => ?_)
          · replace h := fb_ip c_18 h
            obtain ⟨x3_19, ex3_19, h⟩ := fb_vl_s h
            refine lv_iinc (v := x3_19) (lv' := [(3, .int x3_19), (0, .ref (a 0)), (1, .int x1), (2, .int x2), (4, .int x4)]) hx hb dX8_reckons_85 hl (k := 3) rfl (by rw [ex3_19]; rfl) (by decide) rfl (fun ls hl => ?_)
            refine lv_goto (tgt := 2) hx hb dX8_reckons_88 (by decide) ?_
            exact ih2 _ _ _ _ _ _ _ h hH (lv_sub hl [1, 2, 3, 0] rfl)
          · replace h := fb_in c_18 h
            refine lv_aload_n hx hb dX8_reckons_26 rfl (lv_at hl 0 rfl) ?_
            refine M_ra4 cx hH lkX8_32 dX8_reckons_27 ?_
            refine lv_iload hx hb dX8_reckons_30 (lv_at hl 4 rfl) ?_
            obtain ⟨hi_20, h⟩ := fb_ck_s h
            refine M_l4 cx hH hi_20 dX8_reckons_32 ?_
            refine lv_iload_n hx hb dX8_reckons_33 rfl (lv_at hl 3 rfl) ?_
            refine lv_icmp_gt (tgt := 79) hx hb dX8_reckons_34 (by decide) (fun c_21 => ?_) (fun c_21 => ?_)
            · replace h := fb_ip c_21 h
              obtain ⟨x4_22, ex4_22, h⟩ := fb_vl_s h
              refine lv_iinc (v := x4_22) (lv' := [(4, .int x4_22), (0, .ref (a 0)), (1, .int x1), (2, .int x2), (3, .int x3)]) hx hb dX8_reckons_79 hl (k := 4) rfl (by rw [ex4_22]; rfl) (by decide) rfl (fun ls hl => ?_)
              refine lv_goto (tgt := 17) hx hb dX8_reckons_82 (by decide) ?_
              exact ih17 _ _ _ _ _ _ _ _ h hH (lv_sub hl [1, 2, 3, 4, 0] rfl)
            · replace h := fb_in c_21 h
              refine lv_aload_n hx hb dX8_reckons_37 rfl (lv_at hl 0 rfl) ?_
              refine M_ra9 cx hH lkX8_47 dX8_reckons_38 ?_
              refine lv_iload_n hx hb dX8_reckons_41 rfl (lv_at hl 3 rfl) ?_
              refine lv_aload_n hx hb dX8_reckons_42 rfl (lv_at hl 0 rfl) ?_
              refine M_ra9 cx hH lkX8_47 dX8_reckons_43 ?_
              refine lv_iload_n hx hb dX8_reckons_46 rfl (lv_at hl 3 rfl) ?_
              obtain ⟨hi_23, h⟩ := fb_ck_s h
              refine M_l9 cx hH hi_23 dX8_reckons_47 ?_
              refine lv_aload_n hx hb dX8_reckons_48 rfl (lv_at hl 0 rfl) ?_
              refine M_ra5 cx hH lkX8_35 dX8_reckons_49 ?_
              refine lv_bipush (v := 6) hx hb dX8_reckons_52 (by decide) ?_
              refine lv_iload_n hx hb dX8_reckons_54 rfl (lv_at hl 1 rfl) ?_
              refine lv_imul hx hb dX8_reckons_55 ?_
              refine lv_iload hx hb dX8_reckons_56 (lv_at hl 4 rfl) ?_
              refine lv_iadd hx hb dX8_reckons_58 ?_
              obtain ⟨hi_24, h⟩ := fb_ck_s h
              refine M_l5 cx hH hi_24 dX8_reckons_59 ?_
              refine lv_aload_n hx hb dX8_reckons_60 rfl (lv_at hl 0 rfl) ?_
              refine M_ra9 cx hH lkX8_47 dX8_reckons_61 ?_
              refine lv_iload_n hx hb dX8_reckons_64 rfl (lv_at hl 3 rfl) ?_
              refine lv_aload_n hx hb dX8_reckons_65 rfl (lv_at hl 0 rfl) ?_
              refine M_ra4 cx hH lkX8_32 dX8_reckons_66 ?_
              refine lv_iload hx hb dX8_reckons_69 (lv_at hl 4 rfl) ?_
              obtain ⟨hi_25, h⟩ := fb_ck_s h
              refine M_l4 cx hH hi_25 dX8_reckons_71 ?_
              refine lv_isub hx hb dX8_reckons_72 ?_
              obtain ⟨hi_26, h⟩ := fb_ck_s h
              refine M_l9 cx hH hi_26 dX8_reckons_73 ?_
              refine lv_iadd hx hb dX8_reckons_74 ?_
              refine fb_max cx hl.1 mlX8_156 ⟨Nat.le_of_ble_eq_true rfl, Nat.le_of_ble_eq_true rfl⟩ dX8_reckons_75 ?_
              obtain ⟨hi_28, h⟩ := fb_ck_s h
              obtain ⟨S_27, eS_27, h⟩ := fb_st_s h
              refine M_s9 cx hH hi_28 dX8_reckons_78 (fun H locs hH => ?_)
              rw [← eS_27] at hH
              obtain ⟨x4_29, ex4_29, h⟩ := fb_vl_s h
              refine lv_iinc (v := x4_29) (lv' := [(4, .int x4_29), (0, .ref (a 0)), (1, .int x1), (2, .int x2), (3, .int x3)]) hx hb dX8_reckons_79 hl (k := 4) rfl (by rw [ex4_29]; rfl) (by decide) rfl (fun ls hl => ?_)
              refine lv_goto (tgt := 17) hx hb dX8_reckons_82 (by decide) ?_
              exact ih17 _ _ _ _ _ _ _ _ h hH (lv_sub hl [1, 2, 3, 4, 0] rfl)
      intro T x1 x2 x3 H locs ls h hH hl
      rw [pX8_reckons_l2] at h
      refine lv_iload_n hx hb dX8_reckons_2 rfl (lv_at hl 3 rfl) ?_
      refine lv_iload_n hx hb dX8_reckons_3 rfl (lv_at hl 2 rfl) ?_
      refine lv_icmp_gt (tgt := 91) hx hb dX8_reckons_4 (by decide) (fun c_30 => ?_) (fun c_30 => ?_)
      · replace h := fb_ip c_30 h
        obtain rfl := Option.some.inj h
        exact fb_vret (wd := wM cI cZ a) cx hH dX8_reckons_91
      · replace h := fb_in c_30 h
        refine lv_aload_n hx hb dX8_reckons_7 rfl (lv_at hl 0 rfl) ?_
        refine M_ra9 cx hH lkX8_47 dX8_reckons_8 ?_
        refine lv_iload_n hx hb dX8_reckons_11 rfl (lv_at hl 3 rfl) ?_
        refine lv_iconst (v := 0) hx hb dX8_reckons_12 (by decide) ?_
        obtain ⟨hi_32, h⟩ := fb_ck_s h
        obtain ⟨S_31, eS_31, h⟩ := fb_st_s h
        refine M_s9 cx hH hi_32 dX8_reckons_13 (fun H locs hH => ?_)
        rw [← eS_31] at hH
        refine lv_iconst (v := 0) hx hb dX8_reckons_14 (by decide) ?_
        obtain ⟨x4_33, ex4_33, h⟩ := fb_vl_s h
        refine fb_top ex4_33 ?_
        refine lv_istore (lv' := [(4, .int x4_33), (0, .ref (a 0)), (1, .int x1), (2, .int x2), (3, .int x3)]) hx hb dX8_reckons_15 hl (by decide) rfl (fun ls hl => ?_)
        exact hL17 5000 _ _ _ _ _ _ _ _ h hH (lv_sub hl [1, 2, 3, 4, 0] rfl)
  unfold pX8_reckons at h
  refine lv_iconst (v := 0) hx hb dX8_reckons_0 (by decide) ?_
  obtain ⟨x3_17, ex3_17, h⟩ := fb_vl_s h
  refine fb_top ex3_17 ?_
  refine lv_istore_n (lv' := [(3, .int x3_17), (0, .ref (a 0)), (1, .int x1), (2, .int x2)]) hx hb dX8_reckons_1 rfl hl (by decide) rfl (fun ls hl => ?_)
  exact hL2 5000 _ _ _ _ _ _ _ h hH (lv_sub hl [1, 2, 3, 0] rfl)
set_option maxHeartbeats 4000000 in
set_option maxRecDepth 100000 in
theorem ctX8_best (l : Launch) (D : va_G) (cI cZ : ClassId) (a : Nat → Nat) {S : Sg} {x1 x2 : Int32} {r : Int32} {S9 : Sg} (h : pX8_best S x1 x2 = some (r, S9)) : CTi l D cI cZ (wM cI cZ a) yX8_best cX8_best 3 (some .int) 2 [.ref (a 0), .int x1, .int x2] S r S9 := by
  refine fb_starti (by decide) (Nat.le_of_ble_eq_true rfl) (fun p e s m args below meth c ls cx hH hl => ?_)
  obtain ⟨hx, hb, -⟩ := id cx
  have hl : lv_has ls 3 [(0, .ref (a 0)), (1, .int x1), (2, .int x2)] := hl
  unfold pX8_best at h
  refine lv_aload_n hx hb dX8_best_0 rfl (lv_at hl 0 rfl) ?_
  refine lv_iconst (v := 0) hx hb dX8_best_1 (by decide) ?_
  obtain ⟨S_1, eS_1, h⟩ := fb_st_s h
  refine M_p0 cx hH lkX8_1 dX8_best_2 (fun H locs hH => ?_)
  rw [← eS_1] at hH
  refine lv_aload_n hx hb dX8_best_5 rfl (lv_at hl 0 rfl) ?_
  refine lv_iload_n hx hb dX8_best_6 rfl (lv_at hl 1 rfl) ?_
  obtain ⟨r_3, hc_2, h⟩ := fb_bd_s h
  refine fb_vi (wd := wM cI cZ a) (As := [.int x1]) (rest := []) cx hH mwX8_isKind (ctX8_isKind l D cI cZ a hc_2) (M_rc0 cx hH) mlX8_125 (by decide) rfl hl.1 (Nat.le_of_ble_eq_true rfl) rfl dX8_best_7 (fun H locs hH => ?_)
  refine lv_if_ne (tgt := 19) hx hb dX8_best_10 (by decide) (fun c_4 => ?_) (fun c_4 => ?_)
  · replace h := fb_in c_4 h
    refine lv_iload_n hx hb dX8_best_19 rfl (lv_at hl 2 rfl) ?_
    refine lv_iconst (v := 0) hx hb dX8_best_20 (by decide) ?_
    refine lv_sipush (v := 2000) hx hb dX8_best_21 (by decide) ?_
    obtain ⟨r_6, hc_5, h⟩ := fb_bd_s h
    refine fb_si (wd := wM cI cZ a) (As := [.int x2, .int 0, .int 2000]) (rest := []) cx hH mwX8_in (ctX8_in l D cI cZ a hc_5) mlX8_114 (by decide) rfl hl.1 (Nat.le_of_ble_eq_true rfl) rfl dX8_best_24 (fun H locs hH => ?_)
    refine lv_if_ne (tgt := 36) hx hb dX8_best_27 (by decide) (fun c_7 => ?_) (fun c_7 => ?_)
    · replace h := fb_in c_7 h
      refine lv_aload_n hx hb dX8_best_36 rfl (lv_at hl 0 rfl) ?_
      refine lv_iload_n hx hb dX8_best_37 rfl (lv_at hl 1 rfl) ?_
      refine lv_iload_n hx hb dX8_best_38 rfl (lv_at hl 2 rfl) ?_
      obtain ⟨S_9, hc_8, h⟩ := fb_bd_s h
      refine fb_vv (wd := wM cI cZ a) (As := [.int x1, .int x2]) (rest := []) cx hH mwX8_reckons (ctX8_reckons l D cI cZ a hc_8) (M_rc0 cx hH) mlX8_162 (by decide) rfl hl.1 (Nat.le_of_ble_eq_true rfl) rfl dX8_best_39 (fun H locs hH => ?_)
      refine lv_aload_n hx hb dX8_best_42 rfl (lv_at hl 0 rfl) ?_
      refine lv_aload_n hx hb dX8_best_43 rfl (lv_at hl 0 rfl) ?_
      refine M_ra9 cx hH lkX8_47 dX8_best_44 ?_
      refine lv_iload_n hx hb dX8_best_47 rfl (lv_at hl 2 rfl) ?_
      obtain ⟨hi_10, h⟩ := fb_ck_s h
      refine M_l9 cx hH hi_10 dX8_best_48 ?_
      obtain ⟨r_12, S_13, hc_11, h⟩ := fb_bd2_s h
      refine fb_vi (wd := wM cI cZ a) (As := [.int (S_9.2 9 x2.toNatClampNeg)]) (rest := []) cx hH mwX8_done (ctX8_done l D cI cZ a hc_11) (M_rc0 cx hH) mlX8_122 (by decide) rfl hl.1 (Nat.le_of_ble_eq_true rfl) rfl dX8_best_49 (fun H locs hH => ?_)
      obtain ⟨rfl, rfl⟩ := Prod.mk.inj (Option.some.inj h)
      exact fb_iret (wd := wM cI cZ a) cx rfl hH dX8_best_52
    · replace h := fb_ip c_7 h
      refine lv_aload_n hx hb dX8_best_30 rfl (lv_at hl 0 rfl) ?_
      refine lv_iconst (v := 2) hx hb dX8_best_31 (by decide) ?_
      obtain ⟨r_15, S_16, hc_14, h⟩ := fb_bd2_s h
      refine fb_vi (wd := wM cI cZ a) (As := [.int 2]) (rest := []) cx hH mwX8_refused (ctX8_refused l D cI cZ a hc_14) (M_rc0 cx hH) mlX8_118 (by decide) rfl hl.1 (Nat.le_of_ble_eq_true rfl) rfl dX8_best_32 (fun H locs hH => ?_)
      obtain ⟨rfl, rfl⟩ := Prod.mk.inj (Option.some.inj h)
      exact fb_iret (wd := wM cI cZ a) cx rfl hH dX8_best_35
  · replace h := fb_ip c_4 h
    refine lv_aload_n hx hb dX8_best_13 rfl (lv_at hl 0 rfl) ?_
    refine lv_iconst (v := 1) hx hb dX8_best_14 (by decide) ?_
    obtain ⟨r_18, S_19, hc_17, h⟩ := fb_bd2_s h
    refine fb_vi (wd := wM cI cZ a) (As := [.int 1]) (rest := []) cx hH mwX8_refused (ctX8_refused l D cI cZ a hc_17) (M_rc0 cx hH) mlX8_118 (by decide) rfl hl.1 (Nat.le_of_ble_eq_true rfl) rfl dX8_best_15 (fun H locs hH => ?_)
    obtain ⟨rfl, rfl⟩ := Prod.mk.inj (Option.some.inj h)
    exact fb_iret (wd := wM cI cZ a) cx rfl hH dX8_best_18
set_option maxHeartbeats 4000000 in
set_option maxRecDepth 100000 in
theorem ctX8_longest (l : Launch) (D : va_G) (cI cZ : ClassId) (a : Nat → Nat) {S : Sg} {x1 x2 : Int32} {r : Int32} (h : pX8_longest S x1 x2 = some r) : CTi l D cI cZ (wM cI cZ a) yX8_longest cX8_longest 5 (some .int) 0 [.ref (a 0), .int x1, .int x2] S r S := by
  refine fb_starti (by decide) (Nat.le_of_ble_eq_true rfl) (fun p e s m args below meth c ls cx hH hl => ?_)
  obtain ⟨hx, hb, -⟩ := id cx
  have hl : lv_has ls 5 [(0, .ref (a 0)), (1, .int x1), (2, .int x2)] := hl
  have hL5 : ∀ (n : Nat), ∀ (x1 x2 x3 x4 : Int32) (H : Heap) (locs : List Loc) (ls : Array Slot), pX8_longest_l5 S n x1 x2 x3 x4 = some r → HB D (wM cI cZ a S) (wM cI cZ a S) s H locs → lv_has ls 5 [(0, .ref (a 0)), (1, .int x1), (2, .int x2), (3, .int x3), (4, .int x4)] → W p l e (rmk 0) s m args below meth c H locs 0 0 (Ei D cI cZ (wM cI cZ a) S r S below args s) (F0 m 5 ls []) := by
    intro n5
    induction n5 with
    | zero => intro x1 x2 x3 x4 H locs ls h hH hl; simp [pX8_longest_l5] at h
    | succ n5 ih5 =>
      intro x1 x2 x3 x4 H locs ls h hH hl
      rw [pX8_longest_l5] at h
      refine lv_iload hx hb dX8_longest_5 (lv_at hl 4 rfl) ?_
      refine lv_aload_n hx hb dX8_longest_7 rfl (lv_at hl 0 rfl) ?_
      refine M_g3 cx hH lkX8_111 dX8_longest_8 ?_
      refine lv_icmp_ge (tgt := 94) hx hb dX8_longest_11 (by decide) (fun c_22 => ?_) (fun c_22 => ?_)
      · replace h := fb_ip c_22 h
        refine lv_iload_n hx hb dX8_longest_94 rfl (lv_at hl 3 rfl) ?_
        obtain rfl := Option.some.inj h
        exact fb_iret (wd := wM cI cZ a) cx rfl hH dX8_longest_95
      · replace h := fb_in c_22 h
        refine lv_aload_n hx hb dX8_longest_14 rfl (lv_at hl 0 rfl) ?_
        refine M_ra4 cx hH lkX8_32 dX8_longest_15 ?_
        refine lv_iload hx hb dX8_longest_18 (lv_at hl 4 rfl) ?_
        obtain ⟨hi_23, h⟩ := fb_ck_s h
        refine M_l4 cx hH hi_23 dX8_longest_20 ?_
        refine lv_iload_n hx hb dX8_longest_21 rfl (lv_at hl 2 rfl) ?_
        refine lv_icmp_gt (tgt := 88) hx hb dX8_longest_22 (by decide) (fun c_24 => ?_) (fun c_24 => ?_)
        · replace h := fb_ip c_24 h
          obtain ⟨x4_25, ex4_25, h⟩ := fb_vl_s h
          refine lv_iinc (v := x4_25) (lv' := [(4, .int x4_25), (0, .ref (a 0)), (1, .int x1), (2, .int x2), (3, .int x3)]) hx hb dX8_longest_88 hl (k := 4) rfl (by rw [ex4_25]; rfl) (by decide) rfl (fun ls hl => ?_)
          refine lv_goto (tgt := 5) hx hb dX8_longest_91 (by decide) ?_
          exact ih5 _ _ _ _ _ _ _ h hH (lv_sub hl [1, 2, 3, 4, 0] rfl)
        · replace h := fb_in c_24 h
          refine lv_aload_n hx hb dX8_longest_25 rfl (lv_at hl 0 rfl) ?_
          refine M_ra5 cx hH lkX8_35 dX8_longest_26 ?_
          refine lv_bipush (v := 6) hx hb dX8_longest_29 (by decide) ?_
          refine lv_iload_n hx hb dX8_longest_31 rfl (lv_at hl 1 rfl) ?_
          refine lv_imul hx hb dX8_longest_32 ?_
          refine lv_iload hx hb dX8_longest_33 (lv_at hl 4 rfl) ?_
          refine lv_iadd hx hb dX8_longest_35 ?_
          obtain ⟨hi_26, h⟩ := fb_ck_s h
          refine M_l5 cx hH hi_26 dX8_longest_36 ?_
          refine lv_aload_n hx hb dX8_longest_37 rfl (lv_at hl 0 rfl) ?_
          refine M_ra9 cx hH lkX8_47 dX8_longest_38 ?_
          refine lv_iload_n hx hb dX8_longest_41 rfl (lv_at hl 2 rfl) ?_
          refine lv_aload_n hx hb dX8_longest_42 rfl (lv_at hl 0 rfl) ?_
          refine M_ra4 cx hH lkX8_32 dX8_longest_43 ?_
          refine lv_iload hx hb dX8_longest_46 (lv_at hl 4 rfl) ?_
          obtain ⟨hi_27, h⟩ := fb_ck_s h
          refine M_l4 cx hH hi_27 dX8_longest_48 ?_
          refine lv_isub hx hb dX8_longest_49 ?_
          obtain ⟨hi_28, h⟩ := fb_ck_s h
          refine M_l9 cx hH hi_28 dX8_longest_50 ?_
          refine lv_iadd hx hb dX8_longest_51 ?_
          refine lv_aload_n hx hb dX8_longest_52 rfl (lv_at hl 0 rfl) ?_
          refine M_ra9 cx hH lkX8_47 dX8_longest_53 ?_
          refine lv_iload_n hx hb dX8_longest_56 rfl (lv_at hl 2 rfl) ?_
          obtain ⟨hi_29, h⟩ := fb_ck_s h
          refine M_l9 cx hH hi_29 dX8_longest_57 ?_
          refine lv_icmp_eq (tgt := 64) hx hb dX8_longest_58 (by decide) (fun c_30 => ?_) (fun c_30 => ?_)
          · replace h := fb_ip c_30 h
            refine lv_iload_n hx hb dX8_longest_64 rfl (lv_at hl 3 rfl) ?_
            refine lv_iconst (v := (-1)) hx hb dX8_longest_65 (by decide) ?_
            refine lv_icmp_eq (tgt := 85) hx hb dX8_longest_66 (by decide) (fun c_31 => ?_) (fun c_31 => ?_)
            · replace h := fb_ip c_31 h
              refine lv_iload hx hb dX8_longest_85 (lv_at hl 4 rfl) ?_
              obtain ⟨x3_32, ex3_32, h⟩ := fb_vl_s h
              refine fb_top ex3_32 ?_
              refine lv_istore_n (lv' := [(3, .int x3_32), (0, .ref (a 0)), (1, .int x1), (2, .int x2), (4, .int x4)]) hx hb dX8_longest_87 rfl hl (by decide) rfl (fun ls hl => ?_)
              obtain ⟨x4_33, ex4_33, h⟩ := fb_vl_s h
              refine lv_iinc (v := x4_33) (lv' := [(4, .int x4_33), (3, .int x3_32), (0, .ref (a 0)), (1, .int x1), (2, .int x2)]) hx hb dX8_longest_88 hl (k := 4) rfl (by rw [ex4_33]; rfl) (by decide) rfl (fun ls hl => ?_)
              refine lv_goto (tgt := 5) hx hb dX8_longest_91 (by decide) ?_
              exact ih5 _ _ _ _ _ _ _ h hH (lv_sub hl [2, 3, 4, 1, 0] rfl)
            · replace h := fb_in c_31 h
              refine lv_aload_n hx hb dX8_longest_69 rfl (lv_at hl 0 rfl) ?_
              refine M_ra4 cx hH lkX8_32 dX8_longest_70 ?_
              refine lv_iload hx hb dX8_longest_73 (lv_at hl 4 rfl) ?_
              obtain ⟨hi_34, h⟩ := fb_ck_s h
              refine M_l4 cx hH hi_34 dX8_longest_75 ?_
              refine lv_aload_n hx hb dX8_longest_76 rfl (lv_at hl 0 rfl) ?_
              refine M_ra4 cx hH lkX8_32 dX8_longest_77 ?_
              refine lv_iload_n hx hb dX8_longest_80 rfl (lv_at hl 3 rfl) ?_
              obtain ⟨hi_35, h⟩ := fb_ck_s h
              refine M_l4 cx hH hi_35 dX8_longest_81 ?_
              refine lv_icmp_le (tgt := 88) hx hb dX8_longest_82 (by decide) (fun c_36 => ?_) (fun c_36 => ?_)
              · replace h := fb_ip c_36 h
                obtain ⟨x4_37, ex4_37, h⟩ := fb_vl_s h
                refine lv_iinc (v := x4_37) (lv' := [(4, .int x4_37), (0, .ref (a 0)), (1, .int x1), (2, .int x2), (3, .int x3)]) hx hb dX8_longest_88 hl (k := 4) rfl (by rw [ex4_37]; rfl) (by decide) rfl (fun ls hl => ?_)
                refine lv_goto (tgt := 5) hx hb dX8_longest_91 (by decide) ?_
                exact ih5 _ _ _ _ _ _ _ h hH (lv_sub hl [1, 2, 3, 4, 0] rfl)
              · replace h := fb_in c_36 h
                refine lv_iload hx hb dX8_longest_85 (lv_at hl 4 rfl) ?_
                obtain ⟨x3_38, ex3_38, h⟩ := fb_vl_s h
                refine fb_top ex3_38 ?_
                refine lv_istore_n (lv' := [(3, .int x3_38), (0, .ref (a 0)), (1, .int x1), (2, .int x2), (4, .int x4)]) hx hb dX8_longest_87 rfl hl (by decide) rfl (fun ls hl => ?_)
                obtain ⟨x4_39, ex4_39, h⟩ := fb_vl_s h
                refine lv_iinc (v := x4_39) (lv' := [(4, .int x4_39), (3, .int x3_38), (0, .ref (a 0)), (1, .int x1), (2, .int x2)]) hx hb dX8_longest_88 hl (k := 4) rfl (by rw [ex4_39]; rfl) (by decide) rfl (fun ls hl => ?_)
                refine lv_goto (tgt := 5) hx hb dX8_longest_91 (by decide) ?_
                exact ih5 _ _ _ _ _ _ _ h hH (lv_sub hl [2, 3, 4, 1, 0] rfl)
          · replace h := fb_in c_30 h
            refine lv_goto (tgt := 88) hx hb dX8_longest_61 (by decide) ?_
            obtain ⟨x4_40, ex4_40, h⟩ := fb_vl_s h
            refine lv_iinc (v := x4_40) (lv' := [(4, .int x4_40), (0, .ref (a 0)), (1, .int x1), (2, .int x2), (3, .int x3)]) hx hb dX8_longest_88 hl (k := 4) rfl (by rw [ex4_40]; rfl) (by decide) rfl (fun ls hl => ?_)
            refine lv_goto (tgt := 5) hx hb dX8_longest_91 (by decide) ?_
            exact ih5 _ _ _ _ _ _ _ h hH (lv_sub hl [1, 2, 3, 4, 0] rfl)
  unfold pX8_longest at h
  refine lv_iconst (v := (-1)) hx hb dX8_longest_0 (by decide) ?_
  obtain ⟨x3_20, ex3_20, h⟩ := fb_vl_s h
  refine fb_top ex3_20 ?_
  refine lv_istore_n (lv' := [(3, .int x3_20), (0, .ref (a 0)), (1, .int x1), (2, .int x2)]) hx hb dX8_longest_1 rfl hl (by decide) rfl (fun ls hl => ?_)
  refine lv_iconst (v := 0) hx hb dX8_longest_2 (by decide) ?_
  obtain ⟨x4_21, ex4_21, h⟩ := fb_vl_s h
  refine fb_top ex4_21 ?_
  refine lv_istore (lv' := [(4, .int x4_21), (3, .int x3_20), (0, .ref (a 0)), (1, .int x1), (2, .int x2)]) hx hb dX8_longest_3 hl (by decide) rfl (fun ls hl => ?_)
  exact hL5 5000 _ _ _ _ _ _ _ h hH (lv_sub hl [2, 3, 4, 1, 0] rfl)
set_option maxHeartbeats 4000000 in
set_option maxRecDepth 100000 in
theorem ctX8_blockOf (l : Launch) (D : va_G) (cI cZ : ClassId) (a : Nat → Nat) {S : Sg} {x1 x2 x3 : Int32} {S9 : Sg} (h : pX8_blockOf S x1 x2 x3 = some S9) : CTv l D cI cZ (wM cI cZ a) yX8_blockOf cX8_blockOf 4 0 [.ref (a 0), .int x1, .int x2, .int x3] S S9 := by
  refine fb_startv (by decide) (Nat.le_of_ble_eq_true rfl) (fun p e s m args below meth c ls cx hH hl => ?_)
  obtain ⟨hx, hb, -⟩ := id cx
  have hl : lv_has ls 4 [(0, .ref (a 0)), (1, .int x1), (2, .int x2), (3, .int x3)] := hl
  unfold pX8_blockOf at h
  refine lv_aload_n hx hb dX8_blockOf_0 rfl (lv_at hl 0 rfl) ?_
  refine M_ra11 cx hH lkX8_53 dX8_blockOf_1 ?_
  refine lv_aload_n hx hb dX8_blockOf_4 rfl (lv_at hl 0 rfl) ?_
  refine M_g10 cx hH lkX8_139 dX8_blockOf_5 ?_
  refine lv_iconst (v := 0) hx hb dX8_blockOf_8 (by decide) ?_
  obtain ⟨hi_2, h⟩ := fb_ck_s h
  obtain ⟨S_1, eS_1, h⟩ := fb_st_s h
  refine M_s11 cx hH hi_2 dX8_blockOf_9 (fun H locs hH => ?_)
  rw [← eS_1] at hH
  refine lv_aload_n hx hb dX8_blockOf_10 rfl (lv_at hl 0 rfl) ?_
  refine M_ra12 cx hH lkX8_56 dX8_blockOf_11 ?_
  refine lv_aload_n hx hb dX8_blockOf_14 rfl (lv_at hl 0 rfl) ?_
  refine M_g10 cx hH lkX8_139 dX8_blockOf_15 ?_
  refine lv_iload_n hx hb dX8_blockOf_18 rfl (lv_at hl 1 rfl) ?_
  obtain ⟨hi_4, h⟩ := fb_ck_s h
  obtain ⟨S_3, eS_3, h⟩ := fb_st_s h
  refine M_s12 cx hH hi_4 dX8_blockOf_19 (fun H locs hH => ?_)
  rw [← eS_3] at hH
  refine lv_aload_n hx hb dX8_blockOf_20 rfl (lv_at hl 0 rfl) ?_
  refine M_ra13 cx hH lkX8_59 dX8_blockOf_21 ?_
  refine lv_aload_n hx hb dX8_blockOf_24 rfl (lv_at hl 0 rfl) ?_
  refine M_g10 cx hH lkX8_139 dX8_blockOf_25 ?_
  refine lv_iload_n hx hb dX8_blockOf_28 rfl (lv_at hl 2 rfl) ?_
  obtain ⟨hi_6, h⟩ := fb_ck_s h
  obtain ⟨S_5, eS_5, h⟩ := fb_st_s h
  refine M_s13 cx hH hi_6 dX8_blockOf_29 (fun H locs hH => ?_)
  rw [← eS_5] at hH
  refine lv_aload_n hx hb dX8_blockOf_30 rfl (lv_at hl 0 rfl) ?_
  refine M_ra14 cx hH lkX8_62 dX8_blockOf_31 ?_
  refine lv_aload_n hx hb dX8_blockOf_34 rfl (lv_at hl 0 rfl) ?_
  refine M_g10 cx hH lkX8_139 dX8_blockOf_35 ?_
  refine lv_iload_n hx hb dX8_blockOf_38 rfl (lv_at hl 3 rfl) ?_
  obtain ⟨hi_8, h⟩ := fb_ck_s h
  obtain ⟨S_7, eS_7, h⟩ := fb_st_s h
  refine M_s14 cx hH hi_8 dX8_blockOf_39 (fun H locs hH => ?_)
  rw [← eS_7] at hH
  refine lv_aload_n hx hb dX8_blockOf_40 rfl (lv_at hl 0 rfl) ?_
  refine M_ra15 cx hH lkX8_65 dX8_blockOf_41 ?_
  refine lv_aload_n hx hb dX8_blockOf_44 rfl (lv_at hl 0 rfl) ?_
  refine M_g10 cx hH lkX8_139 dX8_blockOf_45 ?_
  refine lv_aload_n hx hb dX8_blockOf_48 rfl (lv_at hl 0 rfl) ?_
  refine M_g6 cx hH lkX8_175 dX8_blockOf_49 ?_
  obtain ⟨hi_10, h⟩ := fb_ck_s h
  obtain ⟨S_9, eS_9, h⟩ := fb_st_s h
  refine M_s15 cx hH hi_10 dX8_blockOf_52 (fun H locs hH => ?_)
  rw [← eS_9] at hH
  refine lv_aload_n hx hb dX8_blockOf_53 rfl (lv_at hl 0 rfl) ?_
  refine M_ra16 cx hH lkX8_68 dX8_blockOf_54 ?_
  refine lv_aload_n hx hb dX8_blockOf_57 rfl (lv_at hl 0 rfl) ?_
  refine M_g10 cx hH lkX8_139 dX8_blockOf_58 ?_
  refine lv_iconst (v := 0) hx hb dX8_blockOf_61 (by decide) ?_
  obtain ⟨hi_12, h⟩ := fb_ck_s h
  obtain ⟨S_11, eS_11, h⟩ := fb_st_s h
  refine M_s16 cx hH hi_12 dX8_blockOf_62 (fun H locs hH => ?_)
  rw [← eS_11] at hH
  refine lv_aload_n hx hb dX8_blockOf_63 rfl (lv_at hl 0 rfl) ?_
  refine lv_dup hx hb dX8_blockOf_64 rfl ?_
  refine M_g10 cx hH lkX8_139 dX8_blockOf_65 ?_
  refine lv_iconst (v := 1) hx hb dX8_blockOf_68 (by decide) ?_
  refine lv_iadd hx hb dX8_blockOf_69 ?_
  obtain ⟨S_13, eS_13, h⟩ := fb_st_s h
  refine M_p10 cx hH lkX8_139 dX8_blockOf_70 (fun H locs hH => ?_)
  rw [← eS_13] at hH
  obtain rfl := Option.some.inj h
  exact fb_vret (wd := wM cI cZ a) cx hH dX8_blockOf_73
set_option maxHeartbeats 4000000 in
set_option maxRecDepth 100000 in
theorem ctX8_cut (l : Launch) (D : va_G) (cI cZ : ClassId) (a : Nat → Nat) {S : Sg} {r : Int32} {S9 : Sg} (h : pX8_cut S = some (r, S9)) : CTi l D cI cZ (wM cI cZ a) yX8_cut cX8_cut 5 (some .int) 2 [.ref (a 0)] S r S9 := by
  refine fb_starti (by decide) (Nat.le_of_ble_eq_true rfl) (fun p e s m args below meth c ls cx hH hl => ?_)
  obtain ⟨hx, hb, -⟩ := id cx
  have hl : lv_has ls 5 [(0, .ref (a 0))] := hl
  have hL184 : ∀ (n : Nat), ∀ (T : Sg) (x3 x4 : Int32) (H : Heap) (locs : List Loc) (ls : Array Slot), pX8_cut_l184 n T x3 x4 = some (r, S9) → HB D (wM cI cZ a S) (wM cI cZ a T) s H locs → lv_has ls 5 [(0, .ref (a 0)), (3, .int x3), (4, .int x4)] → W p l e (rmk 2) s m args below meth c H locs 0 0 (Ei D cI cZ (wM cI cZ a) S r S9 below args s) (F0 m 184 ls []) := by
    intro n184
    induction n184 with
    | zero => intro T x3 x4 H locs ls h hH hl; simp [pX8_cut_l184] at h
    | succ n184 ih184 =>
      intro T x3 x4 H locs ls h hH hl
      rw [pX8_cut_l184] at h
      refine lv_iload hx hb dX8_cut_184 (lv_at hl 2 rfl) ?_
      refine lv_aload_n hx hb dX8_cut_186 rfl (lv_at hl 0 rfl) ?_
      refine M_g8 cx hH lkX8_142 dX8_cut_187 ?_
      refine lv_icmp_ge (tgt := 247) hx hb dX8_cut_190 (by decide) (fun c_61 => ?_) (fun c_61 => ?_)
      · replace h := fb_ip c_61 h
        refine lv_aload_n hx hb dX8_cut_247 rfl (lv_at hl 0 rfl) ?_
        refine lv_iload_n hx hb dX8_cut_248 rfl (lv_at hl 1 rfl) ?_
        obtain ⟨r_63, S_64, hc_62, h⟩ := fb_bd2_s h
        refine fb_vi (wd := wM cI cZ a) (As := [.int x3]) (rest := []) cx hH mwX8_done (ctX8_done l D cI cZ a hc_62) (M_rc0 cx hH) mlX8_122 (by decide) rfl hl.1 (Nat.le_of_ble_eq_true rfl) rfl dX8_cut_249 (fun H locs hH => ?_)
        obtain ⟨rfl, rfl⟩ := Prod.mk.inj (Option.some.inj h)
        exact fb_iret (wd := wM cI cZ a) cx rfl hH dX8_cut_252
      · replace h := fb_in c_61 h
        refine lv_aload_n hx hb dX8_cut_193 rfl (lv_at hl 0 rfl) ?_
        refine M_ra6 cx hH lkX8_38 dX8_cut_194 ?_
        refine lv_iload hx hb dX8_cut_197 (lv_at hl 2 rfl) ?_
        refine lv_aload_n hx hb dX8_cut_199 rfl (lv_at hl 0 rfl) ?_
        refine M_ra6 cx hH lkX8_38 dX8_cut_200 ?_
        refine lv_iload hx hb dX8_cut_203 (lv_at hl 2 rfl) ?_
        refine lv_iconst (v := 1) hx hb dX8_cut_205 (by decide) ?_
        refine lv_iadd hx hb dX8_cut_206 ?_
        obtain ⟨hi_65, h⟩ := fb_ck_s h
        refine M_l6 cx hH hi_65 dX8_cut_207 ?_
        obtain ⟨hi_67, h⟩ := fb_ck_s h
        obtain ⟨S_66, eS_66, h⟩ := fb_st_s h
        refine M_s6 cx hH hi_67 dX8_cut_208 (fun H locs hH => ?_)
        rw [← eS_66] at hH
        refine lv_aload_n hx hb dX8_cut_209 rfl (lv_at hl 0 rfl) ?_
        refine M_ra7 cx hH lkX8_41 dX8_cut_210 ?_
        refine lv_iload hx hb dX8_cut_213 (lv_at hl 2 rfl) ?_
        refine lv_aload_n hx hb dX8_cut_215 rfl (lv_at hl 0 rfl) ?_
        refine M_ra7 cx hH lkX8_41 dX8_cut_216 ?_
        refine lv_iload hx hb dX8_cut_219 (lv_at hl 2 rfl) ?_
        refine lv_iconst (v := 1) hx hb dX8_cut_221 (by decide) ?_
        refine lv_iadd hx hb dX8_cut_222 ?_
        obtain ⟨hi_68, h⟩ := fb_ck_s h
        refine M_l7 cx hH hi_68 dX8_cut_223 ?_
        obtain ⟨hi_70, h⟩ := fb_ck_s h
        obtain ⟨S_69, eS_69, h⟩ := fb_st_s h
        refine M_s7 cx hH hi_70 dX8_cut_224 (fun H locs hH => ?_)
        rw [← eS_69] at hH
        refine lv_aload_n hx hb dX8_cut_225 rfl (lv_at hl 0 rfl) ?_
        refine M_ra8 cx hH lkX8_44 dX8_cut_226 ?_
        refine lv_iload hx hb dX8_cut_229 (lv_at hl 2 rfl) ?_
        refine lv_aload_n hx hb dX8_cut_231 rfl (lv_at hl 0 rfl) ?_
        refine M_ra8 cx hH lkX8_44 dX8_cut_232 ?_
        refine lv_iload hx hb dX8_cut_235 (lv_at hl 2 rfl) ?_
        refine lv_iconst (v := 1) hx hb dX8_cut_237 (by decide) ?_
        refine lv_iadd hx hb dX8_cut_238 ?_
        obtain ⟨hi_71, h⟩ := fb_ck_s h
        refine M_l8 cx hH hi_71 dX8_cut_239 ?_
        obtain ⟨hi_73, h⟩ := fb_ck_s h
        obtain ⟨S_72, eS_72, h⟩ := fb_st_s h
        refine M_s8 cx hH hi_73 dX8_cut_240 (fun H locs hH => ?_)
        rw [← eS_72] at hH
        obtain ⟨x4_74, ex4_74, h⟩ := fb_vl_s h
        refine lv_iinc (v := x4_74) (lv' := [(4, .int x4_74), (0, .ref (a 0)), (3, .int x3)]) hx hb dX8_cut_241 hl (k := 2) rfl (by rw [ex4_74]; rfl) (by decide) rfl (fun ls hl => ?_)
        refine lv_goto (tgt := 184) hx hb dX8_cut_244 (by decide) ?_
        exact ih184 _ _ _ _ _ _ h hH (lv_sub hl [1, 2, 0] rfl)
  have hL118 : ∀ (n : Nat), ∀ (T : Sg) (x1 x2 x3 x4 : Int32) (H : Heap) (locs : List Loc) (ls : Array Slot), pX8_cut_l118 n T x1 x2 x3 x4 = some (r, S9) → HB D (wM cI cZ a S) (wM cI cZ a T) s H locs → lv_has ls 5 [(0, .ref (a 0)), (1, .int x1), (2, .int x2), (3, .int x3), (4, .int x4)] → W p l e (rmk 2) s m args below meth c H locs 0 0 (Ei D cI cZ (wM cI cZ a) S r S9 below args s) (F0 m 118 ls []) := by
    intro n118
    induction n118 with
    | zero => intro T x1 x2 x3 x4 H locs ls h hH hl; simp [pX8_cut_l118] at h
    | succ n118 ih118 =>
      intro T x1 x2 x3 x4 H locs ls h hH hl
      rw [pX8_cut_l118] at h
      refine lv_iload hx hb dX8_cut_118 (lv_at hl 4 rfl) ?_
      refine lv_iload_n hx hb dX8_cut_120 rfl (lv_at hl 3 rfl) ?_
      refine lv_icmp_ge (tgt := 148) hx hb dX8_cut_121 (by decide) (fun c_75 => ?_) (fun c_75 => ?_)
      · replace h := fb_ip c_75 h
        refine lv_aload_n hx hb dX8_cut_148 rfl (lv_at hl 0 rfl) ?_
        refine lv_dup hx hb dX8_cut_149 rfl ?_
        refine M_g7 cx hH lkX8_172 dX8_cut_150 ?_
        refine lv_iload_n hx hb dX8_cut_153 rfl (lv_at hl 2 rfl) ?_
        refine lv_aload_n hx hb dX8_cut_154 rfl (lv_at hl 0 rfl) ?_
        refine M_g4 cx hH lkX8_16 dX8_cut_155 ?_
        refine lv_imul hx hb dX8_cut_158 ?_
        refine lv_aload_n hx hb dX8_cut_159 rfl (lv_at hl 0 rfl) ?_
        refine M_g5 cx hH lkX8_19 dX8_cut_160 ?_
        refine lv_imul hx hb dX8_cut_163 ?_
        refine lv_bipush (v := 100) hx hb dX8_cut_164 (by decide) ?_
        obtain ⟨hi_76, h⟩ := fb_c0_s h
        refine lv_idiv hx hb dX8_cut_166 hi_76 ?_
        refine lv_iadd hx hb dX8_cut_167 ?_
        obtain ⟨S_77, eS_77, h⟩ := fb_st_s h
        refine M_p7 cx hH lkX8_172 dX8_cut_168 (fun H locs hH => ?_)
        rw [← eS_77] at hH
        refine lv_aload_n hx hb dX8_cut_171 rfl (lv_at hl 0 rfl) ?_
        refine lv_dup hx hb dX8_cut_172 rfl ?_
        refine M_g8 cx hH lkX8_142 dX8_cut_173 ?_
        refine lv_iconst (v := 1) hx hb dX8_cut_176 (by decide) ?_
        refine lv_isub hx hb dX8_cut_177 ?_
        obtain ⟨S_78, eS_78, h⟩ := fb_st_s h
        refine M_p8 cx hH lkX8_142 dX8_cut_178 (fun H locs hH => ?_)
        rw [← eS_78] at hH
        refine lv_iconst (v := 0) hx hb dX8_cut_181 (by decide) ?_
        obtain ⟨x4_79, ex4_79, h⟩ := fb_vl_s h
        refine fb_top ex4_79 ?_
        refine lv_istore (lv' := [(4, .int x4_79), (0, .ref (a 0)), (1, .int x1), (2, .int x2), (3, .int x3)]) hx hb dX8_cut_182 hl (by decide) rfl (fun ls hl => ?_)
        exact hL184 5000 _ _ _ _ _ _ h hH (lv_sub hl [1, 4, 0] rfl)
      · replace h := fb_in c_75 h
        refine lv_aload_n hx hb dX8_cut_124 rfl (lv_at hl 0 rfl) ?_
        refine lv_iload_n hx hb dX8_cut_125 rfl (lv_at hl 1 rfl) ?_
        refine lv_aload_n hx hb dX8_cut_126 rfl (lv_at hl 0 rfl) ?_
        refine M_ra10 cx hH lkX8_50 dX8_cut_127 ?_
        refine lv_iload hx hb dX8_cut_130 (lv_at hl 4 rfl) ?_
        obtain ⟨hi_80, h⟩ := fb_ck_s h
        refine M_l10 cx hH hi_80 dX8_cut_132 ?_
        refine lv_aload_n hx hb dX8_cut_133 rfl (lv_at hl 0 rfl) ?_
        refine M_ra8 cx hH lkX8_44 dX8_cut_134 ?_
        refine lv_iconst (v := 0) hx hb dX8_cut_137 (by decide) ?_
        obtain ⟨hi_81, h⟩ := fb_ck_s h
        refine M_l8 cx hH hi_81 dX8_cut_138 ?_
        obtain ⟨S_83, hc_82, h⟩ := fb_bd_s h
        refine fb_vv (wd := wM cI cZ a) (As := [.int x1, .int (T.2 10 x4.toNatClampNeg), .int (T.2 8 (0 : Int32).toNatClampNeg)]) (rest := []) cx hH mwX8_blockOf (ctX8_blockOf l D cI cZ a hc_82) (M_rc0 cx hH) mlX8_169 (by decide) rfl hl.1 (Nat.le_of_ble_eq_true rfl) rfl dX8_cut_139 (fun H locs hH => ?_)
        obtain ⟨x4_84, ex4_84, h⟩ := fb_vl_s h
        refine lv_iinc (v := x4_84) (lv' := [(4, .int x4_84), (0, .ref (a 0)), (1, .int x1), (2, .int x2), (3, .int x3)]) hx hb dX8_cut_142 hl (k := 4) rfl (by rw [ex4_84]; rfl) (by decide) rfl (fun ls hl => ?_)
        refine lv_goto (tgt := 118) hx hb dX8_cut_145 (by decide) ?_
        exact ih118 _ _ _ _ _ _ _ _ h hH (lv_sub hl [1, 2, 3, 4, 0] rfl)
  have hL54 : ∀ (n : Nat), ∀ (T : Sg) (x1 x2 x3 x4 : Int32) (H : Heap) (locs : List Loc) (ls : Array Slot), pX8_cut_l54 n T x1 x2 x3 x4 = some (r, S9) → HB D (wM cI cZ a S) (wM cI cZ a T) s H locs → lv_has ls 5 [(0, .ref (a 0)), (1, .int x1), (2, .int x2), (3, .int x3), (4, .int x4)] → W p l e (rmk 2) s m args below meth c H locs 0 0 (Ei D cI cZ (wM cI cZ a) S r S9 below args s) (F0 m 54 ls []) := by
    intro n54
    induction n54 with
    | zero => intro T x1 x2 x3 x4 H locs ls h hH hl; simp [pX8_cut_l54] at h
    | succ n54 ih54 =>
      intro T x1 x2 x3 x4 H locs ls h hH hl
      rw [pX8_cut_l54] at h
      refine lv_iload hx hb dX8_cut_54 (lv_at hl 4 rfl) ?_
      refine lv_iconst (v := (-1)) hx hb dX8_cut_56 (by decide) ?_
      refine lv_icmp_eq (tgt := 97) hx hb dX8_cut_57 (by decide) (fun c_85 => ?_) (fun c_85 => ?_)
      · replace h := fb_ip c_85 h
        refine lv_aload_n hx hb dX8_cut_97 rfl (lv_at hl 0 rfl) ?_
        refine M_g10 cx hH lkX8_139 dX8_cut_98 ?_
        refine lv_iload_n hx hb dX8_cut_101 rfl (lv_at hl 3 rfl) ?_
        refine lv_iadd hx hb dX8_cut_102 ?_
        refine lv_sipush (v := 200) hx hb dX8_cut_103 (by decide) ?_
        refine lv_icmp_le (tgt := 115) hx hb dX8_cut_106 (by decide) (fun c_86 => ?_) (fun c_86 => ?_)
        · replace h := fb_ip c_86 h
          refine lv_iconst (v := 0) hx hb dX8_cut_115 (by decide) ?_
          obtain ⟨x4_87, ex4_87, h⟩ := fb_vl_s h
          refine fb_top ex4_87 ?_
          refine lv_istore (lv' := [(4, .int x4_87), (0, .ref (a 0)), (1, .int x1), (2, .int x2), (3, .int x3)]) hx hb dX8_cut_116 hl (by decide) rfl (fun ls hl => ?_)
          exact hL118 5000 _ _ _ _ _ _ _ _ h hH (lv_sub hl [1, 2, 3, 4, 0] rfl)
        · replace h := fb_in c_86 h
          refine lv_aload_n hx hb dX8_cut_109 rfl (lv_at hl 0 rfl) ?_
          refine lv_iconst (v := 3) hx hb dX8_cut_110 (by decide) ?_
          obtain ⟨r_89, S_90, hc_88, h⟩ := fb_bd2_s h
          refine fb_vi (wd := wM cI cZ a) (As := [.int 3]) (rest := []) cx hH mwX8_refused (ctX8_refused l D cI cZ a hc_88) (M_rc0 cx hH) mlX8_118 (by decide) rfl hl.1 (Nat.le_of_ble_eq_true rfl) rfl dX8_cut_111 (fun H locs hH => ?_)
          obtain ⟨rfl, rfl⟩ := Prod.mk.inj (Option.some.inj h)
          exact fb_iret (wd := wM cI cZ a) cx rfl hH dX8_cut_114
      · replace h := fb_in c_85 h
        refine lv_aload_n hx hb dX8_cut_60 rfl (lv_at hl 0 rfl) ?_
        refine M_ra10 cx hH lkX8_50 dX8_cut_61 ?_
        refine lv_iload_n hx hb dX8_cut_64 rfl (lv_at hl 3 rfl) ?_
        refine lv_aload_n hx hb dX8_cut_65 rfl (lv_at hl 0 rfl) ?_
        refine M_ra4 cx hH lkX8_32 dX8_cut_66 ?_
        refine lv_iload hx hb dX8_cut_69 (lv_at hl 4 rfl) ?_
        obtain ⟨hi_91, h⟩ := fb_ck_s h
        refine M_l4 cx hH hi_91 dX8_cut_71 ?_
        obtain ⟨hi_93, h⟩ := fb_ck_s h
        obtain ⟨S_92, eS_92, h⟩ := fb_st_s h
        refine M_s10 cx hH hi_93 dX8_cut_72 (fun H locs hH => ?_)
        rw [← eS_92] at hH
        obtain ⟨x3_94, ex3_94, h⟩ := fb_vl_s h
        refine lv_iinc (v := x3_94) (lv' := [(3, .int x3_94), (0, .ref (a 0)), (1, .int x1), (2, .int x2), (4, .int x4)]) hx hb dX8_cut_73 hl (k := 3) rfl (by rw [ex3_94]; rfl) (by decide) rfl (fun ls hl => ?_)
        refine lv_iload_n hx hb dX8_cut_76 rfl (lv_at hl 3 rfl) ?_
        refine lv_aload_n hx hb dX8_cut_77 rfl (lv_at hl 1 rfl) ?_
        refine M_ra4 cx hH lkX8_32 dX8_cut_78 ?_
        refine lv_iload hx hb dX8_cut_81 (lv_at hl 4 rfl) ?_
        obtain ⟨hi_95, h⟩ := fb_ck_s h
        refine M_l4 cx hH hi_95 dX8_cut_83 ?_
        refine lv_isub hx hb dX8_cut_84 ?_
        obtain ⟨x2_96, ex2_96, h⟩ := fb_vl_s h
        refine fb_top ex2_96 ?_
        refine lv_istore_n (lv' := [(2, .int x2_96), (3, .int x3_94), (0, .ref (a 0)), (1, .int x1), (4, .int x4)]) hx hb dX8_cut_85 rfl hl (by decide) rfl (fun ls hl => ?_)
        refine lv_aload_n hx hb dX8_cut_86 rfl (lv_at hl 2 rfl) ?_
        refine lv_iload_n hx hb dX8_cut_87 rfl (lv_at hl 3 rfl) ?_
        refine lv_iload_n hx hb dX8_cut_88 rfl (lv_at hl 0 rfl) ?_
        obtain ⟨r_98, hc_97, h⟩ := fb_bd_s h
        refine fb_vi (wd := wM cI cZ a) (As := [.int x1, .int x2_96]) (rest := []) cx hH mwX8_longest (ctX8_longest l D cI cZ a hc_97) (M_rc0 cx hH) mlX8_166 (by decide) rfl hl.1 (Nat.le_of_ble_eq_true rfl) rfl dX8_cut_89 (fun H locs hH => ?_)
        obtain ⟨x4_99, ex4_99, h⟩ := fb_vl_s h
        refine fb_top ex4_99 ?_
        refine lv_istore (lv' := [(4, .int x4_99), (2, .int x2_96), (3, .int x3_94), (0, .ref (a 0)), (1, .int x1)]) hx hb dX8_cut_92 hl (by decide) rfl (fun ls hl => ?_)
        refine lv_goto (tgt := 54) hx hb dX8_cut_94 (by decide) ?_
        exact ih54 _ _ _ _ _ _ _ _ h hH (lv_sub hl [3, 4, 1, 2, 0] rfl)
  unfold pX8_cut at h
  refine lv_aload_n hx hb dX8_cut_0 rfl (lv_at hl 0 rfl) ?_
  refine lv_iconst (v := 0) hx hb dX8_cut_1 (by decide) ?_
  obtain ⟨S_40, eS_40, h⟩ := fb_st_s h
  refine M_p0 cx hH lkX8_1 dX8_cut_2 (fun H locs hH => ?_)
  rw [← eS_40] at hH
  refine lv_aload_n hx hb dX8_cut_5 rfl (lv_at hl 0 rfl) ?_
  refine M_g8 cx hH lkX8_142 dX8_cut_6 ?_
  refine lv_if_ne (tgt := 18) hx hb dX8_cut_9 (by decide) (fun c_41 => ?_) (fun c_41 => ?_)
  · replace h := fb_in c_41 h
    refine lv_aload_n hx hb dX8_cut_18 rfl (lv_at hl 0 rfl) ?_
    refine M_ra6 cx hH lkX8_38 dX8_cut_19 ?_
    refine lv_iconst (v := 0) hx hb dX8_cut_22 (by decide) ?_
    obtain ⟨hi_42, h⟩ := fb_ck_s h
    refine M_l6 cx hH hi_42 dX8_cut_23 ?_
    obtain ⟨x1_43, ex1_43, h⟩ := fb_vl_s h
    refine fb_top ex1_43 ?_
    refine lv_istore_n (lv' := [(1, .int x1_43), (0, .ref (a 0))]) hx hb dX8_cut_24 rfl hl (by decide) rfl (fun ls hl => ?_)
    refine lv_aload_n hx hb dX8_cut_25 rfl (lv_at hl 1 rfl) ?_
    refine M_ra7 cx hH lkX8_41 dX8_cut_26 ?_
    refine lv_iconst (v := 0) hx hb dX8_cut_29 (by decide) ?_
    obtain ⟨hi_44, h⟩ := fb_ck_s h
    refine M_l7 cx hH hi_44 dX8_cut_30 ?_
    obtain ⟨x2_45, ex2_45, h⟩ := fb_vl_s h
    refine fb_top ex2_45 ?_
    refine lv_istore_n (lv' := [(2, .int x2_45), (1, .int x1_43), (0, .ref (a 0))]) hx hb dX8_cut_31 rfl hl (by decide) rfl (fun ls hl => ?_)
    refine lv_iconst (v := 0) hx hb dX8_cut_32 (by decide) ?_
    obtain ⟨x3_46, ex3_46, h⟩ := fb_vl_s h
    refine fb_top ex3_46 ?_
    refine lv_istore_n (lv' := [(3, .int x3_46), (2, .int x2_45), (1, .int x1_43), (0, .ref (a 0))]) hx hb dX8_cut_33 rfl hl (by decide) rfl (fun ls hl => ?_)
    refine lv_iload_n hx hb dX8_cut_34 rfl (lv_at hl 2 rfl) ?_
    refine lv_bipush (v := (-2)) hx hb dX8_cut_35 (by decide) ?_
    refine lv_icmp_eq (tgt := 97) hx hb dX8_cut_37 (by decide) (fun c_47 => ?_) (fun c_47 => ?_)
    · replace h := fb_ip c_47 h
      refine lv_aload_n hx hb dX8_cut_97 rfl (lv_at hl 3 rfl) ?_
      refine M_g10 cx hH lkX8_139 dX8_cut_98 ?_
      refine lv_iload_n hx hb dX8_cut_101 rfl (lv_at hl 0 rfl) ?_
      refine lv_iadd hx hb dX8_cut_102 ?_
      refine lv_sipush (v := 200) hx hb dX8_cut_103 (by decide) ?_
      refine lv_icmp_le (tgt := 115) hx hb dX8_cut_106 (by decide) (fun c_48 => ?_) (fun c_48 => ?_)
      · replace h := fb_ip c_48 h
        refine lv_iconst (v := 0) hx hb dX8_cut_115 (by decide) ?_
        obtain ⟨x4_49, ex4_49, h⟩ := fb_vl_s h
        refine fb_top ex4_49 ?_
        refine lv_istore (lv' := [(4, .int x4_49), (3, .int x3_46), (2, .int x2_45), (1, .int x1_43), (0, .ref (a 0))]) hx hb dX8_cut_116 hl (by decide) rfl (fun ls hl => ?_)
        exact hL118 5000 _ _ _ _ _ _ _ _ h hH (lv_sub hl [4, 3, 2, 1, 0] rfl)
      · replace h := fb_in c_48 h
        refine lv_aload_n hx hb dX8_cut_109 rfl (lv_at hl 3 rfl) ?_
        refine lv_iconst (v := 3) hx hb dX8_cut_110 (by decide) ?_
        obtain ⟨r_51, S_52, hc_50, h⟩ := fb_bd2_s h
        refine fb_vi (wd := wM cI cZ a) (As := [.int 3]) (rest := []) cx hH mwX8_refused (ctX8_refused l D cI cZ a hc_50) (M_rc0 cx hH) mlX8_118 (by decide) rfl hl.1 (Nat.le_of_ble_eq_true rfl) rfl dX8_cut_111 (fun H locs hH => ?_)
        obtain ⟨rfl, rfl⟩ := Prod.mk.inj (Option.some.inj h)
        exact fb_iret (wd := wM cI cZ a) cx rfl hH dX8_cut_114
    · replace h := fb_in c_47 h
      refine lv_aload_n hx hb dX8_cut_40 rfl (lv_at hl 3 rfl) ?_
      refine lv_iload_n hx hb dX8_cut_41 rfl (lv_at hl 2 rfl) ?_
      refine lv_iload_n hx hb dX8_cut_42 rfl (lv_at hl 1 rfl) ?_
      obtain ⟨S_54, hc_53, h⟩ := fb_bd_s h
      refine fb_vv (wd := wM cI cZ a) (As := [.int x1_43, .int x2_45]) (rest := []) cx hH mwX8_reckons (ctX8_reckons l D cI cZ a hc_53) (M_rc0 cx hH) mlX8_162 (by decide) rfl hl.1 (Nat.le_of_ble_eq_true rfl) rfl dX8_cut_43 (fun H locs hH => ?_)
      refine lv_aload_n hx hb dX8_cut_46 rfl (lv_at hl 3 rfl) ?_
      refine lv_iload_n hx hb dX8_cut_47 rfl (lv_at hl 2 rfl) ?_
      refine lv_iload_n hx hb dX8_cut_48 rfl (lv_at hl 1 rfl) ?_
      obtain ⟨r_56, hc_55, h⟩ := fb_bd_s h
      refine fb_vi (wd := wM cI cZ a) (As := [.int x1_43, .int x2_45]) (rest := []) cx hH mwX8_longest (ctX8_longest l D cI cZ a hc_55) (M_rc0 cx hH) mlX8_166 (by decide) rfl hl.1 (Nat.le_of_ble_eq_true rfl) rfl dX8_cut_49 (fun H locs hH => ?_)
      obtain ⟨x4_57, ex4_57, h⟩ := fb_vl_s h
      refine fb_top ex4_57 ?_
      refine lv_istore (lv' := [(4, .int x4_57), (3, .int x3_46), (2, .int x2_45), (1, .int x1_43), (0, .ref (a 0))]) hx hb dX8_cut_52 hl (by decide) rfl (fun ls hl => ?_)
      exact hL54 5000 _ _ _ _ _ _ _ _ h hH (lv_sub hl [4, 3, 2, 1, 0] rfl)
  · replace h := fb_ip c_41 h
    refine lv_aload_n hx hb dX8_cut_12 rfl (lv_at hl 0 rfl) ?_
    refine lv_iconst (v := 4) hx hb dX8_cut_13 (by decide) ?_
    obtain ⟨r_59, S_60, hc_58, h⟩ := fb_bd2_s h
    refine fb_vi (wd := wM cI cZ a) (As := [.int 4]) (rest := []) cx hH mwX8_refused (ctX8_refused l D cI cZ a hc_58) (M_rc0 cx hH) mlX8_118 (by decide) rfl hl.1 (Nat.le_of_ble_eq_true rfl) rfl dX8_cut_14 (fun H locs hH => ?_)
    obtain ⟨rfl, rfl⟩ := Prod.mk.inj (Option.some.inj h)
    exact fb_iret (wd := wM cI cZ a) cx rfl hH dX8_cut_17
