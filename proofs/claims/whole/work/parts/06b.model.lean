set_option maxHeartbeats 4000000 in
set_option maxRecDepth 100000 in
theorem ctX8_coreOf (l : Launch) (D : va_G) (cI cZ : ClassId) (a : Nat → Nat) {S : Sg} {x1 : Int32} {r : Int32} (h : pX8_coreOf S x1 = some r) : CTi l D cI cZ (wM cI cZ a) yX8_coreOf cX8_coreOf 2 (some .int) 1 [.ref (a 0), .int x1] S r S := by
  refine fb_starti (by decide) (Nat.le_of_ble_eq_true rfl) (fun p e s m args below meth c ls cx hH hl => ?_)
  obtain ⟨hx, hb, -⟩ := id cx
  have hl : lv_has ls 2 [(0, .ref (a 0)), (1, .int x1)] := hl
  unfold pX8_coreOf at h
  refine lv_bipush (v := 20) hx hb dX8_coreOf_0 (by decide) ?_
  refine lv_aload_n hx hb dX8_coreOf_2 rfl (lv_at hl 0 rfl) ?_
  refine M_ra1 cx hH lkX8_22 dX8_coreOf_3 ?_
  refine lv_aload_n hx hb dX8_coreOf_6 rfl (lv_at hl 0 rfl) ?_
  refine M_ra12 cx hH lkX8_56 dX8_coreOf_7 ?_
  refine lv_iload_n hx hb dX8_coreOf_10 rfl (lv_at hl 1 rfl) ?_
  obtain ⟨hi_1, h⟩ := fb_ck_s h
  refine M_l12 cx hH hi_1 dX8_coreOf_11 ?_
  obtain ⟨hi_2, h⟩ := fb_ck_s h
  refine M_l1 cx hH hi_2 dX8_coreOf_12 ?_
  refine lv_aload_n hx hb dX8_coreOf_13 rfl (lv_at hl 0 rfl) ?_
  refine M_ra2 cx hH lkX8_26 dX8_coreOf_14 ?_
  refine lv_aload_n hx hb dX8_coreOf_17 rfl (lv_at hl 0 rfl) ?_
  refine M_ra12 cx hH lkX8_56 dX8_coreOf_18 ?_
  refine lv_iload_n hx hb dX8_coreOf_21 rfl (lv_at hl 1 rfl) ?_
  obtain ⟨hi_3, h⟩ := fb_ck_s h
  refine M_l12 cx hH hi_3 dX8_coreOf_22 ?_
  obtain ⟨hi_4, h⟩ := fb_ck_s h
  refine M_l2 cx hH hi_4 dX8_coreOf_23 ?_
  refine lv_aload_n hx hb dX8_coreOf_24 rfl (lv_at hl 0 rfl) ?_
  refine M_g6 cx hH lkX8_175 dX8_coreOf_25 ?_
  refine lv_aload_n hx hb dX8_coreOf_28 rfl (lv_at hl 0 rfl) ?_
  refine M_ra15 cx hH lkX8_65 dX8_coreOf_29 ?_
  refine lv_iload_n hx hb dX8_coreOf_32 rfl (lv_at hl 1 rfl) ?_
  obtain ⟨hi_5, h⟩ := fb_ck_s h
  refine M_l15 cx hH hi_5 dX8_coreOf_33 ?_
  refine lv_isub hx hb dX8_coreOf_34 ?_
  refine lv_imul hx hb dX8_coreOf_35 ?_
  refine lv_isub hx hb dX8_coreOf_36 ?_
  refine fb_max cx hl.1 mlX8_156 ⟨Nat.le_of_ble_eq_true rfl, Nat.le_of_ble_eq_true rfl⟩ dX8_coreOf_37 ?_
  obtain rfl := Option.some.inj h
  exact fb_iret (wd := wM cI cZ a) cx rfl hH dX8_coreOf_40
set_option maxHeartbeats 4000000 in
set_option maxRecDepth 100000 in
theorem ctX8_isHot (l : Launch) (D : va_G) (cI cZ : ClassId) (a : Nat → Nat) {S : Sg} {x1 : Int32} {r : Int32} (h : pX8_isHot S x1 = some r) : CTi l D cI cZ (wM cI cZ a) yX8_isHot cX8_isHot 2 (some .boolean) 2 [.ref (a 0), .int x1] S r S := by
  refine fb_starti (by decide) (Nat.le_of_ble_eq_true rfl) (fun p e s m args below meth c ls cx hH hl => ?_)
  obtain ⟨hx, hb, -⟩ := id cx
  have hl : lv_has ls 2 [(0, .ref (a 0)), (1, .int x1)] := hl
  unfold pX8_isHot at h
  refine lv_aload_n hx hb dX8_isHot_0 rfl (lv_at hl 0 rfl) ?_
  refine lv_iload_n hx hb dX8_isHot_1 rfl (lv_at hl 1 rfl) ?_
  obtain ⟨r_2, hc_1, h⟩ := fb_bd_s h
  refine fb_vi (wd := wM cI cZ a) (As := [.int x1]) (rest := []) cx hH mwX8_coreOf (ctX8_coreOf l D cI cZ a hc_1) (M_rc0 cx hH) mlX8_178 (by decide) rfl hl.1 (Nat.le_of_ble_eq_true rfl) rfl dX8_isHot_2 (fun H locs hH => ?_)
  refine lv_bipush (v := 60) hx hb dX8_isHot_5 (by decide) ?_
  refine lv_icmp_le (tgt := 14) hx hb dX8_isHot_7 (by decide) (fun c_3 => ?_) (fun c_3 => ?_)
  · replace h := fb_ip c_3 h
    refine lv_iconst (v := 0) hx hb dX8_isHot_14 (by decide) ?_
    obtain ⟨hn, h⟩ := fb_cb_s h
    obtain rfl := Option.some.inj h
    exact fb_zret (wd := wM cI cZ a) cx rfl hH hn dX8_isHot_15
  · replace h := fb_in c_3 h
    refine lv_iconst (v := 1) hx hb dX8_isHot_10 (by decide) ?_
    refine lv_goto (tgt := 15) hx hb dX8_isHot_11 (by decide) ?_
    obtain ⟨hn, h⟩ := fb_cb_s h
    obtain rfl := Option.some.inj h
    exact fb_zret (wd := wM cI cZ a) cx rfl hH hn dX8_isHot_15
set_option maxHeartbeats 4000000 in
set_option maxRecDepth 100000 in
theorem ctX8_isCured (l : Launch) (D : va_G) (cI cZ : ClassId) (a : Nat → Nat) {S : Sg} {x1 : Int32} {r : Int32} (h : pX8_isCured S x1 = some r) : CTi l D cI cZ (wM cI cZ a) yX8_isCured cX8_isCured 2 (some .boolean) 3 [.ref (a 0), .int x1] S r S := by
  refine fb_starti (by decide) (Nat.le_of_ble_eq_true rfl) (fun p e s m args below meth c ls cx hH hl => ?_)
  obtain ⟨hx, hb, -⟩ := id cx
  have hl : lv_has ls 2 [(0, .ref (a 0)), (1, .int x1)] := hl
  unfold pX8_isCured at h
  refine lv_aload_n hx hb dX8_isCured_0 rfl (lv_at hl 0 rfl) ?_
  refine M_ra11 cx hH lkX8_53 dX8_isCured_1 ?_
  refine lv_iload_n hx hb dX8_isCured_4 rfl (lv_at hl 1 rfl) ?_
  obtain ⟨hi_1, h⟩ := fb_ck_s h
  refine M_l11 cx hH hi_1 dX8_isCured_5 ?_
  refine lv_iconst (v := 2) hx hb dX8_isCured_6 (by decide) ?_
  refine lv_icmp_eq (tgt := 33) hx hb dX8_isCured_7 (by decide) (fun c_2 => ?_) (fun c_2 => ?_)
  · replace h := fb_ip c_2 h
    refine lv_iconst (v := 0) hx hb dX8_isCured_33 (by decide) ?_
    obtain ⟨hn, h⟩ := fb_cb_s h
    obtain rfl := Option.some.inj h
    exact fb_zret (wd := wM cI cZ a) cx rfl hH hn dX8_isCured_34
  · replace h := fb_in c_2 h
    refine lv_aload_n hx hb dX8_isCured_10 rfl (lv_at hl 0 rfl) ?_
    refine M_ra16 cx hH lkX8_68 dX8_isCured_11 ?_
    refine lv_iload_n hx hb dX8_isCured_14 rfl (lv_at hl 1 rfl) ?_
    obtain ⟨hi_3, h⟩ := fb_ck_s h
    refine M_l16 cx hH hi_3 dX8_isCured_15 ?_
    refine lv_bipush (v := 24) hx hb dX8_isCured_16 (by decide) ?_
    refine lv_icmp_lt (tgt := 33) hx hb dX8_isCured_18 (by decide) (fun c_4 => ?_) (fun c_4 => ?_)
    · replace h := fb_ip c_4 h
      refine lv_iconst (v := 0) hx hb dX8_isCured_33 (by decide) ?_
      obtain ⟨hn, h⟩ := fb_cb_s h
      obtain rfl := Option.some.inj h
      exact fb_zret (wd := wM cI cZ a) cx rfl hH hn dX8_isCured_34
    · replace h := fb_in c_4 h
      refine lv_aload_n hx hb dX8_isCured_21 rfl (lv_at hl 0 rfl) ?_
      refine lv_iload_n hx hb dX8_isCured_22 rfl (lv_at hl 1 rfl) ?_
      obtain ⟨r_6, hc_5, h⟩ := fb_bd_s h
      refine fb_vi (wd := wM cI cZ a) (As := [.int x1]) (rest := []) cx hH mwX8_isHot (ctX8_isHot l D cI cZ a hc_5) (M_rc0 cx hH) mlX8_181 (by decide) rfl hl.1 (Nat.le_of_ble_eq_true rfl) rfl dX8_isCured_23 (fun H locs hH => ?_)
      refine lv_if_ne (tgt := 33) hx hb dX8_isCured_26 (by decide) (fun c_7 => ?_) (fun c_7 => ?_)
      · replace h := fb_in c_7 h
        refine lv_iconst (v := 0) hx hb dX8_isCured_33 (by decide) ?_
        obtain ⟨hn, h⟩ := fb_cb_s h
        obtain rfl := Option.some.inj h
        exact fb_zret (wd := wM cI cZ a) cx rfl hH hn dX8_isCured_34
      · replace h := fb_ip c_7 h
        refine lv_iconst (v := 1) hx hb dX8_isCured_29 (by decide) ?_
        refine lv_goto (tgt := 34) hx hb dX8_isCured_30 (by decide) ?_
        obtain ⟨hn, h⟩ := fb_cb_s h
        obtain rfl := Option.some.inj h
        exact fb_zret (wd := wM cI cZ a) cx rfl hH hn dX8_isCured_34
set_option maxHeartbeats 4000000 in
set_option maxRecDepth 100000 in
theorem ctX8_placeOf (l : Launch) (D : va_G) (cI cZ : ClassId) (a : Nat → Nat) {S : Sg} {x1 : Int32} {r : Int32} (h : pX8_placeOf S x1 = some r) : CTi l D cI cZ (wM cI cZ a) yX8_placeOf cX8_placeOf 3 (some .int) 0 [.ref (a 0), .int x1] S r S := by
  refine fb_starti (by decide) (Nat.le_of_ble_eq_true rfl) (fun p e s m args below meth c ls cx hH hl => ?_)
  obtain ⟨hx, hb, -⟩ := id cx
  have hl : lv_has ls 3 [(0, .ref (a 0)), (1, .int x1)] := hl
  have hL2 : ∀ (n : Nat), ∀ (x1 x2 : Int32) (H : Heap) (locs : List Loc) (ls : Array Slot), pX8_placeOf_l2 S n x1 x2 = some r → HB D (wM cI cZ a S) (wM cI cZ a S) s H locs → lv_has ls 3 [(0, .ref (a 0)), (1, .int x1), (2, .int x2)] → W p l e (rmk 0) s m args below meth c H locs 0 0 (Ei D cI cZ (wM cI cZ a) S r S below args s) (F0 m 2 ls []) := by
    intro n2
    induction n2 with
    | zero => intro x1 x2 H locs ls h hH hl; simp [pX8_placeOf_l2] at h
    | succ n2 ih2 =>
      intro x1 x2 H locs ls h hH hl
      rw [pX8_placeOf_l2] at h
      refine lv_iload_n hx hb dX8_placeOf_2 rfl (lv_at hl 2 rfl) ?_
      refine lv_bipush (v := 24) hx hb dX8_placeOf_3 (by decide) ?_
      refine lv_icmp_ge (tgt := 26) hx hb dX8_placeOf_5 (by decide) (fun c_6 => ?_) (fun c_6 => ?_)
      · replace h := fb_ip c_6 h
        refine lv_iconst (v := (-1)) hx hb dX8_placeOf_26 (by decide) ?_
        obtain rfl := Option.some.inj h
        exact fb_iret (wd := wM cI cZ a) cx rfl hH dX8_placeOf_27
      · replace h := fb_in c_6 h
        refine lv_aload_n hx hb dX8_placeOf_8 rfl (lv_at hl 0 rfl) ?_
        refine M_ra17 cx hH lkX8_71 dX8_placeOf_9 ?_
        refine lv_iload_n hx hb dX8_placeOf_12 rfl (lv_at hl 2 rfl) ?_
        obtain ⟨hi_7, h⟩ := fb_ck_s h
        refine M_l17 cx hH hi_7 dX8_placeOf_13 ?_
        refine lv_iload_n hx hb dX8_placeOf_14 rfl (lv_at hl 1 rfl) ?_
        refine lv_icmp_ne (tgt := 20) hx hb dX8_placeOf_15 (by decide) (fun c_8 => ?_) (fun c_8 => ?_)
        · replace h := fb_in c_8 h
          obtain ⟨x2_9, ex2_9, h⟩ := fb_vl_s h
          refine lv_iinc (v := x2_9) (lv' := [(2, .int x2_9), (0, .ref (a 0)), (1, .int x1)]) hx hb dX8_placeOf_20 hl (k := 2) rfl (by rw [ex2_9]; rfl) (by decide) rfl (fun ls hl => ?_)
          refine lv_goto (tgt := 2) hx hb dX8_placeOf_23 (by decide) ?_
          exact ih2 _ _ _ _ _ h hH (lv_sub hl [1, 2, 0] rfl)
        · replace h := fb_ip c_8 h
          refine lv_iload_n hx hb dX8_placeOf_18 rfl (lv_at hl 2 rfl) ?_
          obtain rfl := Option.some.inj h
          exact fb_iret (wd := wM cI cZ a) cx rfl hH dX8_placeOf_19
  unfold pX8_placeOf at h
  refine lv_iconst (v := 0) hx hb dX8_placeOf_0 (by decide) ?_
  obtain ⟨x2_5, ex2_5, h⟩ := fb_vl_s h
  refine fb_top ex2_5 ?_
  refine lv_istore_n (lv' := [(2, .int x2_5), (0, .ref (a 0)), (1, .int x1)]) hx hb dX8_placeOf_1 rfl hl (by decide) rfl (fun ls hl => ?_)
  exact hL2 5000 _ _ _ _ _ h hH (lv_sub hl [1, 2, 0] rfl)
set_option maxHeartbeats 4000000 in
set_option maxRecDepth 100000 in
theorem ctX8_block (l : Launch) (D : va_G) (cI cZ : ClassId) (a : Nat → Nat) {S : Sg} {x1 x2 : Int32} {r : Int32} {S9 : Sg} (h : pX8_block S x1 x2 = some (r, S9)) : CTi l D cI cZ (wM cI cZ a) yX8_block cX8_block 3 (some .int) 4 [.ref (a 0), .int x1, .int x2] S r S9 := by
  refine fb_starti (by decide) (Nat.le_of_ble_eq_true rfl) (fun p e s m args below meth c ls cx hH hl => ?_)
  obtain ⟨hx, hb, -⟩ := id cx
  have hl : lv_has ls 3 [(0, .ref (a 0)), (1, .int x1), (2, .int x2)] := hl
  unfold pX8_block at h
  refine lv_aload_n hx hb dX8_block_0 rfl (lv_at hl 0 rfl) ?_
  refine lv_iconst (v := 0) hx hb dX8_block_1 (by decide) ?_
  obtain ⟨S_1, eS_1, h⟩ := fb_st_s h
  refine M_p0 cx hH lkX8_1 dX8_block_2 (fun H locs hH => ?_)
  rw [← eS_1] at hH
  refine lv_iload_n hx hb dX8_block_5 rfl (lv_at hl 1 rfl) ?_
  refine lv_if_lt (tgt := 17) hx hb dX8_block_6 (by decide) (fun c_2 => ?_) (fun c_2 => ?_)
  · replace h := fb_ip c_2 h
    refine lv_iconst (v := (-1)) hx hb dX8_block_17 (by decide) ?_
    obtain ⟨rfl, rfl⟩ := Prod.mk.inj (Option.some.inj h)
    exact fb_iret (wd := wM cI cZ a) cx rfl hH dX8_block_18
  · replace h := fb_in c_2 h
    refine lv_iload_n hx hb dX8_block_9 rfl (lv_at hl 1 rfl) ?_
    refine lv_aload_n hx hb dX8_block_10 rfl (lv_at hl 0 rfl) ?_
    refine M_g10 cx hH lkX8_139 dX8_block_11 ?_
    refine lv_icmp_lt (tgt := 19) hx hb dX8_block_14 (by decide) (fun c_3 => ?_) (fun c_3 => ?_)
    · replace h := fb_ip c_3 h
      refine lv_iload_n hx hb dX8_block_19 rfl (lv_at hl 2 rfl) ?_
      by_cases c_4 : x2 = 0
      · replace h := fb_ip c_4 h
        refine lv_tableIn (off := 48) (tgt := 68) hx hb dX8_block_20 (by rw [c_4]; decide) (by rw [c_4]; decide) (by rw [c_4]; decide) (by decide) ?_
        refine lv_aload_n hx hb dX8_block_68 rfl (lv_at hl 0 rfl) ?_
        refine M_ra11 cx hH lkX8_53 dX8_block_69 ?_
        refine lv_iload_n hx hb dX8_block_72 rfl (lv_at hl 1 rfl) ?_
        obtain ⟨hi_5, h⟩ := fb_ck_s h
        refine M_l11 cx hH hi_5 dX8_block_73 ?_
        obtain ⟨rfl, rfl⟩ := Prod.mk.inj (Option.some.inj h)
        exact fb_iret (wd := wM cI cZ a) cx rfl hH dX8_block_74
      replace h := fb_in c_4 h
      by_cases c_6 : x2 = 1
      · replace h := fb_ip c_6 h
        refine lv_tableIn (off := 55) (tgt := 75) hx hb dX8_block_20 (by rw [c_6]; decide) (by rw [c_6]; decide) (by rw [c_6]; decide) (by decide) ?_
        refine lv_aload_n hx hb dX8_block_75 rfl (lv_at hl 0 rfl) ?_
        refine M_ra12 cx hH lkX8_56 dX8_block_76 ?_
        refine lv_iload_n hx hb dX8_block_79 rfl (lv_at hl 1 rfl) ?_
        obtain ⟨hi_7, h⟩ := fb_ck_s h
        refine M_l12 cx hH hi_7 dX8_block_80 ?_
        obtain ⟨rfl, rfl⟩ := Prod.mk.inj (Option.some.inj h)
        exact fb_iret (wd := wM cI cZ a) cx rfl hH dX8_block_81
      replace h := fb_in c_6 h
      by_cases c_8 : x2 = 2
      · replace h := fb_ip c_8 h
        refine lv_tableIn (off := 62) (tgt := 82) hx hb dX8_block_20 (by rw [c_8]; decide) (by rw [c_8]; decide) (by rw [c_8]; decide) (by decide) ?_
        refine lv_aload_n hx hb dX8_block_82 rfl (lv_at hl 0 rfl) ?_
        refine M_ra13 cx hH lkX8_59 dX8_block_83 ?_
        refine lv_iload_n hx hb dX8_block_86 rfl (lv_at hl 1 rfl) ?_
        obtain ⟨hi_9, h⟩ := fb_ck_s h
        refine M_l13 cx hH hi_9 dX8_block_87 ?_
        obtain ⟨rfl, rfl⟩ := Prod.mk.inj (Option.some.inj h)
        exact fb_iret (wd := wM cI cZ a) cx rfl hH dX8_block_88
      replace h := fb_in c_8 h
      by_cases c_10 : x2 = 3
      · replace h := fb_ip c_10 h
        refine lv_tableIn (off := 69) (tgt := 89) hx hb dX8_block_20 (by rw [c_10]; decide) (by rw [c_10]; decide) (by rw [c_10]; decide) (by decide) ?_
        refine lv_aload_n hx hb dX8_block_89 rfl (lv_at hl 0 rfl) ?_
        refine M_ra14 cx hH lkX8_62 dX8_block_90 ?_
        refine lv_iload_n hx hb dX8_block_93 rfl (lv_at hl 1 rfl) ?_
        obtain ⟨hi_11, h⟩ := fb_ck_s h
        refine M_l14 cx hH hi_11 dX8_block_94 ?_
        obtain ⟨rfl, rfl⟩ := Prod.mk.inj (Option.some.inj h)
        exact fb_iret (wd := wM cI cZ a) cx rfl hH dX8_block_95
      replace h := fb_in c_10 h
      by_cases c_12 : x2 = 4
      · replace h := fb_ip c_12 h
        refine lv_tableIn (off := 76) (tgt := 96) hx hb dX8_block_20 (by rw [c_12]; decide) (by rw [c_12]; decide) (by rw [c_12]; decide) (by decide) ?_
        refine lv_aload_n hx hb dX8_block_96 rfl (lv_at hl 0 rfl) ?_
        refine lv_iload_n hx hb dX8_block_97 rfl (lv_at hl 1 rfl) ?_
        obtain ⟨r_14, hc_13, h⟩ := fb_bd_s h
        refine fb_vi (wd := wM cI cZ a) (As := [.int x1]) (rest := []) cx hH mwX8_coreOf (ctX8_coreOf l D cI cZ a hc_13) (M_rc0 cx hH) mlX8_178 (by decide) rfl hl.1 (Nat.le_of_ble_eq_true rfl) rfl dX8_block_98 (fun H locs hH => ?_)
        obtain ⟨rfl, rfl⟩ := Prod.mk.inj (Option.some.inj h)
        exact fb_iret (wd := wM cI cZ a) cx rfl hH dX8_block_101
      replace h := fb_in c_12 h
      by_cases c_15 : x2 = 5
      · replace h := fb_ip c_15 h
        refine lv_tableIn (off := 82) (tgt := 102) hx hb dX8_block_20 (by rw [c_15]; decide) (by rw [c_15]; decide) (by rw [c_15]; decide) (by decide) ?_
        refine lv_aload_n hx hb dX8_block_102 rfl (lv_at hl 0 rfl) ?_
        refine lv_iload_n hx hb dX8_block_103 rfl (lv_at hl 1 rfl) ?_
        obtain ⟨r_17, hc_16, h⟩ := fb_bd_s h
        refine fb_vi (wd := wM cI cZ a) (As := [.int x1]) (rest := []) cx hH mwX8_isCured (ctX8_isCured l D cI cZ a hc_16) (M_rc0 cx hH) mlX8_184 (by decide) rfl hl.1 (Nat.le_of_ble_eq_true rfl) rfl dX8_block_104 (fun H locs hH => ?_)
        refine lv_if_eq (tgt := 114) hx hb dX8_block_107 (by decide) (fun c_18 => ?_) (fun c_18 => ?_)
        · replace h := fb_ip c_18 h
          refine lv_iconst (v := 0) hx hb dX8_block_114 (by decide) ?_
          obtain ⟨rfl, rfl⟩ := Prod.mk.inj (Option.some.inj h)
          exact fb_iret (wd := wM cI cZ a) cx rfl hH dX8_block_115
        · replace h := fb_in c_18 h
          refine lv_iconst (v := 1) hx hb dX8_block_110 (by decide) ?_
          refine lv_goto (tgt := 115) hx hb dX8_block_111 (by decide) ?_
          obtain ⟨rfl, rfl⟩ := Prod.mk.inj (Option.some.inj h)
          exact fb_iret (wd := wM cI cZ a) cx rfl hH dX8_block_115
      replace h := fb_in c_15 h
      by_cases c_19 : x2 = 6
      · replace h := fb_ip c_19 h
        refine lv_tableIn (off := 96) (tgt := 116) hx hb dX8_block_20 (by rw [c_19]; decide) (by rw [c_19]; decide) (by rw [c_19]; decide) (by decide) ?_
        refine lv_aload_n hx hb dX8_block_116 rfl (lv_at hl 0 rfl) ?_
        refine lv_iload_n hx hb dX8_block_117 rfl (lv_at hl 1 rfl) ?_
        obtain ⟨r_21, hc_20, h⟩ := fb_bd_s h
        refine fb_vi (wd := wM cI cZ a) (As := [.int x1]) (rest := []) cx hH mwX8_placeOf (ctX8_placeOf l D cI cZ a hc_20) (M_rc0 cx hH) mlX8_187 (by decide) rfl hl.1 (Nat.le_of_ble_eq_true rfl) rfl dX8_block_118 (fun H locs hH => ?_)
        obtain ⟨rfl, rfl⟩ := Prod.mk.inj (Option.some.inj h)
        exact fb_iret (wd := wM cI cZ a) cx rfl hH dX8_block_121
      replace h := fb_in c_19 h
      by_cases c_22 : x2 = 7
      · replace h := fb_ip c_22 h
        refine lv_tableIn (off := 102) (tgt := 122) hx hb dX8_block_20 (by rw [c_22]; decide) (by rw [c_22]; decide) (by rw [c_22]; decide) (by decide) ?_
        refine lv_aload_n hx hb dX8_block_122 rfl (lv_at hl 0 rfl) ?_
        refine M_ra16 cx hH lkX8_68 dX8_block_123 ?_
        refine lv_iload_n hx hb dX8_block_126 rfl (lv_at hl 1 rfl) ?_
        obtain ⟨hi_23, h⟩ := fb_ck_s h
        refine M_l16 cx hH hi_23 dX8_block_127 ?_
        obtain ⟨rfl, rfl⟩ := Prod.mk.inj (Option.some.inj h)
        exact fb_iret (wd := wM cI cZ a) cx rfl hH dX8_block_128
      replace h := fb_in c_22 h
      have qc_4 := lv_neT c_4 (a := 0) (by decide)
      have qc_6 := lv_neT c_6 (a := 1) (by decide)
      have qc_8 := lv_neT c_8 (a := 2) (by decide)
      have qc_10 := lv_neT c_10 (a := 3) (by decide)
      have qc_12 := lv_neT c_12 (a := 4) (by decide)
      have qc_15 := lv_neT c_15 (a := 5) (by decide)
      have qc_19 := lv_neT c_19 (a := 6) (by decide)
      have qc_22 := lv_neT c_22 (a := 7) (by decide)
      refine lv_tableOut (tgt := 129) hx hb dX8_block_20 (by omega) (by decide) ?_
      refine lv_iconst (v := (-1)) hx hb dX8_block_129 (by decide) ?_
      obtain ⟨rfl, rfl⟩ := Prod.mk.inj (Option.some.inj h)
      exact fb_iret (wd := wM cI cZ a) cx rfl hH dX8_block_130
    · replace h := fb_in c_3 h
      refine lv_iconst (v := (-1)) hx hb dX8_block_17 (by decide) ?_
      obtain ⟨rfl, rfl⟩ := Prod.mk.inj (Option.some.inj h)
      exact fb_iret (wd := wM cI cZ a) cx rfl hH dX8_block_18
set_option maxHeartbeats 4000000 in
set_option maxRecDepth 100000 in
theorem ctX8_hasHot (l : Launch) (D : va_G) (cI cZ : ClassId) (a : Nat → Nat) {S : Sg} {x1 : Int32} {r : Int32} (h : pX8_hasHot S x1 = some r) : CTi l D cI cZ (wM cI cZ a) yX8_hasHot cX8_hasHot 2 (some .boolean) 3 [.ref (a 0), .int x1] S r S := by
  refine fb_starti (by decide) (Nat.le_of_ble_eq_true rfl) (fun p e s m args below meth c ls cx hH hl => ?_)
  obtain ⟨hx, hb, -⟩ := id cx
  have hl : lv_has ls 2 [(0, .ref (a 0)), (1, .int x1)] := hl
  unfold pX8_hasHot at h
  refine lv_iload_n hx hb dX8_hasHot_0 rfl (lv_at hl 1 rfl) ?_
  refine lv_iconst (v := 0) hx hb dX8_hasHot_1 (by decide) ?_
  refine lv_bipush (v := 23) hx hb dX8_hasHot_2 (by decide) ?_
  obtain ⟨r_2, hc_1, h⟩ := fb_bd_s h
  refine fb_si (wd := wM cI cZ a) (As := [.int x1, .int 0, .int 23]) (rest := []) cx hH mwX8_in (ctX8_in l D cI cZ a hc_1) mlX8_114 (by decide) rfl hl.1 (Nat.le_of_ble_eq_true rfl) rfl dX8_hasHot_4 (fun H locs hH => ?_)
  refine lv_if_eq (tgt := 38) hx hb dX8_hasHot_7 (by decide) (fun c_3 => ?_) (fun c_3 => ?_)
  · replace h := fb_ip c_3 h
    refine lv_iconst (v := 0) hx hb dX8_hasHot_38 (by decide) ?_
    obtain ⟨hn, h⟩ := fb_cb_s h
    obtain rfl := Option.some.inj h
    exact fb_zret (wd := wM cI cZ a) cx rfl hH hn dX8_hasHot_39
  · replace h := fb_in c_3 h
    refine lv_aload_n hx hb dX8_hasHot_10 rfl (lv_at hl 0 rfl) ?_
    refine M_ra17 cx hH lkX8_71 dX8_hasHot_11 ?_
    refine lv_iload_n hx hb dX8_hasHot_14 rfl (lv_at hl 1 rfl) ?_
    obtain ⟨hi_4, h⟩ := fb_ck_s h
    refine M_l17 cx hH hi_4 dX8_hasHot_15 ?_
    refine lv_bipush (v := (-2)) hx hb dX8_hasHot_16 (by decide) ?_
    refine lv_icmp_eq (tgt := 38) hx hb dX8_hasHot_18 (by decide) (fun c_5 => ?_) (fun c_5 => ?_)
    · replace h := fb_ip c_5 h
      refine lv_iconst (v := 0) hx hb dX8_hasHot_38 (by decide) ?_
      obtain ⟨hn, h⟩ := fb_cb_s h
      obtain rfl := Option.some.inj h
      exact fb_zret (wd := wM cI cZ a) cx rfl hH hn dX8_hasHot_39
    · replace h := fb_in c_5 h
      refine lv_aload_n hx hb dX8_hasHot_21 rfl (lv_at hl 0 rfl) ?_
      refine lv_aload_n hx hb dX8_hasHot_22 rfl (lv_at hl 0 rfl) ?_
      refine M_ra17 cx hH lkX8_71 dX8_hasHot_23 ?_
      refine lv_iload_n hx hb dX8_hasHot_26 rfl (lv_at hl 1 rfl) ?_
      obtain ⟨hi_6, h⟩ := fb_ck_s h
      refine M_l17 cx hH hi_6 dX8_hasHot_27 ?_
      obtain ⟨r_8, hc_7, h⟩ := fb_bd_s h
      refine fb_vi (wd := wM cI cZ a) (As := [.int (S.2 17 x1.toNatClampNeg)]) (rest := []) cx hH mwX8_isHot (ctX8_isHot l D cI cZ a hc_7) (M_rc0 cx hH) mlX8_181 (by decide) rfl hl.1 (Nat.le_of_ble_eq_true rfl) rfl dX8_hasHot_28 (fun H locs hH => ?_)
      refine lv_if_eq (tgt := 38) hx hb dX8_hasHot_31 (by decide) (fun c_9 => ?_) (fun c_9 => ?_)
      · replace h := fb_ip c_9 h
        refine lv_iconst (v := 0) hx hb dX8_hasHot_38 (by decide) ?_
        obtain ⟨hn, h⟩ := fb_cb_s h
        obtain rfl := Option.some.inj h
        exact fb_zret (wd := wM cI cZ a) cx rfl hH hn dX8_hasHot_39
      · replace h := fb_in c_9 h
        refine lv_iconst (v := 1) hx hb dX8_hasHot_34 (by decide) ?_
        refine lv_goto (tgt := 39) hx hb dX8_hasHot_35 (by decide) ?_
        obtain ⟨hn, h⟩ := fb_cb_s h
        obtain rfl := Option.some.inj h
        exact fb_zret (wd := wM cI cZ a) cx rfl hH hn dX8_hasHot_39
set_option maxHeartbeats 4000000 in
set_option maxRecDepth 100000 in
theorem ctX8_lay (l : Launch) (D : va_G) (cI cZ : ClassId) (a : Nat → Nat) {S : Sg} {r : Int32} {S9 : Sg} (h : pX8_lay S = some (r, S9)) : CTi l D cI cZ (wM cI cZ a) yX8_lay cX8_lay 6 (some .int) 4 [.ref (a 0)] S r S9 := by
  refine fb_starti (by decide) (Nat.le_of_ble_eq_true rfl) (fun p e s m args below meth c ls cx hH hl => ?_)
  obtain ⟨hx, hb, -⟩ := id cx
  have hl : lv_has ls 6 [(0, .ref (a 0))] := hl
  have hL9 : ∀ (n : Nat), ∀ (T : Sg) (x1 x2 : Int32) (H : Heap) (locs : List Loc) (ls : Array Slot), pX8_lay_l9 n T x1 x2 = some (r, S9) → HB D (wM cI cZ a S) (wM cI cZ a T) s H locs → lv_has ls 6 [(0, .ref (a 0)), (1, .int x1), (2, .int x2)] → W p l e (rmk 4) s m args below meth c H locs 0 0 (Ei D cI cZ (wM cI cZ a) S r S9 below args s) (F0 m 9 ls []) := by
    intro n9
    induction n9 with
    | zero => intro T x1 x2 H locs ls h hH hl; simp [pX8_lay_l9] at h
    | succ n9 ih9 =>
      have hL38 : ∀ (n : Nat), ∀ (T : Sg) (x1 x2 x3 x4 x5 : Int32) (H : Heap) (locs : List Loc) (ls : Array Slot), pX8_lay_l38 (pX8_lay_l9 n9) n T x1 x2 x3 x4 x5 = some (r, S9) → HB D (wM cI cZ a S) (wM cI cZ a T) s H locs → lv_has ls 6 [(0, .ref (a 0)), (1, .int x1), (2, .int x2), (3, .int x3), (4, .int x4), (5, .int x5)] → W p l e (rmk 4) s m args below meth c H locs 0 0 (Ei D cI cZ (wM cI cZ a) S r S9 below args s) (F0 m 38 ls []) := by
        intro n38
        induction n38 with
        | zero => intro T x1 x2 x3 x4 x5 H locs ls h hH hl; simp [pX8_lay_l38] at h
        | succ n38 ih38 =>
          intro T x1 x2 x3 x4 x5 H locs ls h hH hl
          rw [pX8_lay_l38] at h
          refine lv_iload hx hb dX8_lay_38 (lv_at hl 5 rfl) ?_
          refine lv_if_lt (tgt := 104) hx hb dX8_lay_40 (by decide) (fun c_67 => ?_) (fun c_67 => ?_)
          · replace h := fb_ip c_67 h
            refine lv_iload_n hx hb dX8_lay_104 rfl (lv_at hl 3 rfl) ?_
            refine lv_iconst (v := (-1)) hx hb dX8_lay_105 (by decide) ?_
            refine lv_icmp_ne (tgt := 120) hx hb dX8_lay_106 (by decide) (fun c_68 => ?_) (fun c_68 => ?_)
            · replace h := fb_in c_68 h
              refine lv_iload_n hx hb dX8_lay_120 rfl (lv_at hl 3 rfl) ?_
              refine lv_iconst (v := (-1)) hx hb dX8_lay_121 (by decide) ?_
              refine lv_icmp_ne (tgt := 128) hx hb dX8_lay_122 (by decide) (fun c_69 => ?_) (fun c_69 => ?_)
              · replace h := fb_in c_69 h
                refine lv_aload_n hx hb dX8_lay_128 rfl (lv_at hl 0 rfl) ?_
                refine M_ra17 cx hH lkX8_71 dX8_lay_129 ?_
                refine lv_iload_n hx hb dX8_lay_132 rfl (lv_at hl 3 rfl) ?_
                refine lv_iload_n hx hb dX8_lay_133 rfl (lv_at hl 2 rfl) ?_
                obtain ⟨hi_71, h⟩ := fb_ck_s h
                obtain ⟨S_70, eS_70, h⟩ := fb_st_s h
                refine M_s17 cx hH hi_71 dX8_lay_134 (fun H locs hH => ?_)
                rw [← eS_70] at hH
                refine lv_aload_n hx hb dX8_lay_135 rfl (lv_at hl 0 rfl) ?_
                refine M_ra11 cx hH lkX8_53 dX8_lay_136 ?_
                refine lv_iload_n hx hb dX8_lay_139 rfl (lv_at hl 2 rfl) ?_
                refine lv_iconst (v := 1) hx hb dX8_lay_140 (by decide) ?_
                obtain ⟨hi_73, h⟩ := fb_ck_s h
                obtain ⟨S_72, eS_72, h⟩ := fb_st_s h
                refine M_s11 cx hH hi_73 dX8_lay_141 (fun H locs hH => ?_)
                rw [← eS_72] at hH
                obtain ⟨x1_74, ex1_74, h⟩ := fb_vl_s h
                refine lv_iinc (v := x1_74) (lv' := [(1, .int x1_74), (0, .ref (a 0)), (2, .int x2), (3, .int x3), (4, .int x4), (5, .int x5)]) hx hb dX8_lay_142 hl (k := 1) rfl (by rw [ex1_74]; rfl) (by decide) rfl (fun ls hl => ?_)
                obtain ⟨x2_75, ex2_75, h⟩ := fb_vl_s h
                refine lv_iinc (v := x2_75) (lv' := [(2, .int x2_75), (1, .int x1_74), (0, .ref (a 0)), (3, .int x3), (4, .int x4), (5, .int x5)]) hx hb dX8_lay_145 hl (k := 2) rfl (by rw [ex2_75]; rfl) (by decide) rfl (fun ls hl => ?_)
                refine lv_goto (tgt := 9) hx hb dX8_lay_148 (by decide) ?_
                exact ih9 _ _ _ _ _ _ h hH (lv_sub hl [2, 1, 0] rfl)
              · replace h := fb_ip c_69 h
                refine lv_goto (tgt := 145) hx hb dX8_lay_125 (by decide) ?_
                obtain ⟨x2_76, ex2_76, h⟩ := fb_vl_s h
                refine lv_iinc (v := x2_76) (lv' := [(2, .int x2_76), (0, .ref (a 0)), (1, .int x1), (3, .int x3), (4, .int x4), (5, .int x5)]) hx hb dX8_lay_145 hl (k := 2) rfl (by rw [ex2_76]; rfl) (by decide) rfl (fun ls hl => ?_)
                refine lv_goto (tgt := 9) hx hb dX8_lay_148 (by decide) ?_
                exact ih9 _ _ _ _ _ _ h hH (lv_sub hl [1, 2, 0] rfl)
            · replace h := fb_ip c_68 h
              refine lv_aload_n hx hb dX8_lay_109 rfl (lv_at hl 0 rfl) ?_
              refine lv_iload_n hx hb dX8_lay_110 rfl (lv_at hl 2 rfl) ?_
              obtain ⟨r_78, hc_77, h⟩ := fb_bd_s h
              refine fb_vi (wd := wM cI cZ a) (As := [.int x2]) (rest := []) cx hH mwX8_isHot (ctX8_isHot l D cI cZ a hc_77) (M_rc0 cx hH) mlX8_181 (by decide) rfl hl.1 (Nat.le_of_ble_eq_true rfl) rfl dX8_lay_111 (fun H locs hH => ?_)
              refine lv_if_ne (tgt := 120) hx hb dX8_lay_114 (by decide) (fun c_79 => ?_) (fun c_79 => ?_)
              · replace h := fb_in c_79 h
                refine lv_iload_n hx hb dX8_lay_120 rfl (lv_at hl 3 rfl) ?_
                refine lv_iconst (v := (-1)) hx hb dX8_lay_121 (by decide) ?_
                refine lv_icmp_ne (tgt := 128) hx hb dX8_lay_122 (by decide) (fun c_80 => ?_) (fun c_80 => ?_)
                · replace h := fb_in c_80 h
                  refine lv_aload_n hx hb dX8_lay_128 rfl (lv_at hl 0 rfl) ?_
                  refine M_ra17 cx hH lkX8_71 dX8_lay_129 ?_
                  refine lv_iload_n hx hb dX8_lay_132 rfl (lv_at hl 3 rfl) ?_
                  refine lv_iload_n hx hb dX8_lay_133 rfl (lv_at hl 2 rfl) ?_
                  obtain ⟨hi_82, h⟩ := fb_ck_s h
                  obtain ⟨S_81, eS_81, h⟩ := fb_st_s h
                  refine M_s17 cx hH hi_82 dX8_lay_134 (fun H locs hH => ?_)
                  rw [← eS_81] at hH
                  refine lv_aload_n hx hb dX8_lay_135 rfl (lv_at hl 0 rfl) ?_
                  refine M_ra11 cx hH lkX8_53 dX8_lay_136 ?_
                  refine lv_iload_n hx hb dX8_lay_139 rfl (lv_at hl 2 rfl) ?_
                  refine lv_iconst (v := 1) hx hb dX8_lay_140 (by decide) ?_
                  obtain ⟨hi_84, h⟩ := fb_ck_s h
                  obtain ⟨S_83, eS_83, h⟩ := fb_st_s h
                  refine M_s11 cx hH hi_84 dX8_lay_141 (fun H locs hH => ?_)
                  rw [← eS_83] at hH
                  obtain ⟨x1_85, ex1_85, h⟩ := fb_vl_s h
                  refine lv_iinc (v := x1_85) (lv' := [(1, .int x1_85), (0, .ref (a 0)), (2, .int x2), (3, .int x3), (4, .int x4), (5, .int x5)]) hx hb dX8_lay_142 hl (k := 1) rfl (by rw [ex1_85]; rfl) (by decide) rfl (fun ls hl => ?_)
                  obtain ⟨x2_86, ex2_86, h⟩ := fb_vl_s h
                  refine lv_iinc (v := x2_86) (lv' := [(2, .int x2_86), (1, .int x1_85), (0, .ref (a 0)), (3, .int x3), (4, .int x4), (5, .int x5)]) hx hb dX8_lay_145 hl (k := 2) rfl (by rw [ex2_86]; rfl) (by decide) rfl (fun ls hl => ?_)
                  refine lv_goto (tgt := 9) hx hb dX8_lay_148 (by decide) ?_
                  exact ih9 _ _ _ _ _ _ h hH (lv_sub hl [2, 1, 0] rfl)
                · replace h := fb_ip c_80 h
                  refine lv_goto (tgt := 145) hx hb dX8_lay_125 (by decide) ?_
                  obtain ⟨x2_87, ex2_87, h⟩ := fb_vl_s h
                  refine lv_iinc (v := x2_87) (lv' := [(2, .int x2_87), (0, .ref (a 0)), (1, .int x1), (3, .int x3), (4, .int x4), (5, .int x5)]) hx hb dX8_lay_145 hl (k := 2) rfl (by rw [ex2_87]; rfl) (by decide) rfl (fun ls hl => ?_)
                  refine lv_goto (tgt := 9) hx hb dX8_lay_148 (by decide) ?_
                  exact ih9 _ _ _ _ _ _ h hH (lv_sub hl [1, 2, 0] rfl)
              · replace h := fb_ip c_79 h
                refine lv_iload hx hb dX8_lay_117 (lv_at hl 4 rfl) ?_
                obtain ⟨x3_88, ex3_88, h⟩ := fb_vl_s h
                refine fb_top ex3_88 ?_
                refine lv_istore_n (lv' := [(3, .int x3_88), (0, .ref (a 0)), (1, .int x1), (2, .int x2), (4, .int x4), (5, .int x5)]) hx hb dX8_lay_119 rfl hl (by decide) rfl (fun ls hl => ?_)
                refine lv_iload_n hx hb dX8_lay_120 rfl (lv_at hl 0 rfl) ?_
                refine lv_iconst (v := (-1)) hx hb dX8_lay_121 (by decide) ?_
                refine lv_icmp_ne (tgt := 128) hx hb dX8_lay_122 (by decide) (fun c_89 => ?_) (fun c_89 => ?_)
                · replace h := fb_in c_89 h
                  refine lv_aload_n hx hb dX8_lay_128 rfl (lv_at hl 1 rfl) ?_
                  refine M_ra17 cx hH lkX8_71 dX8_lay_129 ?_
                  refine lv_iload_n hx hb dX8_lay_132 rfl (lv_at hl 0 rfl) ?_
                  refine lv_iload_n hx hb dX8_lay_133 rfl (lv_at hl 3 rfl) ?_
                  obtain ⟨hi_91, h⟩ := fb_ck_s h
                  obtain ⟨S_90, eS_90, h⟩ := fb_st_s h
                  refine M_s17 cx hH hi_91 dX8_lay_134 (fun H locs hH => ?_)
                  rw [← eS_90] at hH
                  refine lv_aload_n hx hb dX8_lay_135 rfl (lv_at hl 1 rfl) ?_
                  refine M_ra11 cx hH lkX8_53 dX8_lay_136 ?_
                  refine lv_iload_n hx hb dX8_lay_139 rfl (lv_at hl 3 rfl) ?_
                  refine lv_iconst (v := 1) hx hb dX8_lay_140 (by decide) ?_
                  obtain ⟨hi_93, h⟩ := fb_ck_s h
                  obtain ⟨S_92, eS_92, h⟩ := fb_st_s h
                  refine M_s11 cx hH hi_93 dX8_lay_141 (fun H locs hH => ?_)
                  rw [← eS_92] at hH
                  obtain ⟨x1_94, ex1_94, h⟩ := fb_vl_s h
                  refine lv_iinc (v := x1_94) (lv' := [(1, .int x1_94), (3, .int x3_88), (0, .ref (a 0)), (2, .int x2), (4, .int x4), (5, .int x5)]) hx hb dX8_lay_142 hl (k := 2) rfl (by rw [ex1_94]; rfl) (by decide) rfl (fun ls hl => ?_)
                  obtain ⟨x2_95, ex2_95, h⟩ := fb_vl_s h
                  refine lv_iinc (v := x2_95) (lv' := [(2, .int x2_95), (1, .int x1_94), (3, .int x3_88), (0, .ref (a 0)), (4, .int x4), (5, .int x5)]) hx hb dX8_lay_145 hl (k := 3) rfl (by rw [ex2_95]; rfl) (by decide) rfl (fun ls hl => ?_)
                  refine lv_goto (tgt := 9) hx hb dX8_lay_148 (by decide) ?_
                  exact ih9 _ _ _ _ _ _ h hH (lv_sub hl [3, 1, 0] rfl)
                · replace h := fb_ip c_89 h
                  refine lv_goto (tgt := 145) hx hb dX8_lay_125 (by decide) ?_
                  obtain ⟨x2_96, ex2_96, h⟩ := fb_vl_s h
                  refine lv_iinc (v := x2_96) (lv' := [(2, .int x2_96), (3, .int x3_88), (0, .ref (a 0)), (1, .int x1), (4, .int x4), (5, .int x5)]) hx hb dX8_lay_145 hl (k := 3) rfl (by rw [ex2_96]; rfl) (by decide) rfl (fun ls hl => ?_)
                  refine lv_goto (tgt := 9) hx hb dX8_lay_148 (by decide) ?_
                  exact ih9 _ _ _ _ _ _ h hH (lv_sub hl [2, 3, 0] rfl)
          · replace h := fb_in c_67 h
            refine lv_aload_n hx hb dX8_lay_43 rfl (lv_at hl 0 rfl) ?_
            refine M_ra17 cx hH lkX8_71 dX8_lay_44 ?_
            refine lv_iload hx hb dX8_lay_47 (lv_at hl 5 rfl) ?_
            obtain ⟨hi_97, h⟩ := fb_ck_s h
            refine M_l17 cx hH hi_97 dX8_lay_49 ?_
            refine lv_bipush (v := (-2)) hx hb dX8_lay_50 (by decide) ?_
            refine lv_icmp_eq (tgt := 58) hx hb dX8_lay_52 (by decide) (fun c_98 => ?_) (fun c_98 => ?_)
            · replace h := fb_ip c_98 h
              refine lv_iload hx hb dX8_lay_58 (lv_at hl 4 rfl) ?_
              refine lv_iconst (v := (-1)) hx hb dX8_lay_60 (by decide) ?_
              refine lv_icmp_ne (tgt := 69) hx hb dX8_lay_61 (by decide) (fun c_99 => ?_) (fun c_99 => ?_)
              · replace h := fb_in c_99 h
                refine lv_iload hx hb dX8_lay_69 (lv_at hl 4 rfl) ?_
                obtain ⟨x4_100, ex4_100, h⟩ := fb_vl_s h
                refine fb_top ex4_100 ?_
                refine lv_istore (lv' := [(4, .int x4_100), (0, .ref (a 0)), (1, .int x1), (2, .int x2), (3, .int x3), (5, .int x5)]) hx hb dX8_lay_71 hl (by decide) rfl (fun ls hl => ?_)
                refine lv_aload_n hx hb dX8_lay_73 rfl (lv_at hl 1 rfl) ?_
                refine lv_iload hx hb dX8_lay_74 (lv_at hl 5 rfl) ?_
                refine lv_iconst (v := 1) hx hb dX8_lay_76 (by decide) ?_
                refine lv_isub hx hb dX8_lay_77 ?_
                obtain ⟨r_102, hc_101, h⟩ := fb_bd_s h
                refine fb_vi (wd := wM cI cZ a) (As := [.int (x5 - 1)]) (rest := []) cx hH mwX8_hasHot (ctX8_hasHot l D cI cZ a hc_101) (M_rc0 cx hH) mlX8_190 (by decide) rfl hl.1 (Nat.le_of_ble_eq_true rfl) rfl dX8_lay_78 (fun H locs hH => ?_)
                refine lv_if_ne (tgt := 98) hx hb dX8_lay_81 (by decide) (fun c_103 => ?_) (fun c_103 => ?_)
                · replace h := fb_in c_103 h
                  obtain ⟨x5_104, ex5_104, h⟩ := fb_vl_s h
                  refine lv_iinc (v := x5_104) (lv' := [(5, .int x5_104), (4, .int x4_100), (0, .ref (a 0)), (1, .int x1), (2, .int x2), (3, .int x3)]) hx hb dX8_lay_98 hl (k := 5) rfl (by rw [ex5_104]; rfl) (by decide) rfl (fun ls hl => ?_)
                  refine lv_goto (tgt := 38) hx hb dX8_lay_101 (by decide) ?_
                  exact ih38 _ _ _ _ _ _ _ _ _ h hH (lv_sub hl [2, 3, 4, 5, 1, 0] rfl)
                · replace h := fb_ip c_103 h
                  refine lv_aload_n hx hb dX8_lay_84 rfl (lv_at hl 1 rfl) ?_
                  refine lv_iload hx hb dX8_lay_85 (lv_at hl 5 rfl) ?_
                  refine lv_iconst (v := 1) hx hb dX8_lay_87 (by decide) ?_
                  refine lv_iadd hx hb dX8_lay_88 ?_
                  obtain ⟨r_106, hc_105, h⟩ := fb_bd_s h
                  refine fb_vi (wd := wM cI cZ a) (As := [.int (x5 + 1)]) (rest := []) cx hH mwX8_hasHot (ctX8_hasHot l D cI cZ a hc_105) (M_rc0 cx hH) mlX8_190 (by decide) rfl hl.1 (Nat.le_of_ble_eq_true rfl) rfl dX8_lay_89 (fun H locs hH => ?_)
                  refine lv_if_ne (tgt := 98) hx hb dX8_lay_92 (by decide) (fun c_107 => ?_) (fun c_107 => ?_)
                  · replace h := fb_in c_107 h
                    obtain ⟨x5_108, ex5_108, h⟩ := fb_vl_s h
                    refine lv_iinc (v := x5_108) (lv' := [(5, .int x5_108), (4, .int x4_100), (0, .ref (a 0)), (1, .int x1), (2, .int x2), (3, .int x3)]) hx hb dX8_lay_98 hl (k := 5) rfl (by rw [ex5_108]; rfl) (by decide) rfl (fun ls hl => ?_)
                    refine lv_goto (tgt := 38) hx hb dX8_lay_101 (by decide) ?_
                    exact ih38 _ _ _ _ _ _ _ _ _ h hH (lv_sub hl [2, 3, 4, 5, 1, 0] rfl)
                  · replace h := fb_ip c_107 h
                    refine lv_iload hx hb dX8_lay_95 (lv_at hl 5 rfl) ?_
                    obtain ⟨x3_109, ex3_109, h⟩ := fb_vl_s h
                    refine fb_top ex3_109 ?_
                    refine lv_istore_n (lv' := [(3, .int x3_109), (4, .int x4_100), (0, .ref (a 0)), (1, .int x1), (2, .int x2), (5, .int x5)]) hx hb dX8_lay_97 rfl hl (by decide) rfl (fun ls hl => ?_)
                    obtain ⟨x5_110, ex5_110, h⟩ := fb_vl_s h
                    refine lv_iinc (v := x5_110) (lv' := [(5, .int x5_110), (3, .int x3_109), (4, .int x4_100), (0, .ref (a 0)), (1, .int x1), (2, .int x2)]) hx hb dX8_lay_98 hl (k := 5) rfl (by rw [ex5_110]; rfl) (by decide) rfl (fun ls hl => ?_)
                    refine lv_goto (tgt := 38) hx hb dX8_lay_101 (by decide) ?_
                    exact ih38 _ _ _ _ _ _ _ _ _ h hH (lv_sub hl [3, 4, 5, 1, 2, 0] rfl)
              · replace h := fb_ip c_99 h
                refine lv_iload hx hb dX8_lay_64 (lv_at hl 5 rfl) ?_
                refine lv_goto (tgt := 71) hx hb dX8_lay_66 (by decide) ?_
                obtain ⟨x4_111, ex4_111, h⟩ := fb_vl_s h
                refine fb_top ex4_111 ?_
                refine lv_istore (lv' := [(4, .int x4_111), (0, .ref (a 0)), (1, .int x1), (2, .int x2), (3, .int x3), (5, .int x5)]) hx hb dX8_lay_71 hl (by decide) rfl (fun ls hl => ?_)
                refine lv_aload_n hx hb dX8_lay_73 rfl (lv_at hl 1 rfl) ?_
                refine lv_iload hx hb dX8_lay_74 (lv_at hl 5 rfl) ?_
                refine lv_iconst (v := 1) hx hb dX8_lay_76 (by decide) ?_
                refine lv_isub hx hb dX8_lay_77 ?_
                obtain ⟨r_113, hc_112, h⟩ := fb_bd_s h
                refine fb_vi (wd := wM cI cZ a) (As := [.int (x5 - 1)]) (rest := []) cx hH mwX8_hasHot (ctX8_hasHot l D cI cZ a hc_112) (M_rc0 cx hH) mlX8_190 (by decide) rfl hl.1 (Nat.le_of_ble_eq_true rfl) rfl dX8_lay_78 (fun H locs hH => ?_)
                refine lv_if_ne (tgt := 98) hx hb dX8_lay_81 (by decide) (fun c_114 => ?_) (fun c_114 => ?_)
                · replace h := fb_in c_114 h
                  obtain ⟨x5_115, ex5_115, h⟩ := fb_vl_s h
                  refine lv_iinc (v := x5_115) (lv' := [(5, .int x5_115), (4, .int x4_111), (0, .ref (a 0)), (1, .int x1), (2, .int x2), (3, .int x3)]) hx hb dX8_lay_98 hl (k := 5) rfl (by rw [ex5_115]; rfl) (by decide) rfl (fun ls hl => ?_)
                  refine lv_goto (tgt := 38) hx hb dX8_lay_101 (by decide) ?_
                  exact ih38 _ _ _ _ _ _ _ _ _ h hH (lv_sub hl [2, 3, 4, 5, 1, 0] rfl)
                · replace h := fb_ip c_114 h
                  refine lv_aload_n hx hb dX8_lay_84 rfl (lv_at hl 1 rfl) ?_
                  refine lv_iload hx hb dX8_lay_85 (lv_at hl 5 rfl) ?_
                  refine lv_iconst (v := 1) hx hb dX8_lay_87 (by decide) ?_
                  refine lv_iadd hx hb dX8_lay_88 ?_
                  obtain ⟨r_117, hc_116, h⟩ := fb_bd_s h
                  refine fb_vi (wd := wM cI cZ a) (As := [.int (x5 + 1)]) (rest := []) cx hH mwX8_hasHot (ctX8_hasHot l D cI cZ a hc_116) (M_rc0 cx hH) mlX8_190 (by decide) rfl hl.1 (Nat.le_of_ble_eq_true rfl) rfl dX8_lay_89 (fun H locs hH => ?_)
                  refine lv_if_ne (tgt := 98) hx hb dX8_lay_92 (by decide) (fun c_118 => ?_) (fun c_118 => ?_)
                  · replace h := fb_in c_118 h
                    obtain ⟨x5_119, ex5_119, h⟩ := fb_vl_s h
                    refine lv_iinc (v := x5_119) (lv' := [(5, .int x5_119), (4, .int x4_111), (0, .ref (a 0)), (1, .int x1), (2, .int x2), (3, .int x3)]) hx hb dX8_lay_98 hl (k := 5) rfl (by rw [ex5_119]; rfl) (by decide) rfl (fun ls hl => ?_)
                    refine lv_goto (tgt := 38) hx hb dX8_lay_101 (by decide) ?_
                    exact ih38 _ _ _ _ _ _ _ _ _ h hH (lv_sub hl [2, 3, 4, 5, 1, 0] rfl)
                  · replace h := fb_ip c_118 h
                    refine lv_iload hx hb dX8_lay_95 (lv_at hl 5 rfl) ?_
                    obtain ⟨x3_120, ex3_120, h⟩ := fb_vl_s h
                    refine fb_top ex3_120 ?_
                    refine lv_istore_n (lv' := [(3, .int x3_120), (4, .int x4_111), (0, .ref (a 0)), (1, .int x1), (2, .int x2), (5, .int x5)]) hx hb dX8_lay_97 rfl hl (by decide) rfl (fun ls hl => ?_)
                    obtain ⟨x5_121, ex5_121, h⟩ := fb_vl_s h
                    refine lv_iinc (v := x5_121) (lv' := [(5, .int x5_121), (3, .int x3_120), (4, .int x4_111), (0, .ref (a 0)), (1, .int x1), (2, .int x2)]) hx hb dX8_lay_98 hl (k := 5) rfl (by rw [ex5_121]; rfl) (by decide) rfl (fun ls hl => ?_)
                    refine lv_goto (tgt := 38) hx hb dX8_lay_101 (by decide) ?_
                    exact ih38 _ _ _ _ _ _ _ _ _ h hH (lv_sub hl [3, 4, 5, 1, 2, 0] rfl)
            · replace h := fb_in c_98 h
              refine lv_goto (tgt := 98) hx hb dX8_lay_55 (by decide) ?_
              obtain ⟨x5_122, ex5_122, h⟩ := fb_vl_s h
              refine lv_iinc (v := x5_122) (lv' := [(5, .int x5_122), (0, .ref (a 0)), (1, .int x1), (2, .int x2), (3, .int x3), (4, .int x4)]) hx hb dX8_lay_98 hl (k := 5) rfl (by rw [ex5_122]; rfl) (by decide) rfl (fun ls hl => ?_)
              refine lv_goto (tgt := 38) hx hb dX8_lay_101 (by decide) ?_
              exact ih38 _ _ _ _ _ _ _ _ _ h hH (lv_sub hl [1, 2, 3, 4, 5, 0] rfl)
      intro T x1 x2 H locs ls h hH hl
      rw [pX8_lay_l9] at h
      refine lv_iload_n hx hb dX8_lay_9 rfl (lv_at hl 2 rfl) ?_
      refine lv_aload_n hx hb dX8_lay_10 rfl (lv_at hl 0 rfl) ?_
      refine M_g10 cx hH lkX8_139 dX8_lay_11 ?_
      refine lv_icmp_ge (tgt := 151) hx hb dX8_lay_14 (by decide) (fun c_123 => ?_) (fun c_123 => ?_)
      · replace h := fb_ip c_123 h
        refine lv_iload_n hx hb dX8_lay_151 rfl (lv_at hl 1 rfl) ?_
        obtain ⟨rfl, rfl⟩ := Prod.mk.inj (Option.some.inj h)
        exact fb_iret (wd := wM cI cZ a) cx rfl hH dX8_lay_152
      · replace h := fb_in c_123 h
        refine lv_aload_n hx hb dX8_lay_17 rfl (lv_at hl 0 rfl) ?_
        refine M_ra11 cx hH lkX8_53 dX8_lay_18 ?_
        refine lv_iload_n hx hb dX8_lay_21 rfl (lv_at hl 2 rfl) ?_
        obtain ⟨hi_124, h⟩ := fb_ck_s h
        refine M_l11 cx hH hi_124 dX8_lay_22 ?_
        refine lv_if_eq (tgt := 29) hx hb dX8_lay_23 (by decide) (fun c_125 => ?_) (fun c_125 => ?_)
        · replace h := fb_ip c_125 h
          refine lv_iconst (v := (-1)) hx hb dX8_lay_29 (by decide) ?_
          obtain ⟨x3_126, ex3_126, h⟩ := fb_vl_s h
          refine fb_top ex3_126 ?_
          refine lv_istore_n (lv' := [(3, .int x3_126), (0, .ref (a 0)), (1, .int x1), (2, .int x2)]) hx hb dX8_lay_30 rfl hl (by decide) rfl (fun ls hl => ?_)
          refine lv_iconst (v := (-1)) hx hb dX8_lay_31 (by decide) ?_
          obtain ⟨x4_127, ex4_127, h⟩ := fb_vl_s h
          refine fb_top ex4_127 ?_
          refine lv_istore (lv' := [(4, .int x4_127), (3, .int x3_126), (0, .ref (a 0)), (1, .int x1), (2, .int x2)]) hx hb dX8_lay_32 hl (by decide) rfl (fun ls hl => ?_)
          refine lv_bipush (v := 23) hx hb dX8_lay_34 (by decide) ?_
          obtain ⟨x5_128, ex5_128, h⟩ := fb_vl_s h
          refine fb_top ex5_128 ?_
          refine lv_istore (lv' := [(5, .int x5_128), (4, .int x4_127), (3, .int x3_126), (0, .ref (a 0)), (1, .int x1), (2, .int x2)]) hx hb dX8_lay_36 hl (by decide) rfl (fun ls hl => ?_)
          exact hL38 5000 _ _ _ _ _ _ _ _ _ h hH (lv_sub hl [3, 4, 5, 2, 1, 0] rfl)
        · replace h := fb_in c_125 h
          refine lv_goto (tgt := 145) hx hb dX8_lay_26 (by decide) ?_
          obtain ⟨x2_129, ex2_129, h⟩ := fb_vl_s h
          refine lv_iinc (v := x2_129) (lv' := [(2, .int x2_129), (0, .ref (a 0)), (1, .int x1)]) hx hb dX8_lay_145 hl (k := 2) rfl (by rw [ex2_129]; rfl) (by decide) rfl (fun ls hl => ?_)
          refine lv_goto (tgt := 9) hx hb dX8_lay_148 (by decide) ?_
          exact ih9 _ _ _ _ _ _ h hH (lv_sub hl [1, 2, 0] rfl)
  unfold pX8_lay at h
  refine lv_aload_n hx hb dX8_lay_0 rfl (lv_at hl 0 rfl) ?_
  refine lv_iconst (v := 0) hx hb dX8_lay_1 (by decide) ?_
  obtain ⟨S_64, eS_64, h⟩ := fb_st_s h
  refine M_p0 cx hH lkX8_1 dX8_lay_2 (fun H locs hH => ?_)
  rw [← eS_64] at hH
  refine lv_iconst (v := 0) hx hb dX8_lay_5 (by decide) ?_
  obtain ⟨x1_65, ex1_65, h⟩ := fb_vl_s h
  refine fb_top ex1_65 ?_
  refine lv_istore_n (lv' := [(1, .int x1_65), (0, .ref (a 0))]) hx hb dX8_lay_6 rfl hl (by decide) rfl (fun ls hl => ?_)
  refine lv_iconst (v := 0) hx hb dX8_lay_7 (by decide) ?_
  obtain ⟨x2_66, ex2_66, h⟩ := fb_vl_s h
  refine fb_top ex2_66 ?_
  refine lv_istore_n (lv' := [(2, .int x2_66), (1, .int x1_65), (0, .ref (a 0))]) hx hb dX8_lay_8 rfl hl (by decide) rfl (fun ls hl => ?_)
  exact hL9 5000 _ _ _ _ _ _ h hH (lv_sub hl [2, 1, 0] rfl)
set_option maxHeartbeats 4000000 in
set_option maxRecDepth 100000 in
theorem ctX8_place (l : Launch) (D : va_G) (cI cZ : ClassId) (a : Nat → Nat) {S : Sg} {x1 : Int32} {r : Int32} {S9 : Sg} (h : pX8_place S x1 = some (r, S9)) : CTi l D cI cZ (wM cI cZ a) yX8_place cX8_place 2 (some .int) 1 [.ref (a 0), .int x1] S r S9 := by
  refine fb_starti (by decide) (Nat.le_of_ble_eq_true rfl) (fun p e s m args below meth c ls cx hH hl => ?_)
  obtain ⟨hx, hb, -⟩ := id cx
  have hl : lv_has ls 2 [(0, .ref (a 0)), (1, .int x1)] := hl
  unfold pX8_place at h
  refine lv_aload_n hx hb dX8_place_0 rfl (lv_at hl 0 rfl) ?_
  refine lv_iconst (v := 0) hx hb dX8_place_1 (by decide) ?_
  obtain ⟨S_1, eS_1, h⟩ := fb_st_s h
  refine M_p0 cx hH lkX8_1 dX8_place_2 (fun H locs hH => ?_)
  rw [← eS_1] at hH
  refine lv_iload_n hx hb dX8_place_5 rfl (lv_at hl 1 rfl) ?_
  refine lv_iconst (v := 0) hx hb dX8_place_6 (by decide) ?_
  refine lv_bipush (v := 23) hx hb dX8_place_7 (by decide) ?_
  obtain ⟨r_3, hc_2, h⟩ := fb_bd_s h
  refine fb_si (wd := wM cI cZ a) (As := [.int x1, .int 0, .int 23]) (rest := []) cx hH mwX8_in (ctX8_in l D cI cZ a hc_2) mlX8_114 (by decide) rfl hl.1 (Nat.le_of_ble_eq_true rfl) rfl dX8_place_9 (fun H locs hH => ?_)
  refine lv_if_eq (tgt := 24) hx hb dX8_place_12 (by decide) (fun c_4 => ?_) (fun c_4 => ?_)
  · replace h := fb_ip c_4 h
    refine lv_iconst (v := (-1)) hx hb dX8_place_24 (by decide) ?_
    obtain ⟨rfl, rfl⟩ := Prod.mk.inj (Option.some.inj h)
    exact fb_iret (wd := wM cI cZ a) cx rfl hH dX8_place_25
  · replace h := fb_in c_4 h
    refine lv_aload_n hx hb dX8_place_15 rfl (lv_at hl 0 rfl) ?_
    refine M_ra17 cx hH lkX8_71 dX8_place_16 ?_
    refine lv_iload_n hx hb dX8_place_19 rfl (lv_at hl 1 rfl) ?_
    obtain ⟨hi_5, h⟩ := fb_ck_s h
    refine M_l17 cx hH hi_5 dX8_place_20 ?_
    refine lv_goto (tgt := 25) hx hb dX8_place_21 (by decide) ?_
    obtain ⟨rfl, rfl⟩ := Prod.mk.inj (Option.some.inj h)
    exact fb_iret (wd := wM cI cZ a) cx rfl hH dX8_place_25
set_option maxHeartbeats 4000000 in
set_option maxRecDepth 100000 in
theorem ctX8_lift (l : Launch) (D : va_G) (cI cZ : ClassId) (a : Nat → Nat) {S : Sg} {x1 : Int32} {r : Int32} {S9 : Sg} (h : pX8_lift S x1 = some (r, S9)) : CTi l D cI cZ (wM cI cZ a) yX8_lift cX8_lift 2 (some .boolean) 1 [.ref (a 0), .int x1] S r S9 := by
  refine fb_starti (by decide) (Nat.le_of_ble_eq_true rfl) (fun p e s m args below meth c ls cx hH hl => ?_)
  obtain ⟨hx, hb, -⟩ := id cx
  have hl : lv_has ls 2 [(0, .ref (a 0)), (1, .int x1)] := hl
  unfold pX8_lift at h
  refine lv_aload_n hx hb dX8_lift_0 rfl (lv_at hl 0 rfl) ?_
  refine lv_iconst (v := 0) hx hb dX8_lift_1 (by decide) ?_
  obtain ⟨S_1, eS_1, h⟩ := fb_st_s h
  refine M_p0 cx hH lkX8_1 dX8_lift_2 (fun H locs hH => ?_)
  rw [← eS_1] at hH
  refine lv_iload_n hx hb dX8_lift_5 rfl (lv_at hl 1 rfl) ?_
  refine lv_if_lt (tgt := 17) hx hb dX8_lift_6 (by decide) (fun c_2 => ?_) (fun c_2 => ?_)
  · replace h := fb_ip c_2 h
    refine lv_aload_n hx hb dX8_lift_17 rfl (lv_at hl 0 rfl) ?_
    refine lv_iconst (v := 1) hx hb dX8_lift_18 (by decide) ?_
    obtain ⟨r_4, S_5, hc_3, h⟩ := fb_bd2_s h
    refine fb_vi (wd := wM cI cZ a) (As := [.int 1]) (rest := []) cx hH mwX8_denied (ctX8_denied l D cI cZ a hc_3) (M_rc0 cx hH) mlX8_129 (by decide) rfl hl.1 (Nat.le_of_ble_eq_true rfl) rfl dX8_lift_19 (fun H locs hH => ?_)
    obtain ⟨hn, h⟩ := fb_cb_s h
    obtain ⟨rfl, rfl⟩ := Prod.mk.inj (Option.some.inj h)
    exact fb_zret (wd := wM cI cZ a) cx rfl hH hn dX8_lift_22
  · replace h := fb_in c_2 h
    refine lv_iload_n hx hb dX8_lift_9 rfl (lv_at hl 1 rfl) ?_
    refine lv_aload_n hx hb dX8_lift_10 rfl (lv_at hl 0 rfl) ?_
    refine M_g10 cx hH lkX8_139 dX8_lift_11 ?_
    refine lv_icmp_lt (tgt := 23) hx hb dX8_lift_14 (by decide) (fun c_6 => ?_) (fun c_6 => ?_)
    · replace h := fb_ip c_6 h
      refine lv_aload_n hx hb dX8_lift_23 rfl (lv_at hl 0 rfl) ?_
      refine M_ra11 cx hH lkX8_53 dX8_lift_24 ?_
      refine lv_iload_n hx hb dX8_lift_27 rfl (lv_at hl 1 rfl) ?_
      obtain ⟨hi_7, h⟩ := fb_ck_s h
      refine M_l11 cx hH hi_7 dX8_lift_28 ?_
      refine lv_iconst (v := 1) hx hb dX8_lift_29 (by decide) ?_
      refine lv_icmp_eq (tgt := 39) hx hb dX8_lift_30 (by decide) (fun c_8 => ?_) (fun c_8 => ?_)
      · replace h := fb_ip c_8 h
        refine lv_aload_n hx hb dX8_lift_39 rfl (lv_at hl 0 rfl) ?_
        refine M_ra17 cx hH lkX8_71 dX8_lift_40 ?_
        refine lv_aload_n hx hb dX8_lift_43 rfl (lv_at hl 0 rfl) ?_
        refine lv_iload_n hx hb dX8_lift_44 rfl (lv_at hl 1 rfl) ?_
        obtain ⟨r_10, hc_9, h⟩ := fb_bd_s h
        refine fb_vi (wd := wM cI cZ a) (As := [.int x1]) (rest := [.ref (a 17)]) cx hH mwX8_placeOf (ctX8_placeOf l D cI cZ a hc_9) (M_rc0 cx hH) mlX8_187 (by decide) rfl hl.1 (Nat.le_of_ble_eq_true rfl) rfl dX8_lift_45 (fun H locs hH => ?_)
        refine lv_bipush (v := (-2)) hx hb dX8_lift_48 (by decide) ?_
        obtain ⟨hi_12, h⟩ := fb_ck_s h
        obtain ⟨S_11, eS_11, h⟩ := fb_st_s h
        refine M_s17 cx hH hi_12 dX8_lift_50 (fun H locs hH => ?_)
        rw [← eS_11] at hH
        refine lv_aload_n hx hb dX8_lift_51 rfl (lv_at hl 0 rfl) ?_
        refine M_ra11 cx hH lkX8_53 dX8_lift_52 ?_
        refine lv_iload_n hx hb dX8_lift_55 rfl (lv_at hl 1 rfl) ?_
        refine lv_iconst (v := 0) hx hb dX8_lift_56 (by decide) ?_
        obtain ⟨hi_14, h⟩ := fb_ck_s h
        obtain ⟨S_13, eS_13, h⟩ := fb_st_s h
        refine M_s11 cx hH hi_14 dX8_lift_57 (fun H locs hH => ?_)
        rw [← eS_13] at hH
        refine lv_aload_n hx hb dX8_lift_58 rfl (lv_at hl 0 rfl) ?_
        obtain ⟨r_16, S_17, hc_15, h⟩ := fb_bd2_s h
        refine fb_vi (wd := wM cI cZ a) (As := []) (rest := []) cx hH mwX8_granted (ctX8_granted l D cI cZ a hc_15) (M_rc0 cx hH) mlX8_132 (by decide) rfl hl.1 (Nat.le_of_ble_eq_true rfl) rfl dX8_lift_59 (fun H locs hH => ?_)
        obtain ⟨hn, h⟩ := fb_cb_s h
        obtain ⟨rfl, rfl⟩ := Prod.mk.inj (Option.some.inj h)
        exact fb_zret (wd := wM cI cZ a) cx rfl hH hn dX8_lift_62
      · replace h := fb_in c_8 h
        refine lv_aload_n hx hb dX8_lift_33 rfl (lv_at hl 0 rfl) ?_
        refine lv_iconst (v := 4) hx hb dX8_lift_34 (by decide) ?_
        obtain ⟨r_19, S_20, hc_18, h⟩ := fb_bd2_s h
        refine fb_vi (wd := wM cI cZ a) (As := [.int 4]) (rest := []) cx hH mwX8_denied (ctX8_denied l D cI cZ a hc_18) (M_rc0 cx hH) mlX8_129 (by decide) rfl hl.1 (Nat.le_of_ble_eq_true rfl) rfl dX8_lift_35 (fun H locs hH => ?_)
        obtain ⟨hn, h⟩ := fb_cb_s h
        obtain ⟨rfl, rfl⟩ := Prod.mk.inj (Option.some.inj h)
        exact fb_zret (wd := wM cI cZ a) cx rfl hH hn dX8_lift_38
    · replace h := fb_in c_6 h
      refine lv_aload_n hx hb dX8_lift_17 rfl (lv_at hl 0 rfl) ?_
      refine lv_iconst (v := 1) hx hb dX8_lift_18 (by decide) ?_
      obtain ⟨r_22, S_23, hc_21, h⟩ := fb_bd2_s h
      refine fb_vi (wd := wM cI cZ a) (As := [.int 1]) (rest := []) cx hH mwX8_denied (ctX8_denied l D cI cZ a hc_21) (M_rc0 cx hH) mlX8_129 (by decide) rfl hl.1 (Nat.le_of_ble_eq_true rfl) rfl dX8_lift_19 (fun H locs hH => ?_)
      obtain ⟨hn, h⟩ := fb_cb_s h
      obtain ⟨rfl, rfl⟩ := Prod.mk.inj (Option.some.inj h)
      exact fb_zret (wd := wM cI cZ a) cx rfl hH hn dX8_lift_22
set_option maxHeartbeats 4000000 in
set_option maxRecDepth 100000 in
theorem ctX8_pass (l : Launch) (D : va_G) (cI cZ : ClassId) (a : Nat → Nat) {S : Sg} {x1 : Int32} {r : Int32} {S9 : Sg} (h : pX8_pass S x1 = some (r, S9)) : CTi l D cI cZ (wM cI cZ a) yX8_pass cX8_pass 3 (some .int) 1 [.ref (a 0), .int x1] S r S9 := by
  refine fb_starti (by decide) (Nat.le_of_ble_eq_true rfl) (fun p e s m args below meth c ls cx hH hl => ?_)
  obtain ⟨hx, hb, -⟩ := id cx
  have hl : lv_has ls 3 [(0, .ref (a 0)), (1, .int x1)] := hl
  have hL45 : ∀ (n : Nat), ∀ (T : Sg) (x1 x2 : Int32) (H : Heap) (locs : List Loc) (ls : Array Slot), pX8_pass_l45 n T x1 x2 = some (r, S9) → HB D (wM cI cZ a S) (wM cI cZ a T) s H locs → lv_has ls 3 [(0, .ref (a 0)), (1, .int x1), (2, .int x2)] → W p l e (rmk 1) s m args below meth c H locs 0 0 (Ei D cI cZ (wM cI cZ a) S r S9 below args s) (F0 m 45 ls []) := by
    intro n45
    induction n45 with
    | zero => intro T x1 x2 H locs ls h hH hl; simp [pX8_pass_l45] at h
    | succ n45 ih45 =>
      intro T x1 x2 H locs ls h hH hl
      rw [pX8_pass_l45] at h
      refine lv_iload_n hx hb dX8_pass_45 rfl (lv_at hl 2 rfl) ?_
      refine lv_aload_n hx hb dX8_pass_46 rfl (lv_at hl 0 rfl) ?_
      refine M_g10 cx hH lkX8_139 dX8_pass_47 ?_
      refine lv_icmp_ge (tgt := 83) hx hb dX8_pass_50 (by decide) (fun c_27 => ?_) (fun c_27 => ?_)
      · replace h := fb_ip c_27 h
        refine lv_aload_n hx hb dX8_pass_83 rfl (lv_at hl 0 rfl) ?_
        refine lv_aload_n hx hb dX8_pass_84 rfl (lv_at hl 0 rfl) ?_
        refine M_g6 cx hH lkX8_175 dX8_pass_85 ?_
        obtain ⟨r_29, S_30, hc_28, h⟩ := fb_bd2_s h
        refine fb_vi (wd := wM cI cZ a) (As := [.int (T.1 6)]) (rest := []) cx hH mwX8_done (ctX8_done l D cI cZ a hc_28) (M_rc0 cx hH) mlX8_122 (by decide) rfl hl.1 (Nat.le_of_ble_eq_true rfl) rfl dX8_pass_88 (fun H locs hH => ?_)
        obtain ⟨rfl, rfl⟩ := Prod.mk.inj (Option.some.inj h)
        exact fb_iret (wd := wM cI cZ a) cx rfl hH dX8_pass_91
      · replace h := fb_in c_27 h
        refine lv_aload_n hx hb dX8_pass_53 rfl (lv_at hl 0 rfl) ?_
        refine M_ra16 cx hH lkX8_68 dX8_pass_54 ?_
        refine lv_iload_n hx hb dX8_pass_57 rfl (lv_at hl 2 rfl) ?_
        refine lv_dup2_11 hx hb dX8_pass_58 rfl rfl ?_
        obtain ⟨hi_31, h⟩ := fb_ck_s h
        refine M_l16 cx hH hi_31 dX8_pass_59 ?_
        refine lv_aload_n hx hb dX8_pass_60 rfl (lv_at hl 0 rfl) ?_
        refine M_ra11 cx hH lkX8_53 dX8_pass_61 ?_
        refine lv_iload_n hx hb dX8_pass_64 rfl (lv_at hl 2 rfl) ?_
        obtain ⟨hi_32, h⟩ := fb_ck_s h
        refine M_l11 cx hH hi_32 dX8_pass_65 ?_
        refine lv_iconst (v := 1) hx hb dX8_pass_66 (by decide) ?_
        refine lv_icmp_ne (tgt := 74) hx hb dX8_pass_67 (by decide) (fun c_33 => ?_) (fun c_33 => ?_)
        · replace h := fb_in c_33 h
          refine lv_iconst (v := 0) hx hb dX8_pass_74 (by decide) ?_
          refine lv_iadd hx hb dX8_pass_75 ?_
          obtain ⟨hi_35, h⟩ := fb_ck_s h
          obtain ⟨S_34, eS_34, h⟩ := fb_st_s h
          refine M_s16 cx hH hi_35 dX8_pass_76 (fun H locs hH => ?_)
          rw [← eS_34] at hH
          obtain ⟨x2_36, ex2_36, h⟩ := fb_vl_s h
          refine lv_iinc (v := x2_36) (lv' := [(2, .int x2_36), (0, .ref (a 0)), (1, .int x1)]) hx hb dX8_pass_77 hl (k := 2) rfl (by rw [ex2_36]; rfl) (by decide) rfl (fun ls hl => ?_)
          refine lv_goto (tgt := 45) hx hb dX8_pass_80 (by decide) ?_
          exact ih45 _ _ _ _ _ _ h hH (lv_sub hl [1, 2, 0] rfl)
        · replace h := fb_ip c_33 h
          refine lv_iload_n hx hb dX8_pass_70 rfl (lv_at hl 1 rfl) ?_
          refine lv_goto (tgt := 75) hx hb dX8_pass_71 (by decide) ?_
          refine lv_iadd hx hb dX8_pass_75 ?_
          obtain ⟨hi_38, h⟩ := fb_ck_s h
          obtain ⟨S_37, eS_37, h⟩ := fb_st_s h
          refine M_s16 cx hH hi_38 dX8_pass_76 (fun H locs hH => ?_)
          rw [← eS_37] at hH
          obtain ⟨x2_39, ex2_39, h⟩ := fb_vl_s h
          refine lv_iinc (v := x2_39) (lv' := [(2, .int x2_39), (0, .ref (a 0)), (1, .int x1)]) hx hb dX8_pass_77 hl (k := 2) rfl (by rw [ex2_39]; rfl) (by decide) rfl (fun ls hl => ?_)
          refine lv_goto (tgt := 45) hx hb dX8_pass_80 (by decide) ?_
          exact ih45 _ _ _ _ _ _ h hH (lv_sub hl [1, 2, 0] rfl)
  unfold pX8_pass at h
  refine lv_aload_n hx hb dX8_pass_0 rfl (lv_at hl 0 rfl) ?_
  refine lv_iconst (v := 0) hx hb dX8_pass_1 (by decide) ?_
  obtain ⟨S_14, eS_14, h⟩ := fb_st_s h
  refine M_p0 cx hH lkX8_1 dX8_pass_2 (fun H locs hH => ?_)
  rw [← eS_14] at hH
  refine lv_iload_n hx hb dX8_pass_5 rfl (lv_at hl 1 rfl) ?_
  refine lv_iconst (v := 1) hx hb dX8_pass_6 (by decide) ?_
  refine lv_bipush (v := 100) hx hb dX8_pass_7 (by decide) ?_
  obtain ⟨r_16, hc_15, h⟩ := fb_bd_s h
  refine fb_si (wd := wM cI cZ a) (As := [.int x1, .int 1, .int 100]) (rest := []) cx hH mwX8_in (ctX8_in l D cI cZ a hc_15) mlX8_114 (by decide) rfl hl.1 (Nat.le_of_ble_eq_true rfl) rfl dX8_pass_9 (fun H locs hH => ?_)
  refine lv_if_eq (tgt := 27) hx hb dX8_pass_12 (by decide) (fun c_17 => ?_) (fun c_17 => ?_)
  · replace h := fb_ip c_17 h
    refine lv_aload_n hx hb dX8_pass_27 rfl (lv_at hl 0 rfl) ?_
    refine lv_iconst (v := 2) hx hb dX8_pass_28 (by decide) ?_
    obtain ⟨r_19, S_20, hc_18, h⟩ := fb_bd2_s h
    refine fb_vi (wd := wM cI cZ a) (As := [.int 2]) (rest := []) cx hH mwX8_refused (ctX8_refused l D cI cZ a hc_18) (M_rc0 cx hH) mlX8_118 (by decide) rfl hl.1 (Nat.le_of_ble_eq_true rfl) rfl dX8_pass_29 (fun H locs hH => ?_)
    obtain ⟨rfl, rfl⟩ := Prod.mk.inj (Option.some.inj h)
    exact fb_iret (wd := wM cI cZ a) cx rfl hH dX8_pass_32
  · replace h := fb_in c_17 h
    refine lv_aload_n hx hb dX8_pass_15 rfl (lv_at hl 0 rfl) ?_
    refine M_g6 cx hH lkX8_175 dX8_pass_16 ?_
    refine lv_iload_n hx hb dX8_pass_19 rfl (lv_at hl 1 rfl) ?_
    refine lv_iadd hx hb dX8_pass_20 ?_
    refine lv_sipush (v := 3000) hx hb dX8_pass_21 (by decide) ?_
    refine lv_icmp_le (tgt := 33) hx hb dX8_pass_24 (by decide) (fun c_21 => ?_) (fun c_21 => ?_)
    · replace h := fb_ip c_21 h
      refine lv_aload_n hx hb dX8_pass_33 rfl (lv_at hl 0 rfl) ?_
      refine lv_dup hx hb dX8_pass_34 rfl ?_
      refine M_g6 cx hH lkX8_175 dX8_pass_35 ?_
      refine lv_iload_n hx hb dX8_pass_38 rfl (lv_at hl 1 rfl) ?_
      refine lv_iadd hx hb dX8_pass_39 ?_
      obtain ⟨S_22, eS_22, h⟩ := fb_st_s h
      refine M_p6 cx hH lkX8_175 dX8_pass_40 (fun H locs hH => ?_)
      rw [← eS_22] at hH
      refine lv_iconst (v := 0) hx hb dX8_pass_43 (by decide) ?_
      obtain ⟨x2_23, ex2_23, h⟩ := fb_vl_s h
      refine fb_top ex2_23 ?_
      refine lv_istore_n (lv' := [(2, .int x2_23), (0, .ref (a 0)), (1, .int x1)]) hx hb dX8_pass_44 rfl hl (by decide) rfl (fun ls hl => ?_)
      exact hL45 5000 _ _ _ _ _ _ h hH (lv_sub hl [1, 2, 0] rfl)
    · replace h := fb_in c_21 h
      refine lv_aload_n hx hb dX8_pass_27 rfl (lv_at hl 0 rfl) ?_
      refine lv_iconst (v := 2) hx hb dX8_pass_28 (by decide) ?_
      obtain ⟨r_25, S_26, hc_24, h⟩ := fb_bd2_s h
      refine fb_vi (wd := wM cI cZ a) (As := [.int 2]) (rest := []) cx hH mwX8_refused (ctX8_refused l D cI cZ a hc_24) (M_rc0 cx hH) mlX8_118 (by decide) rfl hl.1 (Nat.le_of_ble_eq_true rfl) rfl dX8_pass_29 (fun H locs hH => ?_)
      obtain ⟨rfl, rfl⟩ := Prod.mk.inj (Option.some.inj h)
      exact fb_iret (wd := wM cI cZ a) cx rfl hH dX8_pass_32
set_option maxHeartbeats 4000000 in
set_option maxRecDepth 100000 in
theorem ctX8_piecesOf (l : Launch) (D : va_G) (cI cZ : ClassId) (a : Nat → Nat) {S : Sg} {x1 x2 : Int32} {r : Int32} {S9 : Sg} (h : pX8_piecesOf S x1 x2 = some (r, S9)) : CTi l D cI cZ (wM cI cZ a) yX8_piecesOf cX8_piecesOf 7 (some .int) 1 [.ref (a 0), .int x1, .int x2] S r S9 := by
  refine fb_starti (by decide) (Nat.le_of_ble_eq_true rfl) (fun p e s m args below meth c ls cx hH hl => ?_)
  obtain ⟨hx, hb, -⟩ := id cx
  have hl : lv_has ls 7 [(0, .ref (a 0)), (1, .int x1), (2, .int x2)] := hl
  have hL2 : ∀ (n : Nat), ∀ (T : Sg) (x1 x2 x3 : Int32) (H : Heap) (locs : List Loc) (ls : Array Slot), pX8_piecesOf_l2 n T x1 x2 x3 = some (r, S9) → HB D (wM cI cZ a S) (wM cI cZ a T) s H locs → lv_has ls 7 [(0, .ref (a 0)), (1, .int x1), (2, .int x2), (3, .int x3)] → W p l e (rmk 1) s m args below meth c H locs 0 0 (Ei D cI cZ (wM cI cZ a) S r S9 below args s) (F0 m 2 ls []) := by
    intro n2
    induction n2 with
    | zero => intro T x1 x2 x3 H locs ls h hH hl; simp [pX8_piecesOf_l2] at h
    | succ n2 ih2 =>
      have hL13 : ∀ (n : Nat), ∀ (T : Sg) (x1 x2 x3 x4 : Int32) (H : Heap) (locs : List Loc) (ls : Array Slot), pX8_piecesOf_l13 (pX8_piecesOf_l2 n2) n T x1 x2 x3 x4 = some (r, S9) → HB D (wM cI cZ a S) (wM cI cZ a T) s H locs → lv_has ls 7 [(0, .ref (a 0)), (1, .int x1), (2, .int x2), (3, .int x3), (4, .int x4)] → W p l e (rmk 1) s m args below meth c H locs 0 0 (Ei D cI cZ (wM cI cZ a) S r S9 below args s) (F0 m 13 ls []) := by
        intro n13
        induction n13 with
        | zero => intro T x1 x2 x3 x4 H locs ls h hH hl; simp [pX8_piecesOf_l13] at h
        | succ n13 ih13 =>
          have hL107 : ∀ (n : Nat), ∀ (T : Sg) (x1 x2 x3 x4 x5 x6 : Int32) (H : Heap) (locs : List Loc) (ls : Array Slot), pX8_piecesOf_l107 (pX8_piecesOf_l2 n2) (pX8_piecesOf_l13 (pX8_piecesOf_l2 n2) n13) n T x1 x2 x3 x4 x5 x6 = some (r, S9) → HB D (wM cI cZ a S) (wM cI cZ a T) s H locs → lv_has ls 7 [(0, .ref (a 0)), (1, .int x1), (2, .int x2), (3, .int x3), (4, .int x4), (5, .int x5), (6, .int x6)] → W p l e (rmk 1) s m args below meth c H locs 0 0 (Ei D cI cZ (wM cI cZ a) S r S9 below args s) (F0 m 107 ls []) := by
            intro n107
            induction n107 with
            | zero => intro T x1 x2 x3 x4 x5 x6 H locs ls h hH hl; simp [pX8_piecesOf_l107] at h
            | succ n107 ih107 =>
              intro T x1 x2 x3 x4 x5 x6 H locs ls h hH hl
              rw [pX8_piecesOf_l107] at h
              refine lv_iload hx hb dX8_piecesOf_107 (lv_at hl 6 rfl) ?_
              refine lv_iload hx hb dX8_piecesOf_109 (lv_at hl 4 rfl) ?_
              refine lv_iconst (v := 2) hx hb dX8_piecesOf_111 (by decide) ?_
              obtain ⟨hi_43, h⟩ := fb_c0_s h
              refine lv_idiv hx hb dX8_piecesOf_112 hi_43 ?_
              refine lv_icmp_gt (tgt := 157) hx hb dX8_piecesOf_113 (by decide) (fun c_44 => ?_) (fun c_44 => ?_)
              · replace h := fb_ip c_44 h
                refine lv_aload_n hx hb dX8_piecesOf_157 rfl (lv_at hl 0 rfl) ?_
                refine M_ra18 cx hH lkX8_74 dX8_piecesOf_158 ?_
                refine lv_bipush (v := 61) hx hb dX8_piecesOf_161 (by decide) ?_
                refine lv_iload_n hx hb dX8_piecesOf_163 rfl (lv_at hl 3 rfl) ?_
                refine lv_imul hx hb dX8_piecesOf_164 ?_
                refine lv_iload hx hb dX8_piecesOf_165 (lv_at hl 4 rfl) ?_
                refine lv_iadd hx hb dX8_piecesOf_167 ?_
                refine lv_iload hx hb dX8_piecesOf_168 (lv_at hl 5 rfl) ?_
                obtain ⟨hi_46, h⟩ := fb_ck_s h
                obtain ⟨S_45, eS_45, h⟩ := fb_st_s h
                refine M_s18 cx hH hi_46 dX8_piecesOf_170 (fun H locs hH => ?_)
                rw [← eS_45] at hH
                obtain ⟨x4_47, ex4_47, h⟩ := fb_vl_s h
                refine lv_iinc (v := x4_47) (lv' := [(4, .int x4_47), (0, .ref (a 0)), (1, .int x1), (2, .int x2), (3, .int x3), (5, .int x5), (6, .int x6)]) hx hb dX8_piecesOf_171 hl (k := 4) rfl (by rw [ex4_47]; rfl) (by decide) rfl (fun ls hl => ?_)
                refine lv_goto (tgt := 13) hx hb dX8_piecesOf_174 (by decide) ?_
                exact ih13 _ _ _ _ _ _ _ _ h hH (lv_sub hl [1, 2, 3, 4, 0] rfl)
              · replace h := fb_in c_44 h
                refine lv_iload hx hb dX8_piecesOf_116 (lv_at hl 5 rfl) ?_
                refine lv_aload_n hx hb dX8_piecesOf_118 rfl (lv_at hl 0 rfl) ?_
                refine M_ra18 cx hH lkX8_74 dX8_piecesOf_119 ?_
                refine lv_bipush (v := 61) hx hb dX8_piecesOf_122 (by decide) ?_
                refine lv_iload_n hx hb dX8_piecesOf_124 rfl (lv_at hl 3 rfl) ?_
                refine lv_imul hx hb dX8_piecesOf_125 ?_
                refine lv_iload hx hb dX8_piecesOf_126 (lv_at hl 6 rfl) ?_
                refine lv_iadd hx hb dX8_piecesOf_128 ?_
                obtain ⟨hi_48, h⟩ := fb_ck_s h
                refine M_l18 cx hH hi_48 dX8_piecesOf_129 ?_
                refine lv_aload_n hx hb dX8_piecesOf_130 rfl (lv_at hl 0 rfl) ?_
                refine M_ra18 cx hH lkX8_74 dX8_piecesOf_131 ?_
                refine lv_bipush (v := 61) hx hb dX8_piecesOf_134 (by decide) ?_
                refine lv_iload_n hx hb dX8_piecesOf_136 rfl (lv_at hl 3 rfl) ?_
                refine lv_imul hx hb dX8_piecesOf_137 ?_
                refine lv_iload hx hb dX8_piecesOf_138 (lv_at hl 4 rfl) ?_
                refine lv_iadd hx hb dX8_piecesOf_140 ?_
                refine lv_iload hx hb dX8_piecesOf_141 (lv_at hl 6 rfl) ?_
                refine lv_isub hx hb dX8_piecesOf_143 ?_
                obtain ⟨hi_49, h⟩ := fb_ck_s h
                refine M_l18 cx hH hi_49 dX8_piecesOf_144 ?_
                refine lv_iadd hx hb dX8_piecesOf_145 ?_
                refine fb_max cx hl.1 mlX8_156 ⟨Nat.le_of_ble_eq_true rfl, Nat.le_of_ble_eq_true rfl⟩ dX8_piecesOf_146 ?_
                obtain ⟨x5_50, ex5_50, h⟩ := fb_vl_s h
                refine fb_top ex5_50 ?_
                refine lv_istore (lv' := [(5, .int x5_50), (0, .ref (a 0)), (1, .int x1), (2, .int x2), (3, .int x3), (4, .int x4), (6, .int x6)]) hx hb dX8_piecesOf_149 hl (by decide) rfl (fun ls hl => ?_)
                obtain ⟨x6_51, ex6_51, h⟩ := fb_vl_s h
                refine lv_iinc (v := x6_51) (lv' := [(6, .int x6_51), (5, .int x5_50), (0, .ref (a 0)), (1, .int x1), (2, .int x2), (3, .int x3), (4, .int x4)]) hx hb dX8_piecesOf_151 hl (k := 6) rfl (by rw [ex6_51]; rfl) (by decide) rfl (fun ls hl => ?_)
                refine lv_goto (tgt := 107) hx hb dX8_piecesOf_154 (by decide) ?_
                exact ih107 _ _ _ _ _ _ _ _ _ _ h hH (lv_sub hl [2, 3, 4, 5, 6, 1, 0] rfl)
          have hL54 : ∀ (n : Nat), ∀ (T : Sg) (x1 x2 x3 x4 x5 x6 : Int32) (H : Heap) (locs : List Loc) (ls : Array Slot), pX8_piecesOf_l54 (pX8_piecesOf_l2 n2) (pX8_piecesOf_l13 (pX8_piecesOf_l2 n2) n13) n T x1 x2 x3 x4 x5 x6 = some (r, S9) → HB D (wM cI cZ a S) (wM cI cZ a T) s H locs → lv_has ls 7 [(0, .ref (a 0)), (1, .int x1), (2, .int x2), (3, .int x3), (4, .int x4), (5, .int x5), (6, .int x6)] → W p l e (rmk 1) s m args below meth c H locs 0 0 (Ei D cI cZ (wM cI cZ a) S r S9 below args s) (F0 m 54 ls []) := by
            intro n54
            induction n54 with
            | zero => intro T x1 x2 x3 x4 x5 x6 H locs ls h hH hl; simp [pX8_piecesOf_l54] at h
            | succ n54 ih54 =>
              intro T x1 x2 x3 x4 x5 x6 H locs ls h hH hl
              rw [pX8_piecesOf_l54] at h
              refine lv_iload hx hb dX8_piecesOf_54 (lv_at hl 6 rfl) ?_
              refine lv_iload_n hx hb dX8_piecesOf_56 rfl (lv_at hl 3 rfl) ?_
              refine lv_iconst (v := 2) hx hb dX8_piecesOf_57 (by decide) ?_
              obtain ⟨hi_52, h⟩ := fb_c0_s h
              refine lv_idiv hx hb dX8_piecesOf_58 hi_52 ?_
              refine lv_icmp_gt (tgt := 104) hx hb dX8_piecesOf_59 (by decide) (fun c_53 => ?_) (fun c_53 => ?_)
              · replace h := fb_ip c_53 h
                refine lv_iconst (v := 1) hx hb dX8_piecesOf_104 (by decide) ?_
                obtain ⟨x6_54, ex6_54, h⟩ := fb_vl_s h
                refine fb_top ex6_54 ?_
                refine lv_istore (lv' := [(6, .int x6_54), (0, .ref (a 0)), (1, .int x1), (2, .int x2), (3, .int x3), (4, .int x4), (5, .int x5)]) hx hb dX8_piecesOf_105 hl (by decide) rfl (fun ls hl => ?_)
                exact hL107 5000 _ _ _ _ _ _ _ _ _ _ h hH (lv_sub hl [1, 2, 3, 4, 5, 6, 0] rfl)
              · replace h := fb_in c_53 h
                refine lv_iload hx hb dX8_piecesOf_62 (lv_at hl 5 rfl) ?_
                refine lv_aload_n hx hb dX8_piecesOf_64 rfl (lv_at hl 0 rfl) ?_
                refine M_ra18 cx hH lkX8_74 dX8_piecesOf_65 ?_
                refine lv_bipush (v := 61) hx hb dX8_piecesOf_68 (by decide) ?_
                refine lv_iload hx hb dX8_piecesOf_70 (lv_at hl 6 rfl) ?_
                refine lv_imul hx hb dX8_piecesOf_72 ?_
                refine lv_iload hx hb dX8_piecesOf_73 (lv_at hl 4 rfl) ?_
                refine lv_iadd hx hb dX8_piecesOf_75 ?_
                obtain ⟨hi_55, h⟩ := fb_ck_s h
                refine M_l18 cx hH hi_55 dX8_piecesOf_76 ?_
                refine lv_aload_n hx hb dX8_piecesOf_77 rfl (lv_at hl 0 rfl) ?_
                refine M_ra18 cx hH lkX8_74 dX8_piecesOf_78 ?_
                refine lv_bipush (v := 61) hx hb dX8_piecesOf_81 (by decide) ?_
                refine lv_iload_n hx hb dX8_piecesOf_83 rfl (lv_at hl 3 rfl) ?_
                refine lv_iload hx hb dX8_piecesOf_84 (lv_at hl 6 rfl) ?_
                refine lv_isub hx hb dX8_piecesOf_86 ?_
                refine lv_imul hx hb dX8_piecesOf_87 ?_
                refine lv_iload hx hb dX8_piecesOf_88 (lv_at hl 4 rfl) ?_
                refine lv_iadd hx hb dX8_piecesOf_90 ?_
                obtain ⟨hi_56, h⟩ := fb_ck_s h
                refine M_l18 cx hH hi_56 dX8_piecesOf_91 ?_
                refine lv_iadd hx hb dX8_piecesOf_92 ?_
                refine fb_max cx hl.1 mlX8_156 ⟨Nat.le_of_ble_eq_true rfl, Nat.le_of_ble_eq_true rfl⟩ dX8_piecesOf_93 ?_
                obtain ⟨x5_57, ex5_57, h⟩ := fb_vl_s h
                refine fb_top ex5_57 ?_
                refine lv_istore (lv' := [(5, .int x5_57), (0, .ref (a 0)), (1, .int x1), (2, .int x2), (3, .int x3), (4, .int x4), (6, .int x6)]) hx hb dX8_piecesOf_96 hl (by decide) rfl (fun ls hl => ?_)
                obtain ⟨x6_58, ex6_58, h⟩ := fb_vl_s h
                refine lv_iinc (v := x6_58) (lv' := [(6, .int x6_58), (5, .int x5_57), (0, .ref (a 0)), (1, .int x1), (2, .int x2), (3, .int x3), (4, .int x4)]) hx hb dX8_piecesOf_98 hl (k := 6) rfl (by rw [ex6_58]; rfl) (by decide) rfl (fun ls hl => ?_)
                refine lv_goto (tgt := 54) hx hb dX8_piecesOf_101 (by decide) ?_
                exact ih54 _ _ _ _ _ _ _ _ _ _ h hH (lv_sub hl [2, 3, 4, 5, 6, 1, 0] rfl)
          intro T x1 x2 x3 x4 H locs ls h hH hl
          rw [pX8_piecesOf_l13] at h
          refine lv_iload hx hb dX8_piecesOf_13 (lv_at hl 4 rfl) ?_
          refine lv_aload_n hx hb dX8_piecesOf_15 rfl (lv_at hl 0 rfl) ?_
          refine M_g5 cx hH lkX8_19 dX8_piecesOf_16 ?_
          refine lv_icmp_gt (tgt := 177) hx hb dX8_piecesOf_19 (by decide) (fun c_59 => ?_) (fun c_59 => ?_)
          · replace h := fb_ip c_59 h
            obtain ⟨x3_60, ex3_60, h⟩ := fb_vl_s h
            refine lv_iinc (v := x3_60) (lv' := [(3, .int x3_60), (0, .ref (a 0)), (1, .int x1), (2, .int x2), (4, .int x4)]) hx hb dX8_piecesOf_177 hl (k := 3) rfl (by rw [ex3_60]; rfl) (by decide) rfl (fun ls hl => ?_)
            refine lv_goto (tgt := 2) hx hb dX8_piecesOf_180 (by decide) ?_
            exact ih2 _ _ _ _ _ _ _ h hH (lv_sub hl [1, 2, 3, 0] rfl)
          · replace h := fb_in c_59 h
            refine lv_iload_n hx hb dX8_piecesOf_22 rfl (lv_at hl 3 rfl) ?_
            refine lv_iload_n hx hb dX8_piecesOf_23 rfl (lv_at hl 1 rfl) ?_
            refine lv_icmp_lt (tgt := 33) hx hb dX8_piecesOf_24 (by decide) (fun c_61 => ?_) (fun c_61 => ?_)
            · replace h := fb_ip c_61 h
              refine lv_iload_n hx hb dX8_piecesOf_33 rfl (lv_at hl 3 rfl) ?_
              refine lv_iload_n hx hb dX8_piecesOf_34 rfl (lv_at hl 2 rfl) ?_
              refine lv_icmp_lt (tgt := 48) hx hb dX8_piecesOf_35 (by decide) (fun c_62 => ?_) (fun c_62 => ?_)
              · replace h := fb_ip c_62 h
                refine lv_iconst (v := 0) hx hb dX8_piecesOf_48 (by decide) ?_
                obtain ⟨x5_63, ex5_63, h⟩ := fb_vl_s h
                refine fb_top ex5_63 ?_
                refine lv_istore (lv' := [(5, .int x5_63), (0, .ref (a 0)), (1, .int x1), (2, .int x2), (3, .int x3), (4, .int x4)]) hx hb dX8_piecesOf_49 hl (by decide) rfl (fun ls hl => ?_)
                refine lv_iconst (v := 1) hx hb dX8_piecesOf_51 (by decide) ?_
                obtain ⟨x6_64, ex6_64, h⟩ := fb_vl_s h
                refine fb_top ex6_64 ?_
                refine lv_istore (lv' := [(6, .int x6_64), (5, .int x5_63), (0, .ref (a 0)), (1, .int x1), (2, .int x2), (3, .int x3), (4, .int x4)]) hx hb dX8_piecesOf_52 hl (by decide) rfl (fun ls hl => ?_)
                exact hL54 5000 _ _ _ _ _ _ _ _ _ _ h hH (lv_sub hl [2, 3, 4, 5, 6, 1, 0] rfl)
              · replace h := fb_in c_62 h
                refine lv_iload hx hb dX8_piecesOf_38 (lv_at hl 4 rfl) ?_
                refine lv_iload_n hx hb dX8_piecesOf_40 rfl (lv_at hl 1 rfl) ?_
                refine lv_icmp_lt (tgt := 48) hx hb dX8_piecesOf_41 (by decide) (fun c_65 => ?_) (fun c_65 => ?_)
                · replace h := fb_ip c_65 h
                  refine lv_iconst (v := 0) hx hb dX8_piecesOf_48 (by decide) ?_
                  obtain ⟨x5_66, ex5_66, h⟩ := fb_vl_s h
                  refine fb_top ex5_66 ?_
                  refine lv_istore (lv' := [(5, .int x5_66), (0, .ref (a 0)), (1, .int x1), (2, .int x2), (3, .int x3), (4, .int x4)]) hx hb dX8_piecesOf_49 hl (by decide) rfl (fun ls hl => ?_)
                  refine lv_iconst (v := 1) hx hb dX8_piecesOf_51 (by decide) ?_
                  obtain ⟨x6_67, ex6_67, h⟩ := fb_vl_s h
                  refine fb_top ex6_67 ?_
                  refine lv_istore (lv' := [(6, .int x6_67), (5, .int x5_66), (0, .ref (a 0)), (1, .int x1), (2, .int x2), (3, .int x3), (4, .int x4)]) hx hb dX8_piecesOf_52 hl (by decide) rfl (fun ls hl => ?_)
                  exact hL54 5000 _ _ _ _ _ _ _ _ _ _ h hH (lv_sub hl [2, 3, 4, 5, 6, 1, 0] rfl)
                · replace h := fb_in c_65 h
                  refine lv_iconst (v := 1) hx hb dX8_piecesOf_44 (by decide) ?_
                  refine lv_goto (tgt := 49) hx hb dX8_piecesOf_45 (by decide) ?_
                  obtain ⟨x5_68, ex5_68, h⟩ := fb_vl_s h
                  refine fb_top ex5_68 ?_
                  refine lv_istore (lv' := [(5, .int x5_68), (0, .ref (a 0)), (1, .int x1), (2, .int x2), (3, .int x3), (4, .int x4)]) hx hb dX8_piecesOf_49 hl (by decide) rfl (fun ls hl => ?_)
                  refine lv_iconst (v := 1) hx hb dX8_piecesOf_51 (by decide) ?_
                  obtain ⟨x6_69, ex6_69, h⟩ := fb_vl_s h
                  refine fb_top ex6_69 ?_
                  refine lv_istore (lv' := [(6, .int x6_69), (5, .int x5_68), (0, .ref (a 0)), (1, .int x1), (2, .int x2), (3, .int x3), (4, .int x4)]) hx hb dX8_piecesOf_52 hl (by decide) rfl (fun ls hl => ?_)
                  exact hL54 5000 _ _ _ _ _ _ _ _ _ _ h hH (lv_sub hl [2, 3, 4, 5, 6, 1, 0] rfl)
            · replace h := fb_in c_61 h
              refine lv_iload hx hb dX8_piecesOf_27 (lv_at hl 4 rfl) ?_
              refine lv_iload_n hx hb dX8_piecesOf_29 rfl (lv_at hl 2 rfl) ?_
              refine lv_icmp_ge (tgt := 44) hx hb dX8_piecesOf_30 (by decide) (fun c_70 => ?_) (fun c_70 => ?_)
              · replace h := fb_ip c_70 h
                refine lv_iconst (v := 1) hx hb dX8_piecesOf_44 (by decide) ?_
                refine lv_goto (tgt := 49) hx hb dX8_piecesOf_45 (by decide) ?_
                obtain ⟨x5_71, ex5_71, h⟩ := fb_vl_s h
                refine fb_top ex5_71 ?_
                refine lv_istore (lv' := [(5, .int x5_71), (0, .ref (a 0)), (1, .int x1), (2, .int x2), (3, .int x3), (4, .int x4)]) hx hb dX8_piecesOf_49 hl (by decide) rfl (fun ls hl => ?_)
                refine lv_iconst (v := 1) hx hb dX8_piecesOf_51 (by decide) ?_
                obtain ⟨x6_72, ex6_72, h⟩ := fb_vl_s h
                refine fb_top ex6_72 ?_
                refine lv_istore (lv' := [(6, .int x6_72), (5, .int x5_71), (0, .ref (a 0)), (1, .int x1), (2, .int x2), (3, .int x3), (4, .int x4)]) hx hb dX8_piecesOf_52 hl (by decide) rfl (fun ls hl => ?_)
                exact hL54 5000 _ _ _ _ _ _ _ _ _ _ h hH (lv_sub hl [2, 3, 4, 5, 6, 1, 0] rfl)
              · replace h := fb_in c_70 h
                refine lv_iload_n hx hb dX8_piecesOf_33 rfl (lv_at hl 3 rfl) ?_
                refine lv_iload_n hx hb dX8_piecesOf_34 rfl (lv_at hl 2 rfl) ?_
                refine lv_icmp_lt (tgt := 48) hx hb dX8_piecesOf_35 (by decide) (fun c_73 => ?_) (fun c_73 => ?_)
                · replace h := fb_ip c_73 h
                  refine lv_iconst (v := 0) hx hb dX8_piecesOf_48 (by decide) ?_
                  obtain ⟨x5_74, ex5_74, h⟩ := fb_vl_s h
                  refine fb_top ex5_74 ?_
                  refine lv_istore (lv' := [(5, .int x5_74), (0, .ref (a 0)), (1, .int x1), (2, .int x2), (3, .int x3), (4, .int x4)]) hx hb dX8_piecesOf_49 hl (by decide) rfl (fun ls hl => ?_)
                  refine lv_iconst (v := 1) hx hb dX8_piecesOf_51 (by decide) ?_
                  obtain ⟨x6_75, ex6_75, h⟩ := fb_vl_s h
                  refine fb_top ex6_75 ?_
                  refine lv_istore (lv' := [(6, .int x6_75), (5, .int x5_74), (0, .ref (a 0)), (1, .int x1), (2, .int x2), (3, .int x3), (4, .int x4)]) hx hb dX8_piecesOf_52 hl (by decide) rfl (fun ls hl => ?_)
                  exact hL54 5000 _ _ _ _ _ _ _ _ _ _ h hH (lv_sub hl [2, 3, 4, 5, 6, 1, 0] rfl)
                · replace h := fb_in c_73 h
                  refine lv_iload hx hb dX8_piecesOf_38 (lv_at hl 4 rfl) ?_
                  refine lv_iload_n hx hb dX8_piecesOf_40 rfl (lv_at hl 1 rfl) ?_
                  refine lv_icmp_lt (tgt := 48) hx hb dX8_piecesOf_41 (by decide) (fun c_76 => ?_) (fun c_76 => ?_)
                  · replace h := fb_ip c_76 h
                    refine lv_iconst (v := 0) hx hb dX8_piecesOf_48 (by decide) ?_
                    obtain ⟨x5_77, ex5_77, h⟩ := fb_vl_s h
                    refine fb_top ex5_77 ?_
                    refine lv_istore (lv' := [(5, .int x5_77), (0, .ref (a 0)), (1, .int x1), (2, .int x2), (3, .int x3), (4, .int x4)]) hx hb dX8_piecesOf_49 hl (by decide) rfl (fun ls hl => ?_)
                    refine lv_iconst (v := 1) hx hb dX8_piecesOf_51 (by decide) ?_
                    obtain ⟨x6_78, ex6_78, h⟩ := fb_vl_s h
                    refine fb_top ex6_78 ?_
                    refine lv_istore (lv' := [(6, .int x6_78), (5, .int x5_77), (0, .ref (a 0)), (1, .int x1), (2, .int x2), (3, .int x3), (4, .int x4)]) hx hb dX8_piecesOf_52 hl (by decide) rfl (fun ls hl => ?_)
                    exact hL54 5000 _ _ _ _ _ _ _ _ _ _ h hH (lv_sub hl [2, 3, 4, 5, 6, 1, 0] rfl)
                  · replace h := fb_in c_76 h
                    refine lv_iconst (v := 1) hx hb dX8_piecesOf_44 (by decide) ?_
                    refine lv_goto (tgt := 49) hx hb dX8_piecesOf_45 (by decide) ?_
                    obtain ⟨x5_79, ex5_79, h⟩ := fb_vl_s h
                    refine fb_top ex5_79 ?_
                    refine lv_istore (lv' := [(5, .int x5_79), (0, .ref (a 0)), (1, .int x1), (2, .int x2), (3, .int x3), (4, .int x4)]) hx hb dX8_piecesOf_49 hl (by decide) rfl (fun ls hl => ?_)
                    refine lv_iconst (v := 1) hx hb dX8_piecesOf_51 (by decide) ?_
                    obtain ⟨x6_80, ex6_80, h⟩ := fb_vl_s h
                    refine fb_top ex6_80 ?_
                    refine lv_istore (lv' := [(6, .int x6_80), (5, .int x5_79), (0, .ref (a 0)), (1, .int x1), (2, .int x2), (3, .int x3), (4, .int x4)]) hx hb dX8_piecesOf_52 hl (by decide) rfl (fun ls hl => ?_)
                    exact hL54 5000 _ _ _ _ _ _ _ _ _ _ h hH (lv_sub hl [2, 3, 4, 5, 6, 1, 0] rfl)
      intro T x1 x2 x3 H locs ls h hH hl
      rw [pX8_piecesOf_l2] at h
      refine lv_iload_n hx hb dX8_piecesOf_2 rfl (lv_at hl 3 rfl) ?_
      refine lv_aload_n hx hb dX8_piecesOf_3 rfl (lv_at hl 0 rfl) ?_
      refine M_g4 cx hH lkX8_16 dX8_piecesOf_4 ?_
      refine lv_icmp_gt (tgt := 183) hx hb dX8_piecesOf_7 (by decide) (fun c_81 => ?_) (fun c_81 => ?_)
      · replace h := fb_ip c_81 h
        refine lv_aload_n hx hb dX8_piecesOf_183 rfl (lv_at hl 0 rfl) ?_
        refine M_ra18 cx hH lkX8_74 dX8_piecesOf_184 ?_
        refine lv_bipush (v := 61) hx hb dX8_piecesOf_187 (by decide) ?_
        refine lv_aload_n hx hb dX8_piecesOf_189 rfl (lv_at hl 0 rfl) ?_
        refine M_g4 cx hH lkX8_16 dX8_piecesOf_190 ?_
        refine lv_imul hx hb dX8_piecesOf_193 ?_
        refine lv_aload_n hx hb dX8_piecesOf_194 rfl (lv_at hl 0 rfl) ?_
        refine M_g5 cx hH lkX8_19 dX8_piecesOf_195 ?_
        refine lv_iadd hx hb dX8_piecesOf_198 ?_
        obtain ⟨hi_82, h⟩ := fb_ck_s h
        refine M_l18 cx hH hi_82 dX8_piecesOf_199 ?_
        obtain ⟨rfl, rfl⟩ := Prod.mk.inj (Option.some.inj h)
        exact fb_iret (wd := wM cI cZ a) cx rfl hH dX8_piecesOf_200
      · replace h := fb_in c_81 h
        refine lv_iconst (v := 0) hx hb dX8_piecesOf_10 (by decide) ?_
        obtain ⟨x4_83, ex4_83, h⟩ := fb_vl_s h
        refine fb_top ex4_83 ?_
        refine lv_istore (lv' := [(4, .int x4_83), (0, .ref (a 0)), (1, .int x1), (2, .int x2), (3, .int x3)]) hx hb dX8_piecesOf_11 hl (by decide) rfl (fun ls hl => ?_)
        exact hL13 5000 _ _ _ _ _ _ _ _ h hH (lv_sub hl [1, 2, 3, 4, 0] rfl)
  unfold pX8_piecesOf at h
  refine lv_iconst (v := 0) hx hb dX8_piecesOf_0 (by decide) ?_
  obtain ⟨x3_42, ex3_42, h⟩ := fb_vl_s h
  refine fb_top ex3_42 ?_
  refine lv_istore_n (lv' := [(3, .int x3_42), (0, .ref (a 0)), (1, .int x1), (2, .int x2)]) hx hb dX8_piecesOf_1 rfl hl (by decide) rfl (fun ls hl => ?_)
  exact hL2 5000 _ _ _ _ _ _ _ h hH (lv_sub hl [1, 2, 3, 0] rfl)
set_option maxHeartbeats 4000000 in
set_option maxRecDepth 100000 in
theorem ctX8_pieces (l : Launch) (D : va_G) (cI cZ : ClassId) (a : Nat → Nat) {S : Sg} {x1 x2 : Int32} {r : Int32} {S9 : Sg} (h : pX8_pieces S x1 x2 = some (r, S9)) : CTi l D cI cZ (wM cI cZ a) yX8_pieces cX8_pieces 3 (some .int) 2 [.ref (a 0), .int x1, .int x2] S r S9 := by
  refine fb_starti (by decide) (Nat.le_of_ble_eq_true rfl) (fun p e s m args below meth c ls cx hH hl => ?_)
  obtain ⟨hx, hb, -⟩ := id cx
  have hl : lv_has ls 3 [(0, .ref (a 0)), (1, .int x1), (2, .int x2)] := hl
  unfold pX8_pieces at h
  refine lv_aload_n hx hb dX8_pieces_0 rfl (lv_at hl 0 rfl) ?_
  refine lv_iconst (v := 0) hx hb dX8_pieces_1 (by decide) ?_
  obtain ⟨S_1, eS_1, h⟩ := fb_st_s h
  refine M_p0 cx hH lkX8_1 dX8_pieces_2 (fun H locs hH => ?_)
  rw [← eS_1] at hH
  refine lv_iload_n hx hb dX8_pieces_5 rfl (lv_at hl 1 rfl) ?_
  refine lv_iconst (v := 1) hx hb dX8_pieces_6 (by decide) ?_
  refine lv_bipush (v := 60) hx hb dX8_pieces_7 (by decide) ?_
  obtain ⟨r_3, hc_2, h⟩ := fb_bd_s h
  refine fb_si (wd := wM cI cZ a) (As := [.int x1, .int 1, .int 60]) (rest := []) cx hH mwX8_in (ctX8_in l D cI cZ a hc_2) mlX8_114 (by decide) rfl hl.1 (Nat.le_of_ble_eq_true rfl) rfl dX8_pieces_9 (fun H locs hH => ?_)
  refine lv_if_eq (tgt := 38) hx hb dX8_pieces_12 (by decide) (fun c_4 => ?_) (fun c_4 => ?_)
  · replace h := fb_ip c_4 h
    refine lv_aload_n hx hb dX8_pieces_38 rfl (lv_at hl 0 rfl) ?_
    refine lv_iconst (v := 2) hx hb dX8_pieces_39 (by decide) ?_
    obtain ⟨r_6, S_7, hc_5, h⟩ := fb_bd2_s h
    refine fb_vi (wd := wM cI cZ a) (As := [.int 2]) (rest := []) cx hH mwX8_refused (ctX8_refused l D cI cZ a hc_5) (M_rc0 cx hH) mlX8_118 (by decide) rfl hl.1 (Nat.le_of_ble_eq_true rfl) rfl dX8_pieces_40 (fun H locs hH => ?_)
    obtain ⟨rfl, rfl⟩ := Prod.mk.inj (Option.some.inj h)
    exact fb_iret (wd := wM cI cZ a) cx rfl hH dX8_pieces_43
  · replace h := fb_in c_4 h
    refine lv_iload_n hx hb dX8_pieces_15 rfl (lv_at hl 2 rfl) ?_
    refine lv_iconst (v := 1) hx hb dX8_pieces_16 (by decide) ?_
    refine lv_bipush (v := 60) hx hb dX8_pieces_17 (by decide) ?_
    obtain ⟨r_9, hc_8, h⟩ := fb_bd_s h
    refine fb_si (wd := wM cI cZ a) (As := [.int x2, .int 1, .int 60]) (rest := []) cx hH mwX8_in (ctX8_in l D cI cZ a hc_8) mlX8_114 (by decide) rfl hl.1 (Nat.le_of_ble_eq_true rfl) rfl dX8_pieces_19 (fun H locs hH => ?_)
    refine lv_if_eq (tgt := 38) hx hb dX8_pieces_22 (by decide) (fun c_10 => ?_) (fun c_10 => ?_)
    · replace h := fb_ip c_10 h
      refine lv_aload_n hx hb dX8_pieces_38 rfl (lv_at hl 0 rfl) ?_
      refine lv_iconst (v := 2) hx hb dX8_pieces_39 (by decide) ?_
      obtain ⟨r_12, S_13, hc_11, h⟩ := fb_bd2_s h
      refine fb_vi (wd := wM cI cZ a) (As := [.int 2]) (rest := []) cx hH mwX8_refused (ctX8_refused l D cI cZ a hc_11) (M_rc0 cx hH) mlX8_118 (by decide) rfl hl.1 (Nat.le_of_ble_eq_true rfl) rfl dX8_pieces_40 (fun H locs hH => ?_)
      obtain ⟨rfl, rfl⟩ := Prod.mk.inj (Option.some.inj h)
      exact fb_iret (wd := wM cI cZ a) cx rfl hH dX8_pieces_43
    · replace h := fb_in c_10 h
      refine lv_aload_n hx hb dX8_pieces_25 rfl (lv_at hl 0 rfl) ?_
      refine lv_aload_n hx hb dX8_pieces_26 rfl (lv_at hl 0 rfl) ?_
      refine lv_iload_n hx hb dX8_pieces_27 rfl (lv_at hl 1 rfl) ?_
      refine lv_iload_n hx hb dX8_pieces_28 rfl (lv_at hl 2 rfl) ?_
      obtain ⟨r_15, S_16, hc_14, h⟩ := fb_bd2_s h
      refine fb_vi (wd := wM cI cZ a) (As := [.int x1, .int x2]) (rest := [.ref (a 0)]) cx hH mwX8_piecesOf (ctX8_piecesOf l D cI cZ a hc_14) (M_rc0 cx hH) mlX8_193 (by decide) rfl hl.1 (Nat.le_of_ble_eq_true rfl) rfl dX8_pieces_29 (fun H locs hH => ?_)
      obtain ⟨r_18, S_19, hc_17, h⟩ := fb_bd2_s h
      refine fb_vi (wd := wM cI cZ a) (As := [.int r_15]) (rest := []) cx hH mwX8_done (ctX8_done l D cI cZ a hc_17) (M_rc0 cx hH) mlX8_122 (by decide) rfl hl.1 (Nat.le_of_ble_eq_true rfl) rfl dX8_pieces_32 (fun H locs hH => ?_)
      refine lv_goto (tgt := 43) hx hb dX8_pieces_35 (by decide) ?_
      obtain ⟨rfl, rfl⟩ := Prod.mk.inj (Option.some.inj h)
      exact fb_iret (wd := wM cI cZ a) cx rfl hH dX8_pieces_43
set_option maxHeartbeats 4000000 in
set_option maxRecDepth 100000 in
theorem ctX8_order (l : Launch) (D : va_G) (cI cZ : ClassId) (a : Nat → Nat) {S : Sg} {x1 x2 x3 x4 x5 : Int32} {r : Int32} {S9 : Sg} (h : pX8_order S x1 x2 x3 x4 x5 = some (r, S9)) : CTi l D cI cZ (wM cI cZ a) yX8_order cX8_order 6 (some .int) 1 [.ref (a 0), .int x1, .int x2, .int x3, .int x4, .int x5] S r S9 := by
  refine fb_starti (by decide) (Nat.le_of_ble_eq_true rfl) (fun p e s m args below meth c ls cx hH hl => ?_)
  obtain ⟨hx, hb, -⟩ := id cx
  have hl : lv_has ls 6 [(0, .ref (a 0)), (1, .int x1), (2, .int x2), (3, .int x3), (4, .int x4), (5, .int x5)] := hl
  unfold pX8_order at h
  refine lv_aload_n hx hb dX8_order_0 rfl (lv_at hl 0 rfl) ?_
  refine lv_iconst (v := 0) hx hb dX8_order_1 (by decide) ?_
  obtain ⟨S_1, eS_1, h⟩ := fb_st_s h
  refine M_p0 cx hH lkX8_1 dX8_order_2 (fun H locs hH => ?_)
  rw [← eS_1] at hH
  refine lv_aload_n hx hb dX8_order_5 rfl (lv_at hl 0 rfl) ?_
  refine lv_iload_n hx hb dX8_order_6 rfl (lv_at hl 1 rfl) ?_
  obtain ⟨r_3, hc_2, h⟩ := fb_bd_s h
  refine fb_vi (wd := wM cI cZ a) (As := [.int x1]) (rest := []) cx hH mwX8_isKind (ctX8_isKind l D cI cZ a hc_2) (M_rc0 cx hH) mlX8_125 (by decide) rfl hl.1 (Nat.le_of_ble_eq_true rfl) rfl dX8_order_7 (fun H locs hH => ?_)
  refine lv_if_eq (tgt := 21) hx hb dX8_order_10 (by decide) (fun c_4 => ?_) (fun c_4 => ?_)
  · replace h := fb_ip c_4 h
    refine lv_aload_n hx hb dX8_order_21 rfl (lv_at hl 0 rfl) ?_
    refine lv_iconst (v := 1) hx hb dX8_order_22 (by decide) ?_
    obtain ⟨r_6, S_7, hc_5, h⟩ := fb_bd2_s h
    refine fb_vi (wd := wM cI cZ a) (As := [.int 1]) (rest := []) cx hH mwX8_refused (ctX8_refused l D cI cZ a hc_5) (M_rc0 cx hH) mlX8_118 (by decide) rfl hl.1 (Nat.le_of_ble_eq_true rfl) rfl dX8_order_23 (fun H locs hH => ?_)
    obtain ⟨rfl, rfl⟩ := Prod.mk.inj (Option.some.inj h)
    exact fb_iret (wd := wM cI cZ a) cx rfl hH dX8_order_26
  · replace h := fb_in c_4 h
    refine lv_aload_n hx hb dX8_order_13 rfl (lv_at hl 0 rfl) ?_
    refine lv_iload_n hx hb dX8_order_14 rfl (lv_at hl 2 rfl) ?_
    obtain ⟨r_9, hc_8, h⟩ := fb_bd_s h
    refine fb_vi (wd := wM cI cZ a) (As := [.int x2]) (rest := []) cx hH mwX8_isLength (ctX8_isLength l D cI cZ a hc_8) (M_rc0 cx hH) mlX8_136 (by decide) rfl hl.1 (Nat.le_of_ble_eq_true rfl) rfl dX8_order_15 (fun H locs hH => ?_)
    refine lv_if_ne (tgt := 27) hx hb dX8_order_18 (by decide) (fun c_10 => ?_) (fun c_10 => ?_)
    · replace h := fb_in c_10 h
      refine lv_iload_n hx hb dX8_order_27 rfl (lv_at hl 3 rfl) ?_
      refine lv_iconst (v := 1) hx hb dX8_order_28 (by decide) ?_
      refine lv_bipush (v := 60) hx hb dX8_order_29 (by decide) ?_
      obtain ⟨r_12, hc_11, h⟩ := fb_bd_s h
      refine fb_si (wd := wM cI cZ a) (As := [.int x3, .int 1, .int 60]) (rest := []) cx hH mwX8_in (ctX8_in l D cI cZ a hc_11) mlX8_114 (by decide) rfl hl.1 (Nat.le_of_ble_eq_true rfl) rfl dX8_order_31 (fun H locs hH => ?_)
      refine lv_if_eq (tgt := 60) hx hb dX8_order_34 (by decide) (fun c_13 => ?_) (fun c_13 => ?_)
      · replace h := fb_ip c_13 h
        refine lv_aload_n hx hb dX8_order_60 rfl (lv_at hl 0 rfl) ?_
        refine lv_iconst (v := 2) hx hb dX8_order_61 (by decide) ?_
        obtain ⟨r_15, S_16, hc_14, h⟩ := fb_bd2_s h
        refine fb_vi (wd := wM cI cZ a) (As := [.int 2]) (rest := []) cx hH mwX8_refused (ctX8_refused l D cI cZ a hc_14) (M_rc0 cx hH) mlX8_118 (by decide) rfl hl.1 (Nat.le_of_ble_eq_true rfl) rfl dX8_order_62 (fun H locs hH => ?_)
        obtain ⟨rfl, rfl⟩ := Prod.mk.inj (Option.some.inj h)
        exact fb_iret (wd := wM cI cZ a) cx rfl hH dX8_order_65
      · replace h := fb_in c_13 h
        refine lv_iload hx hb dX8_order_37 (lv_at hl 4 rfl) ?_
        refine lv_iconst (v := 1) hx hb dX8_order_39 (by decide) ?_
        refine lv_bipush (v := 60) hx hb dX8_order_40 (by decide) ?_
        obtain ⟨r_18, hc_17, h⟩ := fb_bd_s h
        refine fb_si (wd := wM cI cZ a) (As := [.int x4, .int 1, .int 60]) (rest := []) cx hH mwX8_in (ctX8_in l D cI cZ a hc_17) mlX8_114 (by decide) rfl hl.1 (Nat.le_of_ble_eq_true rfl) rfl dX8_order_42 (fun H locs hH => ?_)
        refine lv_if_eq (tgt := 60) hx hb dX8_order_45 (by decide) (fun c_19 => ?_) (fun c_19 => ?_)
        · replace h := fb_ip c_19 h
          refine lv_aload_n hx hb dX8_order_60 rfl (lv_at hl 0 rfl) ?_
          refine lv_iconst (v := 2) hx hb dX8_order_61 (by decide) ?_
          obtain ⟨r_21, S_22, hc_20, h⟩ := fb_bd2_s h
          refine fb_vi (wd := wM cI cZ a) (As := [.int 2]) (rest := []) cx hH mwX8_refused (ctX8_refused l D cI cZ a hc_20) (M_rc0 cx hH) mlX8_118 (by decide) rfl hl.1 (Nat.le_of_ble_eq_true rfl) rfl dX8_order_62 (fun H locs hH => ?_)
          obtain ⟨rfl, rfl⟩ := Prod.mk.inj (Option.some.inj h)
          exact fb_iret (wd := wM cI cZ a) cx rfl hH dX8_order_65
        · replace h := fb_in c_19 h
          refine lv_iload hx hb dX8_order_48 (lv_at hl 5 rfl) ?_
          refine lv_iconst (v := 1) hx hb dX8_order_50 (by decide) ?_
          refine lv_sipush (v := 500) hx hb dX8_order_51 (by decide) ?_
          obtain ⟨r_24, hc_23, h⟩ := fb_bd_s h
          refine fb_si (wd := wM cI cZ a) (As := [.int x5, .int 1, .int 500]) (rest := []) cx hH mwX8_in (ctX8_in l D cI cZ a hc_23) mlX8_114 (by decide) rfl hl.1 (Nat.le_of_ble_eq_true rfl) rfl dX8_order_54 (fun H locs hH => ?_)
          refine lv_if_ne (tgt := 66) hx hb dX8_order_57 (by decide) (fun c_25 => ?_) (fun c_25 => ?_)
          · replace h := fb_in c_25 h
            refine lv_aload_n hx hb dX8_order_66 rfl (lv_at hl 0 rfl) ?_
            refine M_g11 cx hH lkX8_196 dX8_order_67 ?_
            refine lv_bipush (v := 40) hx hb dX8_order_70 (by decide) ?_
            refine lv_icmp_ne (tgt := 81) hx hb dX8_order_72 (by decide) (fun c_26 => ?_) (fun c_26 => ?_)
            · replace h := fb_in c_26 h
              refine lv_aload_n hx hb dX8_order_81 rfl (lv_at hl 0 rfl) ?_
              refine M_ra19 cx hH lkX8_77 dX8_order_82 ?_
              refine lv_aload_n hx hb dX8_order_85 rfl (lv_at hl 0 rfl) ?_
              refine M_g11 cx hH lkX8_196 dX8_order_86 ?_
              refine lv_iload_n hx hb dX8_order_89 rfl (lv_at hl 1 rfl) ?_
              obtain ⟨hi_28, h⟩ := fb_ck_s h
              obtain ⟨S_27, eS_27, h⟩ := fb_st_s h
              refine M_s19 cx hH hi_28 dX8_order_90 (fun H locs hH => ?_)
              rw [← eS_27] at hH
              refine lv_aload_n hx hb dX8_order_91 rfl (lv_at hl 0 rfl) ?_
              refine M_ra20 cx hH lkX8_80 dX8_order_92 ?_
              refine lv_aload_n hx hb dX8_order_95 rfl (lv_at hl 0 rfl) ?_
              refine M_g11 cx hH lkX8_196 dX8_order_96 ?_
              refine lv_aload_n hx hb dX8_order_99 rfl (lv_at hl 0 rfl) ?_
              refine M_ra4 cx hH lkX8_32 dX8_order_100 ?_
              refine lv_iload_n hx hb dX8_order_103 rfl (lv_at hl 2 rfl) ?_
              obtain ⟨hi_29, h⟩ := fb_ck_s h
              refine M_l4 cx hH hi_29 dX8_order_104 ?_
              obtain ⟨hi_31, h⟩ := fb_ck_s h
              obtain ⟨S_30, eS_30, h⟩ := fb_st_s h
              refine M_s20 cx hH hi_31 dX8_order_105 (fun H locs hH => ?_)
              rw [← eS_30] at hH
              refine lv_aload_n hx hb dX8_order_106 rfl (lv_at hl 0 rfl) ?_
              refine M_ra21 cx hH lkX8_83 dX8_order_107 ?_
              refine lv_aload_n hx hb dX8_order_110 rfl (lv_at hl 0 rfl) ?_
              refine M_g11 cx hH lkX8_196 dX8_order_111 ?_
              refine lv_iload_n hx hb dX8_order_114 rfl (lv_at hl 3 rfl) ?_
              obtain ⟨hi_33, h⟩ := fb_ck_s h
              obtain ⟨S_32, eS_32, h⟩ := fb_st_s h
              refine M_s21 cx hH hi_33 dX8_order_115 (fun H locs hH => ?_)
              rw [← eS_32] at hH
              refine lv_aload_n hx hb dX8_order_116 rfl (lv_at hl 0 rfl) ?_
              refine M_ra22 cx hH lkX8_86 dX8_order_117 ?_
              refine lv_aload_n hx hb dX8_order_120 rfl (lv_at hl 0 rfl) ?_
              refine M_g11 cx hH lkX8_196 dX8_order_121 ?_
              refine lv_iload hx hb dX8_order_124 (lv_at hl 4 rfl) ?_
              obtain ⟨hi_35, h⟩ := fb_ck_s h
              obtain ⟨S_34, eS_34, h⟩ := fb_st_s h
              refine M_s22 cx hH hi_35 dX8_order_126 (fun H locs hH => ?_)
              rw [← eS_34] at hH
              refine lv_aload_n hx hb dX8_order_127 rfl (lv_at hl 0 rfl) ?_
              refine M_ra23 cx hH lkX8_89 dX8_order_128 ?_
              refine lv_aload_n hx hb dX8_order_131 rfl (lv_at hl 0 rfl) ?_
              refine M_g11 cx hH lkX8_196 dX8_order_132 ?_
              refine lv_iload hx hb dX8_order_135 (lv_at hl 5 rfl) ?_
              obtain ⟨hi_37, h⟩ := fb_ck_s h
              obtain ⟨S_36, eS_36, h⟩ := fb_st_s h
              refine M_s23 cx hH hi_37 dX8_order_137 (fun H locs hH => ?_)
              rw [← eS_36] at hH
              refine lv_aload_n hx hb dX8_order_138 rfl (lv_at hl 0 rfl) ?_
              refine lv_dup hx hb dX8_order_139 rfl ?_
              refine M_g11 cx hH lkX8_196 dX8_order_140 ?_
              refine lv_iconst (v := 1) hx hb dX8_order_143 (by decide) ?_
              refine lv_iadd hx hb dX8_order_144 ?_
              obtain ⟨S_38, eS_38, h⟩ := fb_st_s h
              refine M_p11 cx hH lkX8_196 dX8_order_145 (fun H locs hH => ?_)
              rw [← eS_38] at hH
              refine lv_aload_n hx hb dX8_order_148 rfl (lv_at hl 0 rfl) ?_
              refine lv_aload_n hx hb dX8_order_149 rfl (lv_at hl 0 rfl) ?_
              refine M_g11 cx hH lkX8_196 dX8_order_150 ?_
              refine lv_iconst (v := 1) hx hb dX8_order_153 (by decide) ?_
              refine lv_isub hx hb dX8_order_154 ?_
              obtain ⟨r_40, S_41, hc_39, h⟩ := fb_bd2_s h
              refine fb_vi (wd := wM cI cZ a) (As := [.int ((S_38.1 11) - 1)]) (rest := []) cx hH mwX8_done (ctX8_done l D cI cZ a hc_39) (M_rc0 cx hH) mlX8_122 (by decide) rfl hl.1 (Nat.le_of_ble_eq_true rfl) rfl dX8_order_155 (fun H locs hH => ?_)
              obtain ⟨rfl, rfl⟩ := Prod.mk.inj (Option.some.inj h)
              exact fb_iret (wd := wM cI cZ a) cx rfl hH dX8_order_158
            · replace h := fb_ip c_26 h
              refine lv_aload_n hx hb dX8_order_75 rfl (lv_at hl 0 rfl) ?_
              refine lv_iconst (v := 3) hx hb dX8_order_76 (by decide) ?_
              obtain ⟨r_43, S_44, hc_42, h⟩ := fb_bd2_s h
              refine fb_vi (wd := wM cI cZ a) (As := [.int 3]) (rest := []) cx hH mwX8_refused (ctX8_refused l D cI cZ a hc_42) (M_rc0 cx hH) mlX8_118 (by decide) rfl hl.1 (Nat.le_of_ble_eq_true rfl) rfl dX8_order_77 (fun H locs hH => ?_)
              obtain ⟨rfl, rfl⟩ := Prod.mk.inj (Option.some.inj h)
              exact fb_iret (wd := wM cI cZ a) cx rfl hH dX8_order_80
          · replace h := fb_ip c_25 h
            refine lv_aload_n hx hb dX8_order_60 rfl (lv_at hl 0 rfl) ?_
            refine lv_iconst (v := 2) hx hb dX8_order_61 (by decide) ?_
            obtain ⟨r_46, S_47, hc_45, h⟩ := fb_bd2_s h
            refine fb_vi (wd := wM cI cZ a) (As := [.int 2]) (rest := []) cx hH mwX8_refused (ctX8_refused l D cI cZ a hc_45) (M_rc0 cx hH) mlX8_118 (by decide) rfl hl.1 (Nat.le_of_ble_eq_true rfl) rfl dX8_order_62 (fun H locs hH => ?_)
            obtain ⟨rfl, rfl⟩ := Prod.mk.inj (Option.some.inj h)
            exact fb_iret (wd := wM cI cZ a) cx rfl hH dX8_order_65
    · replace h := fb_ip c_10 h
      refine lv_aload_n hx hb dX8_order_21 rfl (lv_at hl 0 rfl) ?_
      refine lv_iconst (v := 1) hx hb dX8_order_22 (by decide) ?_
      obtain ⟨r_49, S_50, hc_48, h⟩ := fb_bd2_s h
      refine fb_vi (wd := wM cI cZ a) (As := [.int 1]) (rest := []) cx hH mwX8_refused (ctX8_refused l D cI cZ a hc_48) (M_rc0 cx hH) mlX8_118 (by decide) rfl hl.1 (Nat.le_of_ble_eq_true rfl) rfl dX8_order_23 (fun H locs hH => ?_)
      obtain ⟨rfl, rfl⟩ := Prod.mk.inj (Option.some.inj h)
      exact fb_iret (wd := wM cI cZ a) cx rfl hH dX8_order_26
set_option maxHeartbeats 4000000 in
set_option maxRecDepth 100000 in
theorem ctX8_isOrder (l : Launch) (D : va_G) (cI cZ : ClassId) (a : Nat → Nat) {S : Sg} {x1 : Int32} {r : Int32} (h : pX8_isOrder S x1 = some r) : CTi l D cI cZ (wM cI cZ a) yX8_isOrder cX8_isOrder 2 (some .boolean) 0 [.ref (a 0), .int x1] S r S := by
  refine fb_starti (by decide) (Nat.le_of_ble_eq_true rfl) (fun p e s m args below meth c ls cx hH hl => ?_)
  obtain ⟨hx, hb, -⟩ := id cx
  have hl : lv_has ls 2 [(0, .ref (a 0)), (1, .int x1)] := hl
  unfold pX8_isOrder at h
  refine lv_iload_n hx hb dX8_isOrder_0 rfl (lv_at hl 1 rfl) ?_
  refine lv_if_lt (tgt := 16) hx hb dX8_isOrder_1 (by decide) (fun c_1 => ?_) (fun c_1 => ?_)
  · replace h := fb_ip c_1 h
    refine lv_iconst (v := 0) hx hb dX8_isOrder_16 (by decide) ?_
    obtain ⟨hn, h⟩ := fb_cb_s h
    obtain rfl := Option.some.inj h
    exact fb_zret (wd := wM cI cZ a) cx rfl hH hn dX8_isOrder_17
  · replace h := fb_in c_1 h
    refine lv_iload_n hx hb dX8_isOrder_4 rfl (lv_at hl 1 rfl) ?_
    refine lv_aload_n hx hb dX8_isOrder_5 rfl (lv_at hl 0 rfl) ?_
    refine M_g11 cx hH lkX8_196 dX8_isOrder_6 ?_
    refine lv_icmp_ge (tgt := 16) hx hb dX8_isOrder_9 (by decide) (fun c_2 => ?_) (fun c_2 => ?_)
    · replace h := fb_ip c_2 h
      refine lv_iconst (v := 0) hx hb dX8_isOrder_16 (by decide) ?_
      obtain ⟨hn, h⟩ := fb_cb_s h
      obtain rfl := Option.some.inj h
      exact fb_zret (wd := wM cI cZ a) cx rfl hH hn dX8_isOrder_17
    · replace h := fb_in c_2 h
      refine lv_iconst (v := 1) hx hb dX8_isOrder_12 (by decide) ?_
      refine lv_goto (tgt := 17) hx hb dX8_isOrder_13 (by decide) ?_
      obtain ⟨hn, h⟩ := fb_cb_s h
      obtain rfl := Option.some.inj h
      exact fb_zret (wd := wM cI cZ a) cx rfl hH hn dX8_isOrder_17
set_option maxHeartbeats 4000000 in
set_option maxRecDepth 100000 in
theorem ctX8_nextFor (l : Launch) (D : va_G) (cI cZ : ClassId) (a : Nat → Nat) {S : Sg} {x1 : Int32} {r : Int32} (h : pX8_nextFor S x1 = some r) : CTi l D cI cZ (wM cI cZ a) yX8_nextFor cX8_nextFor 4 (some .int) 4 [.ref (a 0), .int x1] S r S := by
  refine fb_starti (by decide) (Nat.le_of_ble_eq_true rfl) (fun p e s m args below meth c ls cx hH hl => ?_)
  obtain ⟨hx, hb, -⟩ := id cx
  have hl : lv_has ls 4 [(0, .ref (a 0)), (1, .int x1)] := hl
  have hL4 : ∀ (n : Nat), ∀ (x1 x2 x3 : Int32) (H : Heap) (locs : List Loc) (ls : Array Slot), pX8_nextFor_l4 S n x1 x2 x3 = some r → HB D (wM cI cZ a S) (wM cI cZ a S) s H locs → lv_has ls 4 [(0, .ref (a 0)), (1, .int x1), (2, .int x2), (3, .int x3)] → W p l e (rmk 4) s m args below meth c H locs 0 0 (Ei D cI cZ (wM cI cZ a) S r S below args s) (F0 m 4 ls []) := by
    intro n4
    induction n4 with
    | zero => intro x1 x2 x3 H locs ls h hH hl; simp [pX8_nextFor_l4] at h
    | succ n4 ih4 =>
      intro x1 x2 x3 H locs ls h hH hl
      rw [pX8_nextFor_l4] at h
      refine lv_iload_n hx hb dX8_nextFor_4 rfl (lv_at hl 3 rfl) ?_
      refine lv_aload_n hx hb dX8_nextFor_5 rfl (lv_at hl 0 rfl) ?_
      refine M_g10 cx hH lkX8_139 dX8_nextFor_6 ?_
      refine lv_icmp_ge (tgt := 100) hx hb dX8_nextFor_9 (by decide) (fun c_31 => ?_) (fun c_31 => ?_)
      · replace h := fb_ip c_31 h
        refine lv_iload_n hx hb dX8_nextFor_100 rfl (lv_at hl 2 rfl) ?_
        obtain rfl := Option.some.inj h
        exact fb_iret (wd := wM cI cZ a) cx rfl hH dX8_nextFor_101
      · replace h := fb_in c_31 h
        refine lv_aload_n hx hb dX8_nextFor_12 rfl (lv_at hl 0 rfl) ?_
        refine M_ra28 cx hH lkX8_105 dX8_nextFor_13 ?_
        refine lv_iload_n hx hb dX8_nextFor_16 rfl (lv_at hl 3 rfl) ?_
        obtain ⟨hi_32, h⟩ := fb_ck_s h
        refine M_l28 cx hH hi_32 dX8_nextFor_17 ?_
        refine lv_if_ne (tgt := 94) hx hb dX8_nextFor_18 (by decide) (fun c_33 => ?_) (fun c_33 => ?_)
        · replace h := fb_in c_33 h
          obtain ⟨x3_34, ex3_34, h⟩ := fb_vl_s h
          refine lv_iinc (v := x3_34) (lv' := [(3, .int x3_34), (0, .ref (a 0)), (1, .int x1), (2, .int x2)]) hx hb dX8_nextFor_94 hl (k := 3) rfl (by rw [ex3_34]; rfl) (by decide) rfl (fun ls hl => ?_)
          refine lv_goto (tgt := 4) hx hb dX8_nextFor_97 (by decide) ?_
          exact ih4 _ _ _ _ _ _ h hH (lv_sub hl [1, 2, 3, 0] rfl)
        · replace h := fb_ip c_33 h
          refine lv_aload_n hx hb dX8_nextFor_21 rfl (lv_at hl 0 rfl) ?_
          refine M_ra11 cx hH lkX8_53 dX8_nextFor_22 ?_
          refine lv_iload_n hx hb dX8_nextFor_25 rfl (lv_at hl 3 rfl) ?_
          obtain ⟨hi_35, h⟩ := fb_ck_s h
          refine M_l11 cx hH hi_35 dX8_nextFor_26 ?_
          refine lv_iconst (v := 2) hx hb dX8_nextFor_27 (by decide) ?_
          refine lv_icmp_eq (tgt := 94) hx hb dX8_nextFor_28 (by decide) (fun c_36 => ?_) (fun c_36 => ?_)
          · replace h := fb_ip c_36 h
            obtain ⟨x3_37, ex3_37, h⟩ := fb_vl_s h
            refine lv_iinc (v := x3_37) (lv' := [(3, .int x3_37), (0, .ref (a 0)), (1, .int x1), (2, .int x2)]) hx hb dX8_nextFor_94 hl (k := 3) rfl (by rw [ex3_37]; rfl) (by decide) rfl (fun ls hl => ?_)
            refine lv_goto (tgt := 4) hx hb dX8_nextFor_97 (by decide) ?_
            exact ih4 _ _ _ _ _ _ h hH (lv_sub hl [1, 2, 3, 0] rfl)
          · replace h := fb_in c_36 h
            refine lv_aload_n hx hb dX8_nextFor_31 rfl (lv_at hl 0 rfl) ?_
            refine M_ra12 cx hH lkX8_56 dX8_nextFor_32 ?_
            refine lv_iload_n hx hb dX8_nextFor_35 rfl (lv_at hl 3 rfl) ?_
            obtain ⟨hi_38, h⟩ := fb_ck_s h
            refine M_l12 cx hH hi_38 dX8_nextFor_36 ?_
            refine lv_aload_n hx hb dX8_nextFor_37 rfl (lv_at hl 0 rfl) ?_
            refine M_ra19 cx hH lkX8_77 dX8_nextFor_38 ?_
            refine lv_iload_n hx hb dX8_nextFor_41 rfl (lv_at hl 1 rfl) ?_
            obtain ⟨hi_39, h⟩ := fb_ck_s h
            refine M_l19 cx hH hi_39 dX8_nextFor_42 ?_
            refine lv_icmp_ne (tgt := 94) hx hb dX8_nextFor_43 (by decide) (fun c_40 => ?_) (fun c_40 => ?_)
            · replace h := fb_in c_40 h
              obtain ⟨x3_41, ex3_41, h⟩ := fb_vl_s h
              refine lv_iinc (v := x3_41) (lv' := [(3, .int x3_41), (0, .ref (a 0)), (1, .int x1), (2, .int x2)]) hx hb dX8_nextFor_94 hl (k := 3) rfl (by rw [ex3_41]; rfl) (by decide) rfl (fun ls hl => ?_)
              refine lv_goto (tgt := 4) hx hb dX8_nextFor_97 (by decide) ?_
              exact ih4 _ _ _ _ _ _ h hH (lv_sub hl [1, 2, 3, 0] rfl)
            · replace h := fb_ip c_40 h
              refine lv_aload_n hx hb dX8_nextFor_46 rfl (lv_at hl 0 rfl) ?_
              refine M_ra13 cx hH lkX8_59 dX8_nextFor_47 ?_
              refine lv_iload_n hx hb dX8_nextFor_50 rfl (lv_at hl 3 rfl) ?_
              obtain ⟨hi_42, h⟩ := fb_ck_s h
              refine M_l13 cx hH hi_42 dX8_nextFor_51 ?_
              refine lv_aload_n hx hb dX8_nextFor_52 rfl (lv_at hl 0 rfl) ?_
              refine M_ra20 cx hH lkX8_80 dX8_nextFor_53 ?_
              refine lv_iload_n hx hb dX8_nextFor_56 rfl (lv_at hl 1 rfl) ?_
              obtain ⟨hi_43, h⟩ := fb_ck_s h
              refine M_l20 cx hH hi_43 dX8_nextFor_57 ?_
              refine lv_icmp_ne (tgt := 94) hx hb dX8_nextFor_58 (by decide) (fun c_44 => ?_) (fun c_44 => ?_)
              · replace h := fb_in c_44 h
                obtain ⟨x3_45, ex3_45, h⟩ := fb_vl_s h
                refine lv_iinc (v := x3_45) (lv' := [(3, .int x3_45), (0, .ref (a 0)), (1, .int x1), (2, .int x2)]) hx hb dX8_nextFor_94 hl (k := 3) rfl (by rw [ex3_45]; rfl) (by decide) rfl (fun ls hl => ?_)
                refine lv_goto (tgt := 4) hx hb dX8_nextFor_97 (by decide) ?_
                exact ih4 _ _ _ _ _ _ h hH (lv_sub hl [1, 2, 3, 0] rfl)
              · replace h := fb_ip c_44 h
                refine lv_aload_n hx hb dX8_nextFor_61 rfl (lv_at hl 0 rfl) ?_
                refine lv_iload_n hx hb dX8_nextFor_62 rfl (lv_at hl 3 rfl) ?_
                obtain ⟨r_47, hc_46, h⟩ := fb_bd_s h
                refine fb_vi (wd := wM cI cZ a) (As := [.int x3]) (rest := []) cx hH mwX8_isCured (ctX8_isCured l D cI cZ a hc_46) (M_rc0 cx hH) mlX8_184 (by decide) rfl hl.1 (Nat.le_of_ble_eq_true rfl) rfl dX8_nextFor_63 (fun H locs hH => ?_)
                refine lv_if_ne (tgt := 72) hx hb dX8_nextFor_66 (by decide) (fun c_48 => ?_) (fun c_48 => ?_)
                · replace h := fb_in c_48 h
                  refine lv_iload_n hx hb dX8_nextFor_72 rfl (lv_at hl 2 rfl) ?_
                  refine lv_iconst (v := (-1)) hx hb dX8_nextFor_73 (by decide) ?_
                  refine lv_icmp_eq (tgt := 92) hx hb dX8_nextFor_74 (by decide) (fun c_49 => ?_) (fun c_49 => ?_)
                  · replace h := fb_ip c_49 h
                    refine lv_iload_n hx hb dX8_nextFor_92 rfl (lv_at hl 3 rfl) ?_
                    obtain ⟨x2_50, ex2_50, h⟩ := fb_vl_s h
                    refine fb_top ex2_50 ?_
                    refine lv_istore_n (lv' := [(2, .int x2_50), (0, .ref (a 0)), (1, .int x1), (3, .int x3)]) hx hb dX8_nextFor_93 rfl hl (by decide) rfl (fun ls hl => ?_)
                    obtain ⟨x3_51, ex3_51, h⟩ := fb_vl_s h
                    refine lv_iinc (v := x3_51) (lv' := [(3, .int x3_51), (2, .int x2_50), (0, .ref (a 0)), (1, .int x1)]) hx hb dX8_nextFor_94 hl (k := 3) rfl (by rw [ex3_51]; rfl) (by decide) rfl (fun ls hl => ?_)
                    refine lv_goto (tgt := 4) hx hb dX8_nextFor_97 (by decide) ?_
                    exact ih4 _ _ _ _ _ _ h hH (lv_sub hl [2, 3, 1, 0] rfl)
                  · replace h := fb_in c_49 h
                    refine lv_aload_n hx hb dX8_nextFor_77 rfl (lv_at hl 0 rfl) ?_
                    refine M_ra16 cx hH lkX8_68 dX8_nextFor_78 ?_
                    refine lv_iload_n hx hb dX8_nextFor_81 rfl (lv_at hl 3 rfl) ?_
                    obtain ⟨hi_52, h⟩ := fb_ck_s h
                    refine M_l16 cx hH hi_52 dX8_nextFor_82 ?_
                    refine lv_aload_n hx hb dX8_nextFor_83 rfl (lv_at hl 0 rfl) ?_
                    refine M_ra16 cx hH lkX8_68 dX8_nextFor_84 ?_
                    refine lv_iload_n hx hb dX8_nextFor_87 rfl (lv_at hl 2 rfl) ?_
                    obtain ⟨hi_53, h⟩ := fb_ck_s h
                    refine M_l16 cx hH hi_53 dX8_nextFor_88 ?_
                    refine lv_icmp_le (tgt := 94) hx hb dX8_nextFor_89 (by decide) (fun c_54 => ?_) (fun c_54 => ?_)
                    · replace h := fb_ip c_54 h
                      obtain ⟨x3_55, ex3_55, h⟩ := fb_vl_s h
                      refine lv_iinc (v := x3_55) (lv' := [(3, .int x3_55), (0, .ref (a 0)), (1, .int x1), (2, .int x2)]) hx hb dX8_nextFor_94 hl (k := 3) rfl (by rw [ex3_55]; rfl) (by decide) rfl (fun ls hl => ?_)
                      refine lv_goto (tgt := 4) hx hb dX8_nextFor_97 (by decide) ?_
                      exact ih4 _ _ _ _ _ _ h hH (lv_sub hl [1, 2, 3, 0] rfl)
                    · replace h := fb_in c_54 h
                      refine lv_iload_n hx hb dX8_nextFor_92 rfl (lv_at hl 3 rfl) ?_
                      obtain ⟨x2_56, ex2_56, h⟩ := fb_vl_s h
                      refine fb_top ex2_56 ?_
                      refine lv_istore_n (lv' := [(2, .int x2_56), (0, .ref (a 0)), (1, .int x1), (3, .int x3)]) hx hb dX8_nextFor_93 rfl hl (by decide) rfl (fun ls hl => ?_)
                      obtain ⟨x3_57, ex3_57, h⟩ := fb_vl_s h
                      refine lv_iinc (v := x3_57) (lv' := [(3, .int x3_57), (2, .int x2_56), (0, .ref (a 0)), (1, .int x1)]) hx hb dX8_nextFor_94 hl (k := 3) rfl (by rw [ex3_57]; rfl) (by decide) rfl (fun ls hl => ?_)
                      refine lv_goto (tgt := 4) hx hb dX8_nextFor_97 (by decide) ?_
                      exact ih4 _ _ _ _ _ _ h hH (lv_sub hl [2, 3, 1, 0] rfl)
                · replace h := fb_ip c_48 h
                  refine lv_goto (tgt := 94) hx hb dX8_nextFor_69 (by decide) ?_
                  obtain ⟨x3_58, ex3_58, h⟩ := fb_vl_s h
                  refine lv_iinc (v := x3_58) (lv' := [(3, .int x3_58), (0, .ref (a 0)), (1, .int x1), (2, .int x2)]) hx hb dX8_nextFor_94 hl (k := 3) rfl (by rw [ex3_58]; rfl) (by decide) rfl (fun ls hl => ?_)
                  refine lv_goto (tgt := 4) hx hb dX8_nextFor_97 (by decide) ?_
                  exact ih4 _ _ _ _ _ _ h hH (lv_sub hl [1, 2, 3, 0] rfl)
  unfold pX8_nextFor at h
  refine lv_iconst (v := (-1)) hx hb dX8_nextFor_0 (by decide) ?_
  obtain ⟨x2_29, ex2_29, h⟩ := fb_vl_s h
  refine fb_top ex2_29 ?_
  refine lv_istore_n (lv' := [(2, .int x2_29), (0, .ref (a 0)), (1, .int x1)]) hx hb dX8_nextFor_1 rfl hl (by decide) rfl (fun ls hl => ?_)
  refine lv_iconst (v := 0) hx hb dX8_nextFor_2 (by decide) ?_
  obtain ⟨x3_30, ex3_30, h⟩ := fb_vl_s h
  refine fb_top ex3_30 ?_
  refine lv_istore_n (lv' := [(3, .int x3_30), (2, .int x2_29), (0, .ref (a 0)), (1, .int x1)]) hx hb dX8_nextFor_3 rfl hl (by decide) rfl (fun ls hl => ?_)
  exact hL4 5000 _ _ _ _ _ _ h hH (lv_sub hl [2, 3, 1, 0] rfl)
set_option maxHeartbeats 4000000 in
set_option maxRecDepth 100000 in
theorem ctX8_takes (l : Launch) (D : va_G) (cI cZ : ClassId) (a : Nat → Nat) {S : Sg} {x1 x2 x3 : Int32} {S9 : Sg} (h : pX8_takes S x1 x2 x3 = some S9) : CTv l D cI cZ (wM cI cZ a) yX8_takes cX8_takes 4 1 [.ref (a 0), .int x1, .int x2, .int x3] S S9 := by
  refine fb_startv (by decide) (Nat.le_of_ble_eq_true rfl) (fun p e s m args below meth c ls cx hH hl => ?_)
  obtain ⟨hx, hb, -⟩ := id cx
  have hl : lv_has ls 4 [(0, .ref (a 0)), (1, .int x1), (2, .int x2), (3, .int x3)] := hl
  unfold pX8_takes at h
  refine lv_aload_n hx hb dX8_takes_0 rfl (lv_at hl 0 rfl) ?_
  refine M_ra11 cx hH lkX8_53 dX8_takes_1 ?_
  refine lv_iload_n hx hb dX8_takes_4 rfl (lv_at hl 1 rfl) ?_
  obtain ⟨hi_1, h⟩ := fb_ck_s h
  refine M_l11 cx hH hi_1 dX8_takes_5 ?_
  refine lv_iconst (v := 1) hx hb dX8_takes_6 (by decide) ?_
  refine lv_icmp_ne (tgt := 22) hx hb dX8_takes_7 (by decide) (fun c_2 => ?_) (fun c_2 => ?_)
  · replace h := fb_in c_2 h
    refine lv_aload_n hx hb dX8_takes_22 rfl (lv_at hl 0 rfl) ?_
    refine M_ra11 cx hH lkX8_53 dX8_takes_23 ?_
    refine lv_iload_n hx hb dX8_takes_26 rfl (lv_at hl 1 rfl) ?_
    refine lv_iconst (v := 2) hx hb dX8_takes_27 (by decide) ?_
    obtain ⟨hi_4, h⟩ := fb_ck_s h
    obtain ⟨S_3, eS_3, h⟩ := fb_st_s h
    refine M_s11 cx hH hi_4 dX8_takes_28 (fun H locs hH => ?_)
    rw [← eS_3] at hH
    refine lv_aload_n hx hb dX8_takes_29 rfl (lv_at hl 0 rfl) ?_
    refine M_ra26 cx hH lkX8_98 dX8_takes_30 ?_
    refine lv_iload_n hx hb dX8_takes_33 rfl (lv_at hl 1 rfl) ?_
    refine lv_iload_n hx hb dX8_takes_34 rfl (lv_at hl 2 rfl) ?_
    obtain ⟨hi_6, h⟩ := fb_ck_s h
    obtain ⟨S_5, eS_5, h⟩ := fb_st_s h
    refine M_s26 cx hH hi_6 dX8_takes_35 (fun H locs hH => ?_)
    rw [← eS_5] at hH
    refine lv_aload_n hx hb dX8_takes_36 rfl (lv_at hl 0 rfl) ?_
    refine lv_dup hx hb dX8_takes_37 rfl ?_
    refine M_g7 cx hH lkX8_172 dX8_takes_38 ?_
    refine lv_aload_n hx hb dX8_takes_41 rfl (lv_at hl 0 rfl) ?_
    refine M_g4 cx hH lkX8_16 dX8_takes_42 ?_
    refine lv_aload_n hx hb dX8_takes_45 rfl (lv_at hl 0 rfl) ?_
    refine M_g5 cx hH lkX8_19 dX8_takes_46 ?_
    refine lv_imul hx hb dX8_takes_49 ?_
    refine lv_iload_n hx hb dX8_takes_50 rfl (lv_at hl 3 rfl) ?_
    refine lv_iload_n hx hb dX8_takes_51 rfl (lv_at hl 2 rfl) ?_
    refine lv_imul hx hb dX8_takes_52 ?_
    refine lv_isub hx hb dX8_takes_53 ?_
    refine lv_aload_n hx hb dX8_takes_54 rfl (lv_at hl 0 rfl) ?_
    refine M_ra13 cx hH lkX8_59 dX8_takes_55 ?_
    refine lv_iload_n hx hb dX8_takes_58 rfl (lv_at hl 1 rfl) ?_
    obtain ⟨hi_7, h⟩ := fb_ck_s h
    refine M_l13 cx hH hi_7 dX8_takes_59 ?_
    refine lv_imul hx hb dX8_takes_60 ?_
    refine lv_bipush (v := 100) hx hb dX8_takes_61 (by decide) ?_
    obtain ⟨hi_8, h⟩ := fb_c0_s h
    refine lv_idiv hx hb dX8_takes_63 hi_8 ?_
    refine lv_iadd hx hb dX8_takes_64 ?_
    obtain ⟨S_9, eS_9, h⟩ := fb_st_s h
    refine M_p7 cx hH lkX8_172 dX8_takes_65 (fun H locs hH => ?_)
    rw [← eS_9] at hH
    obtain rfl := Option.some.inj h
    exact fb_vret (wd := wM cI cZ a) cx hH dX8_takes_68
  · replace h := fb_ip c_2 h
    refine lv_aload_n hx hb dX8_takes_10 rfl (lv_at hl 0 rfl) ?_
    refine M_ra17 cx hH lkX8_71 dX8_takes_11 ?_
    refine lv_aload_n hx hb dX8_takes_14 rfl (lv_at hl 0 rfl) ?_
    refine lv_iload_n hx hb dX8_takes_15 rfl (lv_at hl 1 rfl) ?_
    obtain ⟨r_11, hc_10, h⟩ := fb_bd_s h
    refine fb_vi (wd := wM cI cZ a) (As := [.int x1]) (rest := [.ref (a 17)]) cx hH mwX8_placeOf (ctX8_placeOf l D cI cZ a hc_10) (M_rc0 cx hH) mlX8_187 (by decide) rfl hl.1 (Nat.le_of_ble_eq_true rfl) rfl dX8_takes_16 (fun H locs hH => ?_)
    refine lv_bipush (v := (-2)) hx hb dX8_takes_19 (by decide) ?_
    obtain ⟨hi_13, h⟩ := fb_ck_s h
    obtain ⟨S_12, eS_12, h⟩ := fb_st_s h
    refine M_s17 cx hH hi_13 dX8_takes_21 (fun H locs hH => ?_)
    rw [← eS_12] at hH
    refine lv_aload_n hx hb dX8_takes_22 rfl (lv_at hl 0 rfl) ?_
    refine M_ra11 cx hH lkX8_53 dX8_takes_23 ?_
    refine lv_iload_n hx hb dX8_takes_26 rfl (lv_at hl 1 rfl) ?_
    refine lv_iconst (v := 2) hx hb dX8_takes_27 (by decide) ?_
    obtain ⟨hi_15, h⟩ := fb_ck_s h
    obtain ⟨S_14, eS_14, h⟩ := fb_st_s h
    refine M_s11 cx hH hi_15 dX8_takes_28 (fun H locs hH => ?_)
    rw [← eS_14] at hH
    refine lv_aload_n hx hb dX8_takes_29 rfl (lv_at hl 0 rfl) ?_
    refine M_ra26 cx hH lkX8_98 dX8_takes_30 ?_
    refine lv_iload_n hx hb dX8_takes_33 rfl (lv_at hl 1 rfl) ?_
    refine lv_iload_n hx hb dX8_takes_34 rfl (lv_at hl 2 rfl) ?_
    obtain ⟨hi_17, h⟩ := fb_ck_s h
    obtain ⟨S_16, eS_16, h⟩ := fb_st_s h
    refine M_s26 cx hH hi_17 dX8_takes_35 (fun H locs hH => ?_)
    rw [← eS_16] at hH
    refine lv_aload_n hx hb dX8_takes_36 rfl (lv_at hl 0 rfl) ?_
    refine lv_dup hx hb dX8_takes_37 rfl ?_
    refine M_g7 cx hH lkX8_172 dX8_takes_38 ?_
    refine lv_aload_n hx hb dX8_takes_41 rfl (lv_at hl 0 rfl) ?_
    refine M_g4 cx hH lkX8_16 dX8_takes_42 ?_
    refine lv_aload_n hx hb dX8_takes_45 rfl (lv_at hl 0 rfl) ?_
    refine M_g5 cx hH lkX8_19 dX8_takes_46 ?_
    refine lv_imul hx hb dX8_takes_49 ?_
    refine lv_iload_n hx hb dX8_takes_50 rfl (lv_at hl 3 rfl) ?_
    refine lv_iload_n hx hb dX8_takes_51 rfl (lv_at hl 2 rfl) ?_
    refine lv_imul hx hb dX8_takes_52 ?_
    refine lv_isub hx hb dX8_takes_53 ?_
    refine lv_aload_n hx hb dX8_takes_54 rfl (lv_at hl 0 rfl) ?_
    refine M_ra13 cx hH lkX8_59 dX8_takes_55 ?_
    refine lv_iload_n hx hb dX8_takes_58 rfl (lv_at hl 1 rfl) ?_
    obtain ⟨hi_18, h⟩ := fb_ck_s h
    refine M_l13 cx hH hi_18 dX8_takes_59 ?_
    refine lv_imul hx hb dX8_takes_60 ?_
    refine lv_bipush (v := 100) hx hb dX8_takes_61 (by decide) ?_
    obtain ⟨hi_19, h⟩ := fb_c0_s h
    refine lv_idiv hx hb dX8_takes_63 hi_19 ?_
    refine lv_iadd hx hb dX8_takes_64 ?_
    obtain ⟨S_20, eS_20, h⟩ := fb_st_s h
    refine M_p7 cx hH lkX8_172 dX8_takes_65 (fun H locs hH => ?_)
    rw [← eS_20] at hH
    obtain rfl := Option.some.inj h
    exact fb_vret (wd := wM cI cZ a) cx hH dX8_takes_68
set_option maxHeartbeats 4000000 in
set_option maxRecDepth 100000 in
theorem ctX8_fill (l : Launch) (D : va_G) (cI cZ : ClassId) (a : Nat → Nat) {S : Sg} {x1 : Int32} {r : Int32} {S9 : Sg} (h : pX8_fill S x1 = some (r, S9)) : CTi l D cI cZ (wM cI cZ a) yX8_fill cX8_fill 9 (some .int) 5 [.ref (a 0), .int x1] S r S9 := by
  refine fb_starti (by decide) (Nat.le_of_ble_eq_true rfl) (fun p e s m args below meth c ls cx hH hl => ?_)
  obtain ⟨hx, hb, -⟩ := id cx
  have hl : lv_has ls 9 [(0, .ref (a 0)), (1, .int x1)] := hl
  have hL194 : ∀ (n : Nat), ∀ (T : Sg) (x1 x2 x3 x6 x7 : Int32) (H : Heap) (locs : List Loc) (ls : Array Slot), pX8_fill_l194 n T x1 x2 x3 x6 x7 = some (r, S9) → HB D (wM cI cZ a S) (wM cI cZ a T) s H locs → lv_has ls 9 [(0, .ref (a 0)), (1, .int x1), (2, .int x2), (3, .int x3), (6, .int x6), (7, .int x7)] → W p l e (rmk 5) s m args below meth c H locs 0 0 (Ei D cI cZ (wM cI cZ a) S r S9 below args s) (F0 m 194 ls []) := by
    intro n194
    induction n194 with
    | zero => intro T x1 x2 x3 x6 x7 H locs ls h hH hl; simp [pX8_fill_l194] at h
    | succ n194 ih194 =>
      intro T x1 x2 x3 x6 x7 H locs ls h hH hl
      rw [pX8_fill_l194] at h
      refine lv_iload hx hb dX8_fill_194 (lv_at hl 5 rfl) ?_
      refine lv_iload_n hx hb dX8_fill_196 rfl (lv_at hl 3 rfl) ?_
      refine lv_icmp_ge (tgt := 253) hx hb dX8_fill_197 (by decide) (fun c_79 => ?_) (fun c_79 => ?_)
      · replace h := fb_ip c_79 h
        refine lv_aload_n hx hb dX8_fill_253 rfl (lv_at hl 0 rfl) ?_
        refine lv_iload_n hx hb dX8_fill_254 rfl (lv_at hl 3 rfl) ?_
        obtain ⟨r_81, S_82, hc_80, h⟩ := fb_bd2_s h
        refine fb_vi (wd := wM cI cZ a) (As := [.int x3]) (rest := []) cx hH mwX8_done (ctX8_done l D cI cZ a hc_80) (M_rc0 cx hH) mlX8_122 (by decide) rfl hl.1 (Nat.le_of_ble_eq_true rfl) rfl dX8_fill_255 (fun H locs hH => ?_)
        obtain ⟨rfl, rfl⟩ := Prod.mk.inj (Option.some.inj h)
        exact fb_iret (wd := wM cI cZ a) cx rfl hH dX8_fill_258
      · replace h := fb_in c_79 h
        refine lv_iload_n hx hb dX8_fill_200 rfl (lv_at hl 2 rfl) ?_
        refine lv_iload hx hb dX8_fill_201 (lv_at hl 4 rfl) ?_
        refine fb_min cx hl.1 mlX8_205 ⟨Nat.le_of_ble_eq_true rfl, Nat.le_of_ble_eq_true rfl⟩ dX8_fill_203 ?_
        obtain ⟨x8_83, ex8_83, h⟩ := fb_vl_s h
        refine fb_top ex8_83 ?_
        refine lv_istore (lv' := [(8, .int x8_83), (0, .ref (a 0)), (1, .int x1), (2, .int x2), (3, .int x3), (6, .int x6), (7, .int x7)]) hx hb dX8_fill_206 hl (by decide) rfl (fun ls hl => ?_)
        refine lv_iload hx hb dX8_fill_208 (lv_at hl 5 rfl) ?_
        refine lv_iload hx hb dX8_fill_210 (lv_at hl 0 rfl) ?_
        refine lv_isub hx hb dX8_fill_212 ?_
        obtain ⟨x6_84, ex6_84, h⟩ := fb_vl_s h
        refine fb_top ex6_84 ?_
        refine lv_istore (lv' := [(6, .int x6_84), (8, .int x8_83), (0, .ref (a 0)), (1, .int x1), (2, .int x2), (3, .int x3), (7, .int x7)]) hx hb dX8_fill_213 hl (by decide) rfl (fun ls hl => ?_)
        refine lv_aload_n hx hb dX8_fill_215 rfl (lv_at hl 2 rfl) ?_
        refine lv_aload_n hx hb dX8_fill_216 rfl (lv_at hl 2 rfl) ?_
        refine M_ra25 cx hH lkX8_95 dX8_fill_217 ?_
        refine lv_sipush (v := 200) hx hb dX8_fill_220 (by decide) ?_
        refine lv_iload_n hx hb dX8_fill_223 rfl (lv_at hl 3 rfl) ?_
        refine lv_imul hx hb dX8_fill_224 ?_
        refine lv_iload hx hb dX8_fill_225 (lv_at hl 6 rfl) ?_
        refine lv_iadd hx hb dX8_fill_227 ?_
        obtain ⟨hi_85, h⟩ := fb_ck_s h
        refine M_l25 cx hH hi_85 dX8_fill_228 ?_
        refine lv_iload hx hb dX8_fill_229 (lv_at hl 1 rfl) ?_
        refine lv_aload_n hx hb dX8_fill_231 rfl (lv_at hl 2 rfl) ?_
        refine M_ra21 cx hH lkX8_83 dX8_fill_232 ?_
        refine lv_iload_n hx hb dX8_fill_235 rfl (lv_at hl 3 rfl) ?_
        obtain ⟨hi_86, h⟩ := fb_ck_s h
        refine M_l21 cx hH hi_86 dX8_fill_236 ?_
        refine lv_aload_n hx hb dX8_fill_237 rfl (lv_at hl 2 rfl) ?_
        refine M_ra22 cx hH lkX8_86 dX8_fill_238 ?_
        refine lv_iload_n hx hb dX8_fill_241 rfl (lv_at hl 3 rfl) ?_
        obtain ⟨hi_87, h⟩ := fb_ck_s h
        refine M_l22 cx hH hi_87 dX8_fill_242 ?_
        refine lv_imul hx hb dX8_fill_243 ?_
        obtain ⟨S_89, hc_88, h⟩ := fb_bd_s h
        refine fb_vv (wd := wM cI cZ a) (As := [.int (T.2 25 ((200 * x1) + x7).toNatClampNeg), .int x8_83, .int ((T.2 21 x1.toNatClampNeg) * (T.2 22 x1.toNatClampNeg))]) (rest := []) cx hH mwX8_takes (ctX8_takes l D cI cZ a hc_88) (M_rc0 cx hH) mlX8_208 (by decide) rfl hl.1 (Nat.le_of_ble_eq_true rfl) rfl dX8_fill_244 (fun H locs hH => ?_)
        obtain ⟨x7_90, ex7_90, h⟩ := fb_vl_s h
        refine lv_iinc (v := x7_90) (lv' := [(7, .int x7_90), (6, .int x6_84), (8, .int x8_83), (0, .ref (a 0)), (1, .int x1), (2, .int x2), (3, .int x3)]) hx hb dX8_fill_247 hl (k := 6) rfl (by rw [ex7_90]; rfl) (by decide) rfl (fun ls hl => ?_)
        refine lv_goto (tgt := 194) hx hb dX8_fill_250 (by decide) ?_
        exact ih194 _ _ _ _ _ _ _ _ _ h hH (lv_sub hl [3, 4, 5, 6, 1, 0] rfl)
  have hL94 : ∀ (n : Nat), ∀ (T : Sg) (x1 x2 x3 x4 x5 : Int32) (H : Heap) (locs : List Loc) (ls : Array Slot), pX8_fill_l94 n T x1 x2 x3 x4 x5 = some (r, S9) → HB D (wM cI cZ a S) (wM cI cZ a T) s H locs → lv_has ls 9 [(0, .ref (a 0)), (1, .int x1), (2, .int x2), (3, .int x3), (4, .int x4), (5, .int x5)] → W p l e (rmk 5) s m args below meth c H locs 0 0 (Ei D cI cZ (wM cI cZ a) S r S9 below args s) (F0 m 94 ls []) := by
    intro n94
    induction n94 with
    | zero => intro T x1 x2 x3 x4 x5 H locs ls h hH hl; simp [pX8_fill_l94] at h
    | succ n94 ih94 =>
      intro T x1 x2 x3 x4 x5 H locs ls h hH hl
      rw [pX8_fill_l94] at h
      refine lv_iload hx hb dX8_fill_94 (lv_at hl 4 rfl) ?_
      refine lv_aload_n hx hb dX8_fill_96 rfl (lv_at hl 0 rfl) ?_
      refine M_ra23 cx hH lkX8_89 dX8_fill_97 ?_
      refine lv_iload_n hx hb dX8_fill_100 rfl (lv_at hl 1 rfl) ?_
      obtain ⟨hi_91, h⟩ := fb_ck_s h
      refine M_l23 cx hH hi_91 dX8_fill_101 ?_
      refine lv_icmp_ge (tgt := 152) hx hb dX8_fill_102 (by decide) (fun c_92 => ?_) (fun c_92 => ?_)
      · replace h := fb_ip c_92 h
        refine lv_iload hx hb dX8_fill_152 (lv_at hl 4 rfl) ?_
        refine lv_aload_n hx hb dX8_fill_154 rfl (lv_at hl 0 rfl) ?_
        refine M_ra23 cx hH lkX8_89 dX8_fill_155 ?_
        refine lv_iload_n hx hb dX8_fill_158 rfl (lv_at hl 1 rfl) ?_
        obtain ⟨hi_93, h⟩ := fb_ck_s h
        refine M_l23 cx hH hi_93 dX8_fill_159 ?_
        refine lv_icmp_ge (tgt := 169) hx hb dX8_fill_160 (by decide) (fun c_94 => ?_) (fun c_94 => ?_)
        · replace h := fb_ip c_94 h
          refine lv_aload_n hx hb dX8_fill_169 rfl (lv_at hl 0 rfl) ?_
          refine M_ra27 cx hH lkX8_101 dX8_fill_170 ?_
          refine lv_iload_n hx hb dX8_fill_173 rfl (lv_at hl 1 rfl) ?_
          refine lv_iconst (v := 1) hx hb dX8_fill_174 (by decide) ?_
          obtain ⟨hi_96, h⟩ := fb_ck_s h
          obtain ⟨S_95, eS_95, h⟩ := fb_st_s h
          refine M_s27 cx hH hi_96 dX8_fill_175 (fun H locs hH => ?_)
          rw [← eS_95] at hH
          refine lv_aload_n hx hb dX8_fill_176 rfl (lv_at hl 0 rfl) ?_
          refine M_ra24 cx hH lkX8_92 dX8_fill_177 ?_
          refine lv_iload_n hx hb dX8_fill_180 rfl (lv_at hl 1 rfl) ?_
          refine lv_iload_n hx hb dX8_fill_181 rfl (lv_at hl 3 rfl) ?_
          obtain ⟨hi_98, h⟩ := fb_ck_s h
          obtain ⟨S_97, eS_97, h⟩ := fb_st_s h
          refine M_s24 cx hH hi_98 dX8_fill_182 (fun H locs hH => ?_)
          rw [← eS_97] at hH
          refine lv_aload_n hx hb dX8_fill_183 rfl (lv_at hl 0 rfl) ?_
          refine M_ra23 cx hH lkX8_89 dX8_fill_184 ?_
          refine lv_iload_n hx hb dX8_fill_187 rfl (lv_at hl 1 rfl) ?_
          obtain ⟨hi_99, h⟩ := fb_ck_s h
          refine M_l23 cx hH hi_99 dX8_fill_188 ?_
          obtain ⟨x6_100, ex6_100, h⟩ := fb_vl_s h
          refine fb_top ex6_100 ?_
          refine lv_istore (lv' := [(6, .int x6_100), (0, .ref (a 0)), (1, .int x1), (2, .int x2), (3, .int x3), (4, .int x4), (5, .int x5)]) hx hb dX8_fill_189 hl (by decide) rfl (fun ls hl => ?_)
          refine lv_iconst (v := 0) hx hb dX8_fill_191 (by decide) ?_
          obtain ⟨x7_101, ex7_101, h⟩ := fb_vl_s h
          refine fb_top ex7_101 ?_
          refine lv_istore (lv' := [(7, .int x7_101), (6, .int x6_100), (0, .ref (a 0)), (1, .int x1), (2, .int x2), (3, .int x3), (4, .int x4), (5, .int x5)]) hx hb dX8_fill_192 hl (by decide) rfl (fun ls hl => ?_)
          exact hL194 5000 _ _ _ _ _ _ _ _ _ h hH (lv_sub hl [2, 3, 4, 5, 1, 0] rfl)
        · replace h := fb_in c_94 h
          refine lv_aload_n hx hb dX8_fill_163 rfl (lv_at hl 0 rfl) ?_
          refine lv_iconst (v := 5) hx hb dX8_fill_164 (by decide) ?_
          obtain ⟨r_103, S_104, hc_102, h⟩ := fb_bd2_s h
          refine fb_vi (wd := wM cI cZ a) (As := [.int 5]) (rest := []) cx hH mwX8_refused (ctX8_refused l D cI cZ a hc_102) (M_rc0 cx hH) mlX8_118 (by decide) rfl hl.1 (Nat.le_of_ble_eq_true rfl) rfl dX8_fill_165 (fun H locs hH => ?_)
          obtain ⟨rfl, rfl⟩ := Prod.mk.inj (Option.some.inj h)
          exact fb_iret (wd := wM cI cZ a) cx rfl hH dX8_fill_168
      · replace h := fb_in c_92 h
        refine lv_iload hx hb dX8_fill_105 (lv_at hl 5 rfl) ?_
        refine lv_iconst (v := (-1)) hx hb dX8_fill_107 (by decide) ?_
        refine lv_icmp_eq (tgt := 152) hx hb dX8_fill_108 (by decide) (fun c_105 => ?_) (fun c_105 => ?_)
        · replace h := fb_ip c_105 h
          refine lv_iload hx hb dX8_fill_152 (lv_at hl 4 rfl) ?_
          refine lv_aload_n hx hb dX8_fill_154 rfl (lv_at hl 0 rfl) ?_
          refine M_ra23 cx hH lkX8_89 dX8_fill_155 ?_
          refine lv_iload_n hx hb dX8_fill_158 rfl (lv_at hl 1 rfl) ?_
          obtain ⟨hi_106, h⟩ := fb_ck_s h
          refine M_l23 cx hH hi_106 dX8_fill_159 ?_
          refine lv_icmp_ge (tgt := 169) hx hb dX8_fill_160 (by decide) (fun c_107 => ?_) (fun c_107 => ?_)
          · replace h := fb_ip c_107 h
            refine lv_aload_n hx hb dX8_fill_169 rfl (lv_at hl 0 rfl) ?_
            refine M_ra27 cx hH lkX8_101 dX8_fill_170 ?_
            refine lv_iload_n hx hb dX8_fill_173 rfl (lv_at hl 1 rfl) ?_
            refine lv_iconst (v := 1) hx hb dX8_fill_174 (by decide) ?_
            obtain ⟨hi_109, h⟩ := fb_ck_s h
            obtain ⟨S_108, eS_108, h⟩ := fb_st_s h
            refine M_s27 cx hH hi_109 dX8_fill_175 (fun H locs hH => ?_)
            rw [← eS_108] at hH
            refine lv_aload_n hx hb dX8_fill_176 rfl (lv_at hl 0 rfl) ?_
            refine M_ra24 cx hH lkX8_92 dX8_fill_177 ?_
            refine lv_iload_n hx hb dX8_fill_180 rfl (lv_at hl 1 rfl) ?_
            refine lv_iload_n hx hb dX8_fill_181 rfl (lv_at hl 3 rfl) ?_
            obtain ⟨hi_111, h⟩ := fb_ck_s h
            obtain ⟨S_110, eS_110, h⟩ := fb_st_s h
            refine M_s24 cx hH hi_111 dX8_fill_182 (fun H locs hH => ?_)
            rw [← eS_110] at hH
            refine lv_aload_n hx hb dX8_fill_183 rfl (lv_at hl 0 rfl) ?_
            refine M_ra23 cx hH lkX8_89 dX8_fill_184 ?_
            refine lv_iload_n hx hb dX8_fill_187 rfl (lv_at hl 1 rfl) ?_
            obtain ⟨hi_112, h⟩ := fb_ck_s h
            refine M_l23 cx hH hi_112 dX8_fill_188 ?_
            obtain ⟨x6_113, ex6_113, h⟩ := fb_vl_s h
            refine fb_top ex6_113 ?_
            refine lv_istore (lv' := [(6, .int x6_113), (0, .ref (a 0)), (1, .int x1), (2, .int x2), (3, .int x3), (4, .int x4), (5, .int x5)]) hx hb dX8_fill_189 hl (by decide) rfl (fun ls hl => ?_)
            refine lv_iconst (v := 0) hx hb dX8_fill_191 (by decide) ?_
            obtain ⟨x7_114, ex7_114, h⟩ := fb_vl_s h
            refine fb_top ex7_114 ?_
            refine lv_istore (lv' := [(7, .int x7_114), (6, .int x6_113), (0, .ref (a 0)), (1, .int x1), (2, .int x2), (3, .int x3), (4, .int x4), (5, .int x5)]) hx hb dX8_fill_192 hl (by decide) rfl (fun ls hl => ?_)
            exact hL194 5000 _ _ _ _ _ _ _ _ _ h hH (lv_sub hl [2, 3, 4, 5, 1, 0] rfl)
          · replace h := fb_in c_107 h
            refine lv_aload_n hx hb dX8_fill_163 rfl (lv_at hl 0 rfl) ?_
            refine lv_iconst (v := 5) hx hb dX8_fill_164 (by decide) ?_
            obtain ⟨r_116, S_117, hc_115, h⟩ := fb_bd2_s h
            refine fb_vi (wd := wM cI cZ a) (As := [.int 5]) (rest := []) cx hH mwX8_refused (ctX8_refused l D cI cZ a hc_115) (M_rc0 cx hH) mlX8_118 (by decide) rfl hl.1 (Nat.le_of_ble_eq_true rfl) rfl dX8_fill_165 (fun H locs hH => ?_)
            obtain ⟨rfl, rfl⟩ := Prod.mk.inj (Option.some.inj h)
            exact fb_iret (wd := wM cI cZ a) cx rfl hH dX8_fill_168
        · replace h := fb_in c_105 h
          refine lv_aload_n hx hb dX8_fill_111 rfl (lv_at hl 0 rfl) ?_
          refine M_ra28 cx hH lkX8_105 dX8_fill_112 ?_
          refine lv_iload hx hb dX8_fill_115 (lv_at hl 5 rfl) ?_
          refine lv_iconst (v := 1) hx hb dX8_fill_117 (by decide) ?_
          obtain ⟨hi_119, h⟩ := fb_ck_s h
          obtain ⟨S_118, eS_118, h⟩ := fb_st_s h
          refine M_s28 cx hH hi_119 dX8_fill_118 (fun H locs hH => ?_)
          rw [← eS_118] at hH
          refine lv_aload_n hx hb dX8_fill_119 rfl (lv_at hl 0 rfl) ?_
          refine M_ra25 cx hH lkX8_95 dX8_fill_120 ?_
          refine lv_sipush (v := 200) hx hb dX8_fill_123 (by decide) ?_
          refine lv_iload_n hx hb dX8_fill_126 rfl (lv_at hl 1 rfl) ?_
          refine lv_imul hx hb dX8_fill_127 ?_
          refine lv_iload_n hx hb dX8_fill_128 rfl (lv_at hl 3 rfl) ?_
          refine lv_iadd hx hb dX8_fill_129 ?_
          refine lv_iload hx hb dX8_fill_130 (lv_at hl 5 rfl) ?_
          obtain ⟨hi_121, h⟩ := fb_ck_s h
          obtain ⟨S_120, eS_120, h⟩ := fb_st_s h
          refine M_s25 cx hH hi_121 dX8_fill_132 (fun H locs hH => ?_)
          rw [← eS_120] at hH
          obtain ⟨x3_122, ex3_122, h⟩ := fb_vl_s h
          refine lv_iinc (v := x3_122) (lv' := [(3, .int x3_122), (0, .ref (a 0)), (1, .int x1), (2, .int x2), (4, .int x4), (5, .int x5)]) hx hb dX8_fill_133 hl (k := 3) rfl (by rw [ex3_122]; rfl) (by decide) rfl (fun ls hl => ?_)
          refine lv_iload hx hb dX8_fill_136 (lv_at hl 4 rfl) ?_
          refine lv_iload_n hx hb dX8_fill_138 rfl (lv_at hl 3 rfl) ?_
          refine lv_iadd hx hb dX8_fill_139 ?_
          obtain ⟨x4_123, ex4_123, h⟩ := fb_vl_s h
          refine fb_top ex4_123 ?_
          refine lv_istore (lv' := [(4, .int x4_123), (3, .int x3_122), (0, .ref (a 0)), (1, .int x1), (2, .int x2), (5, .int x5)]) hx hb dX8_fill_140 hl (by decide) rfl (fun ls hl => ?_)
          refine lv_aload_n hx hb dX8_fill_142 rfl (lv_at hl 2 rfl) ?_
          refine lv_iload_n hx hb dX8_fill_143 rfl (lv_at hl 3 rfl) ?_
          obtain ⟨r_125, hc_124, h⟩ := fb_bd_s h
          refine fb_vi (wd := wM cI cZ a) (As := [.int x1]) (rest := []) cx hH mwX8_nextFor (ctX8_nextFor l D cI cZ a hc_124) (M_rc0 cx hH) mlX8_202 (by decide) rfl hl.1 (Nat.le_of_ble_eq_true rfl) rfl dX8_fill_144 (fun H locs hH => ?_)
          obtain ⟨x5_126, ex5_126, h⟩ := fb_vl_s h
          refine fb_top ex5_126 ?_
          refine lv_istore (lv' := [(5, .int x5_126), (4, .int x4_123), (3, .int x3_122), (0, .ref (a 0)), (1, .int x1), (2, .int x2)]) hx hb dX8_fill_147 hl (by decide) rfl (fun ls hl => ?_)
          refine lv_goto (tgt := 94) hx hb dX8_fill_149 (by decide) ?_
          exact ih94 _ _ _ _ _ _ _ _ _ h hH (lv_sub hl [3, 4, 5, 2, 1, 0] rfl)
  have hL53 : ∀ (n : Nat), ∀ (T : Sg) (x1 x2 x3 : Int32) (H : Heap) (locs : List Loc) (ls : Array Slot), pX8_fill_l53 n T x1 x2 x3 = some (r, S9) → HB D (wM cI cZ a S) (wM cI cZ a T) s H locs → lv_has ls 9 [(0, .ref (a 0)), (1, .int x1), (2, .int x2), (3, .int x3)] → W p l e (rmk 5) s m args below meth c H locs 0 0 (Ei D cI cZ (wM cI cZ a) S r S9 below args s) (F0 m 53 ls []) := by
    intro n53
    induction n53 with
    | zero => intro T x1 x2 x3 H locs ls h hH hl; simp [pX8_fill_l53] at h
    | succ n53 ih53 =>
      intro T x1 x2 x3 H locs ls h hH hl
      rw [pX8_fill_l53] at h
      refine lv_iload_n hx hb dX8_fill_53 rfl (lv_at hl 3 rfl) ?_
      refine lv_aload_n hx hb dX8_fill_54 rfl (lv_at hl 0 rfl) ?_
      refine M_g10 cx hH lkX8_139 dX8_fill_55 ?_
      refine lv_icmp_ge (tgt := 74) hx hb dX8_fill_58 (by decide) (fun c_127 => ?_) (fun c_127 => ?_)
      · replace h := fb_ip c_127 h
        refine lv_iconst (v := 0) hx hb dX8_fill_74 (by decide) ?_
        obtain ⟨x3_128, ex3_128, h⟩ := fb_vl_s h
        refine fb_top ex3_128 ?_
        refine lv_istore_n (lv' := [(3, .int x3_128), (0, .ref (a 0)), (1, .int x1), (2, .int x2)]) hx hb dX8_fill_75 rfl hl (by decide) rfl (fun ls hl => ?_)
        refine lv_iconst (v := 0) hx hb dX8_fill_76 (by decide) ?_
        obtain ⟨x4_129, ex4_129, h⟩ := fb_vl_s h
        refine fb_top ex4_129 ?_
        refine lv_istore (lv' := [(4, .int x4_129), (3, .int x3_128), (0, .ref (a 0)), (1, .int x1), (2, .int x2)]) hx hb dX8_fill_77 hl (by decide) rfl (fun ls hl => ?_)
        refine lv_iload_n hx hb dX8_fill_79 rfl (lv_at hl 4 rfl) ?_
        refine lv_if_ne (tgt := 87) hx hb dX8_fill_80 (by decide) (fun c_130 => ?_) (fun c_130 => ?_)
        · replace h := fb_in c_130 h
          refine lv_aload_n hx hb dX8_fill_87 rfl (lv_at hl 2 rfl) ?_
          refine lv_iload_n hx hb dX8_fill_88 rfl (lv_at hl 3 rfl) ?_
          obtain ⟨r_132, hc_131, h⟩ := fb_bd_s h
          refine fb_vi (wd := wM cI cZ a) (As := [.int x1]) (rest := []) cx hH mwX8_nextFor (ctX8_nextFor l D cI cZ a hc_131) (M_rc0 cx hH) mlX8_202 (by decide) rfl hl.1 (Nat.le_of_ble_eq_true rfl) rfl dX8_fill_89 (fun H locs hH => ?_)
          obtain ⟨x5_133, ex5_133, h⟩ := fb_vl_s h
          refine fb_top ex5_133 ?_
          refine lv_istore (lv' := [(5, .int x5_133), (4, .int x4_129), (3, .int x3_128), (0, .ref (a 0)), (1, .int x1), (2, .int x2)]) hx hb dX8_fill_92 hl (by decide) rfl (fun ls hl => ?_)
          exact hL94 5000 _ _ _ _ _ _ _ _ _ h hH (lv_sub hl [3, 4, 5, 2, 1, 0] rfl)
        · replace h := fb_ip c_130 h
          refine lv_iconst (v := (-1)) hx hb dX8_fill_83 (by decide) ?_
          refine lv_goto (tgt := 92) hx hb dX8_fill_84 (by decide) ?_
          obtain ⟨x5_134, ex5_134, h⟩ := fb_vl_s h
          refine fb_top ex5_134 ?_
          refine lv_istore (lv' := [(5, .int x5_134), (4, .int x4_129), (3, .int x3_128), (0, .ref (a 0)), (1, .int x1), (2, .int x2)]) hx hb dX8_fill_92 hl (by decide) rfl (fun ls hl => ?_)
          exact hL94 5000 _ _ _ _ _ _ _ _ _ h hH (lv_sub hl [3, 4, 5, 2, 1, 0] rfl)
      · replace h := fb_in c_127 h
        refine lv_aload_n hx hb dX8_fill_61 rfl (lv_at hl 0 rfl) ?_
        refine M_ra28 cx hH lkX8_105 dX8_fill_62 ?_
        refine lv_iload_n hx hb dX8_fill_65 rfl (lv_at hl 3 rfl) ?_
        refine lv_iconst (v := 0) hx hb dX8_fill_66 (by decide) ?_
        obtain ⟨hi_136, h⟩ := fb_ck_s h
        obtain ⟨S_135, eS_135, h⟩ := fb_st_s h
        refine M_s28 cx hH hi_136 dX8_fill_67 (fun H locs hH => ?_)
        rw [← eS_135] at hH
        obtain ⟨x3_137, ex3_137, h⟩ := fb_vl_s h
        refine lv_iinc (v := x3_137) (lv' := [(3, .int x3_137), (0, .ref (a 0)), (1, .int x1), (2, .int x2)]) hx hb dX8_fill_68 hl (k := 3) rfl (by rw [ex3_137]; rfl) (by decide) rfl (fun ls hl => ?_)
        refine lv_goto (tgt := 53) hx hb dX8_fill_71 (by decide) ?_
        exact ih53 _ _ _ _ _ _ _ h hH (lv_sub hl [1, 2, 3, 0] rfl)
  unfold pX8_fill at h
  refine lv_aload_n hx hb dX8_fill_0 rfl (lv_at hl 0 rfl) ?_
  refine lv_iconst (v := 0) hx hb dX8_fill_1 (by decide) ?_
  obtain ⟨S_60, eS_60, h⟩ := fb_st_s h
  refine M_p0 cx hH lkX8_1 dX8_fill_2 (fun H locs hH => ?_)
  rw [← eS_60] at hH
  refine lv_aload_n hx hb dX8_fill_5 rfl (lv_at hl 0 rfl) ?_
  refine lv_iload_n hx hb dX8_fill_6 rfl (lv_at hl 1 rfl) ?_
  obtain ⟨r_62, hc_61, h⟩ := fb_bd_s h
  refine fb_vi (wd := wM cI cZ a) (As := [.int x1]) (rest := []) cx hH mwX8_isOrder (ctX8_isOrder l D cI cZ a hc_61) (M_rc0 cx hH) mlX8_199 (by decide) rfl hl.1 (Nat.le_of_ble_eq_true rfl) rfl dX8_fill_7 (fun H locs hH => ?_)
  refine lv_if_ne (tgt := 19) hx hb dX8_fill_10 (by decide) (fun c_63 => ?_) (fun c_63 => ?_)
  · replace h := fb_in c_63 h
    refine lv_aload_n hx hb dX8_fill_19 rfl (lv_at hl 0 rfl) ?_
    refine M_ra27 cx hH lkX8_101 dX8_fill_20 ?_
    refine lv_iload_n hx hb dX8_fill_23 rfl (lv_at hl 1 rfl) ?_
    obtain ⟨hi_64, h⟩ := fb_ck_s h
    refine M_l27 cx hH hi_64 dX8_fill_24 ?_
    refine lv_if_eq (tgt := 34) hx hb dX8_fill_25 (by decide) (fun c_65 => ?_) (fun c_65 => ?_)
    · replace h := fb_ip c_65 h
      refine lv_aload_n hx hb dX8_fill_34 rfl (lv_at hl 0 rfl) ?_
      refine lv_aload_n hx hb dX8_fill_35 rfl (lv_at hl 0 rfl) ?_
      refine M_ra21 cx hH lkX8_83 dX8_fill_36 ?_
      refine lv_iload_n hx hb dX8_fill_39 rfl (lv_at hl 1 rfl) ?_
      obtain ⟨hi_66, h⟩ := fb_ck_s h
      refine M_l21 cx hH hi_66 dX8_fill_40 ?_
      refine lv_aload_n hx hb dX8_fill_41 rfl (lv_at hl 0 rfl) ?_
      refine M_ra22 cx hH lkX8_86 dX8_fill_42 ?_
      refine lv_iload_n hx hb dX8_fill_45 rfl (lv_at hl 1 rfl) ?_
      obtain ⟨hi_67, h⟩ := fb_ck_s h
      refine M_l22 cx hH hi_67 dX8_fill_46 ?_
      obtain ⟨r_69, S_70, hc_68, h⟩ := fb_bd2_s h
      refine fb_vi (wd := wM cI cZ a) (As := [.int (S_60.2 21 x1.toNatClampNeg), .int (S_60.2 22 x1.toNatClampNeg)]) (rest := []) cx hH mwX8_piecesOf (ctX8_piecesOf l D cI cZ a hc_68) (M_rc0 cx hH) mlX8_193 (by decide) rfl hl.1 (Nat.le_of_ble_eq_true rfl) rfl dX8_fill_47 (fun H locs hH => ?_)
      obtain ⟨x2_71, ex2_71, h⟩ := fb_vl_s h
      refine fb_top ex2_71 ?_
      refine lv_istore_n (lv' := [(2, .int x2_71), (0, .ref (a 0)), (1, .int x1)]) hx hb dX8_fill_50 rfl hl (by decide) rfl (fun ls hl => ?_)
      refine lv_iconst (v := 0) hx hb dX8_fill_51 (by decide) ?_
      obtain ⟨x3_72, ex3_72, h⟩ := fb_vl_s h
      refine fb_top ex3_72 ?_
      refine lv_istore_n (lv' := [(3, .int x3_72), (2, .int x2_71), (0, .ref (a 0)), (1, .int x1)]) hx hb dX8_fill_52 rfl hl (by decide) rfl (fun ls hl => ?_)
      exact hL53 5000 _ _ _ _ _ _ _ h hH (lv_sub hl [2, 3, 1, 0] rfl)
    · replace h := fb_in c_65 h
      refine lv_aload_n hx hb dX8_fill_28 rfl (lv_at hl 0 rfl) ?_
      refine lv_iconst (v := 4) hx hb dX8_fill_29 (by decide) ?_
      obtain ⟨r_74, S_75, hc_73, h⟩ := fb_bd2_s h
      refine fb_vi (wd := wM cI cZ a) (As := [.int 4]) (rest := []) cx hH mwX8_refused (ctX8_refused l D cI cZ a hc_73) (M_rc0 cx hH) mlX8_118 (by decide) rfl hl.1 (Nat.le_of_ble_eq_true rfl) rfl dX8_fill_30 (fun H locs hH => ?_)
      obtain ⟨rfl, rfl⟩ := Prod.mk.inj (Option.some.inj h)
      exact fb_iret (wd := wM cI cZ a) cx rfl hH dX8_fill_33
  · replace h := fb_ip c_63 h
    refine lv_aload_n hx hb dX8_fill_13 rfl (lv_at hl 0 rfl) ?_
    refine lv_iconst (v := 1) hx hb dX8_fill_14 (by decide) ?_
    obtain ⟨r_77, S_78, hc_76, h⟩ := fb_bd2_s h
    refine fb_vi (wd := wM cI cZ a) (As := [.int 1]) (rest := []) cx hH mwX8_refused (ctX8_refused l D cI cZ a hc_76) (M_rc0 cx hH) mlX8_118 (by decide) rfl hl.1 (Nat.le_of_ble_eq_true rfl) rfl dX8_fill_15 (fun H locs hH => ?_)
    obtain ⟨rfl, rfl⟩ := Prod.mk.inj (Option.some.inj h)
    exact fb_iret (wd := wM cI cZ a) cx rfl hH dX8_fill_18
set_option maxHeartbeats 4000000 in
set_option maxRecDepth 100000 in
theorem ctX8_by (l : Launch) (D : va_G) (cI cZ : ClassId) (a : Nat → Nat) {S : Sg} {x1 x2 : Int32} {r : Int32} {S9 : Sg} (h : pX8_by S x1 x2 = some (r, S9)) : CTi l D cI cZ (wM cI cZ a) yX8_by cX8_by 3 (some .int) 1 [.ref (a 0), .int x1, .int x2] S r S9 := by
  refine fb_starti (by decide) (Nat.le_of_ble_eq_true rfl) (fun p e s m args below meth c ls cx hH hl => ?_)
  obtain ⟨hx, hb, -⟩ := id cx
  have hl : lv_has ls 3 [(0, .ref (a 0)), (1, .int x1), (2, .int x2)] := hl
  unfold pX8_by at h
  refine lv_aload_n hx hb dX8_by_0 rfl (lv_at hl 0 rfl) ?_
  refine lv_aload_n hx hb dX8_by_1 rfl (lv_at hl 0 rfl) ?_
  refine lv_iload_n hx hb dX8_by_2 rfl (lv_at hl 1 rfl) ?_
  obtain ⟨r_2, hc_1, h⟩ := fb_bd_s h
  refine fb_vi (wd := wM cI cZ a) (As := [.int x1]) (rest := [.ref (a 0)]) cx hH mwX8_isOrder (ctX8_isOrder l D cI cZ a hc_1) (M_rc0 cx hH) mlX8_199 (by decide) rfl hl.1 (Nat.le_of_ble_eq_true rfl) rfl dX8_by_3 (fun H locs hH => ?_)
  refine lv_if_eq (tgt := 23) hx hb dX8_by_6 (by decide) (fun c_3 => ?_) (fun c_3 => ?_)
  · replace h := fb_ip c_3 h
    refine lv_iconst (v := 1) hx hb dX8_by_23 (by decide) ?_
    refine lv_goto (tgt := 28) hx hb dX8_by_24 (by decide) ?_
    obtain ⟨S_4, eS_4, h⟩ := fb_st_s h
    refine M_p0 cx hH lkX8_1 dX8_by_28 (fun H locs hH => ?_)
    rw [← eS_4] at hH
    refine lv_aload_n hx hb dX8_by_31 rfl (lv_at hl 0 rfl) ?_
    refine M_g0 cx hH lkX8_1 dX8_by_32 ?_
    refine lv_if_le (tgt := 42) hx hb dX8_by_35 (by decide) (fun c_5 => ?_) (fun c_5 => ?_)
    · replace h := fb_ip c_5 h
      refine lv_aload_n hx hb dX8_by_42 rfl (lv_at hl 0 rfl) ?_
      refine M_ra25 cx hH lkX8_95 dX8_by_43 ?_
      refine lv_sipush (v := 200) hx hb dX8_by_46 (by decide) ?_
      refine lv_iload_n hx hb dX8_by_49 rfl (lv_at hl 1 rfl) ?_
      refine lv_imul hx hb dX8_by_50 ?_
      refine lv_iload_n hx hb dX8_by_51 rfl (lv_at hl 2 rfl) ?_
      refine lv_iadd hx hb dX8_by_52 ?_
      obtain ⟨hi_6, h⟩ := fb_ck_s h
      refine M_l25 cx hH hi_6 dX8_by_53 ?_
      obtain ⟨rfl, rfl⟩ := Prod.mk.inj (Option.some.inj h)
      exact fb_iret (wd := wM cI cZ a) cx rfl hH dX8_by_54
    · replace h := fb_in c_5 h
      refine lv_iconst (v := 0) hx hb dX8_by_38 (by decide) ?_
      refine lv_goto (tgt := 54) hx hb dX8_by_39 (by decide) ?_
      obtain ⟨rfl, rfl⟩ := Prod.mk.inj (Option.some.inj h)
      exact fb_iret (wd := wM cI cZ a) cx rfl hH dX8_by_54
  · replace h := fb_in c_3 h
    refine lv_iload_n hx hb dX8_by_9 rfl (lv_at hl 2 rfl) ?_
    refine lv_if_lt (tgt := 23) hx hb dX8_by_10 (by decide) (fun c_7 => ?_) (fun c_7 => ?_)
    · replace h := fb_ip c_7 h
      refine lv_iconst (v := 1) hx hb dX8_by_23 (by decide) ?_
      refine lv_goto (tgt := 28) hx hb dX8_by_24 (by decide) ?_
      obtain ⟨S_8, eS_8, h⟩ := fb_st_s h
      refine M_p0 cx hH lkX8_1 dX8_by_28 (fun H locs hH => ?_)
      rw [← eS_8] at hH
      refine lv_aload_n hx hb dX8_by_31 rfl (lv_at hl 0 rfl) ?_
      refine M_g0 cx hH lkX8_1 dX8_by_32 ?_
      refine lv_if_le (tgt := 42) hx hb dX8_by_35 (by decide) (fun c_9 => ?_) (fun c_9 => ?_)
      · replace h := fb_ip c_9 h
        refine lv_aload_n hx hb dX8_by_42 rfl (lv_at hl 0 rfl) ?_
        refine M_ra25 cx hH lkX8_95 dX8_by_43 ?_
        refine lv_sipush (v := 200) hx hb dX8_by_46 (by decide) ?_
        refine lv_iload_n hx hb dX8_by_49 rfl (lv_at hl 1 rfl) ?_
        refine lv_imul hx hb dX8_by_50 ?_
        refine lv_iload_n hx hb dX8_by_51 rfl (lv_at hl 2 rfl) ?_
        refine lv_iadd hx hb dX8_by_52 ?_
        obtain ⟨hi_10, h⟩ := fb_ck_s h
        refine M_l25 cx hH hi_10 dX8_by_53 ?_
        obtain ⟨rfl, rfl⟩ := Prod.mk.inj (Option.some.inj h)
        exact fb_iret (wd := wM cI cZ a) cx rfl hH dX8_by_54
      · replace h := fb_in c_9 h
        refine lv_iconst (v := 0) hx hb dX8_by_38 (by decide) ?_
        refine lv_goto (tgt := 54) hx hb dX8_by_39 (by decide) ?_
        obtain ⟨rfl, rfl⟩ := Prod.mk.inj (Option.some.inj h)
        exact fb_iret (wd := wM cI cZ a) cx rfl hH dX8_by_54
    · replace h := fb_in c_7 h
      refine lv_iload_n hx hb dX8_by_13 rfl (lv_at hl 2 rfl) ?_
      refine lv_aload_n hx hb dX8_by_14 rfl (lv_at hl 0 rfl) ?_
      refine M_ra24 cx hH lkX8_92 dX8_by_15 ?_
      refine lv_iload_n hx hb dX8_by_18 rfl (lv_at hl 1 rfl) ?_
      obtain ⟨hi_11, h⟩ := fb_ck_s h
      refine M_l24 cx hH hi_11 dX8_by_19 ?_
      refine lv_icmp_lt (tgt := 27) hx hb dX8_by_20 (by decide) (fun c_12 => ?_) (fun c_12 => ?_)
      · replace h := fb_ip c_12 h
        refine lv_iconst (v := 0) hx hb dX8_by_27 (by decide) ?_
        obtain ⟨S_13, eS_13, h⟩ := fb_st_s h
        refine M_p0 cx hH lkX8_1 dX8_by_28 (fun H locs hH => ?_)
        rw [← eS_13] at hH
        refine lv_aload_n hx hb dX8_by_31 rfl (lv_at hl 0 rfl) ?_
        refine M_g0 cx hH lkX8_1 dX8_by_32 ?_
        refine lv_if_le (tgt := 42) hx hb dX8_by_35 (by decide) (fun c_14 => ?_) (fun c_14 => ?_)
        · replace h := fb_ip c_14 h
          refine lv_aload_n hx hb dX8_by_42 rfl (lv_at hl 0 rfl) ?_
          refine M_ra25 cx hH lkX8_95 dX8_by_43 ?_
          refine lv_sipush (v := 200) hx hb dX8_by_46 (by decide) ?_
          refine lv_iload_n hx hb dX8_by_49 rfl (lv_at hl 1 rfl) ?_
          refine lv_imul hx hb dX8_by_50 ?_
          refine lv_iload_n hx hb dX8_by_51 rfl (lv_at hl 2 rfl) ?_
          refine lv_iadd hx hb dX8_by_52 ?_
          obtain ⟨hi_15, h⟩ := fb_ck_s h
          refine M_l25 cx hH hi_15 dX8_by_53 ?_
          obtain ⟨rfl, rfl⟩ := Prod.mk.inj (Option.some.inj h)
          exact fb_iret (wd := wM cI cZ a) cx rfl hH dX8_by_54
        · replace h := fb_in c_14 h
          refine lv_iconst (v := 0) hx hb dX8_by_38 (by decide) ?_
          refine lv_goto (tgt := 54) hx hb dX8_by_39 (by decide) ?_
          obtain ⟨rfl, rfl⟩ := Prod.mk.inj (Option.some.inj h)
          exact fb_iret (wd := wM cI cZ a) cx rfl hH dX8_by_54
      · replace h := fb_in c_12 h
        refine lv_iconst (v := 1) hx hb dX8_by_23 (by decide) ?_
        refine lv_goto (tgt := 28) hx hb dX8_by_24 (by decide) ?_
        obtain ⟨S_16, eS_16, h⟩ := fb_st_s h
        refine M_p0 cx hH lkX8_1 dX8_by_28 (fun H locs hH => ?_)
        rw [← eS_16] at hH
        refine lv_aload_n hx hb dX8_by_31 rfl (lv_at hl 0 rfl) ?_
        refine M_g0 cx hH lkX8_1 dX8_by_32 ?_
        refine lv_if_le (tgt := 42) hx hb dX8_by_35 (by decide) (fun c_17 => ?_) (fun c_17 => ?_)
        · replace h := fb_ip c_17 h
          refine lv_aload_n hx hb dX8_by_42 rfl (lv_at hl 0 rfl) ?_
          refine M_ra25 cx hH lkX8_95 dX8_by_43 ?_
          refine lv_sipush (v := 200) hx hb dX8_by_46 (by decide) ?_
          refine lv_iload_n hx hb dX8_by_49 rfl (lv_at hl 1 rfl) ?_
          refine lv_imul hx hb dX8_by_50 ?_
          refine lv_iload_n hx hb dX8_by_51 rfl (lv_at hl 2 rfl) ?_
          refine lv_iadd hx hb dX8_by_52 ?_
          obtain ⟨hi_18, h⟩ := fb_ck_s h
          refine M_l25 cx hH hi_18 dX8_by_53 ?_
          obtain ⟨rfl, rfl⟩ := Prod.mk.inj (Option.some.inj h)
          exact fb_iret (wd := wM cI cZ a) cx rfl hH dX8_by_54
        · replace h := fb_in c_17 h
          refine lv_iconst (v := 0) hx hb dX8_by_38 (by decide) ?_
          refine lv_goto (tgt := 54) hx hb dX8_by_39 (by decide) ?_
          obtain ⟨rfl, rfl⟩ := Prod.mk.inj (Option.some.inj h)
          exact fb_iret (wd := wM cI cZ a) cx rfl hH dX8_by_54
set_option maxHeartbeats 4000000 in
set_option maxRecDepth 100000 in
theorem ctX8_led (l : Launch) (D : va_G) (cI cZ : ClassId) (a : Nat → Nat) {S : Sg} {x1 : Int32} {r : Int32} {S9 : Sg} (h : pX8_led S x1 = some (r, S9)) : CTi l D cI cZ (wM cI cZ a) yX8_led cX8_led 4 (some .int) 0 [.ref (a 0), .int x1] S r S9 := by
  refine fb_starti (by decide) (Nat.le_of_ble_eq_true rfl) (fun p e s m args below meth c ls cx hH hl => ?_)
  obtain ⟨hx, hb, -⟩ := id cx
  have hl : lv_has ls 4 [(0, .ref (a 0)), (1, .int x1)] := hl
  have hL9 : ∀ (n : Nat), ∀ (T : Sg) (x1 x2 x3 : Int32) (H : Heap) (locs : List Loc) (ls : Array Slot), pX8_led_l9 n T x1 x2 x3 = some (r, S9) → HB D (wM cI cZ a S) (wM cI cZ a T) s H locs → lv_has ls 4 [(0, .ref (a 0)), (1, .int x1), (2, .int x2), (3, .int x3)] → W p l e (rmk 0) s m args below meth c H locs 0 0 (Ei D cI cZ (wM cI cZ a) S r S9 below args s) (F0 m 9 ls []) := by
    intro n9
    induction n9 with
    | zero => intro T x1 x2 x3 H locs ls h hH hl; simp [pX8_led_l9] at h
    | succ n9 ih9 =>
      intro T x1 x2 x3 H locs ls h hH hl
      rw [pX8_led_l9] at h
      refine lv_iload_n hx hb dX8_led_9 rfl (lv_at hl 3 rfl) ?_
      refine lv_aload_n hx hb dX8_led_10 rfl (lv_at hl 0 rfl) ?_
      refine M_g10 cx hH lkX8_139 dX8_led_11 ?_
      refine lv_icmp_ge (tgt := 46) hx hb dX8_led_14 (by decide) (fun c_12 => ?_) (fun c_12 => ?_)
      · replace h := fb_ip c_12 h
        refine lv_iload_n hx hb dX8_led_46 rfl (lv_at hl 2 rfl) ?_
        obtain ⟨rfl, rfl⟩ := Prod.mk.inj (Option.some.inj h)
        exact fb_iret (wd := wM cI cZ a) cx rfl hH dX8_led_47
      · replace h := fb_in c_12 h
        refine lv_iload_n hx hb dX8_led_17 rfl (lv_at hl 2 rfl) ?_
        refine lv_aload_n hx hb dX8_led_18 rfl (lv_at hl 0 rfl) ?_
        refine M_ra14 cx hH lkX8_62 dX8_led_19 ?_
        refine lv_iload_n hx hb dX8_led_22 rfl (lv_at hl 3 rfl) ?_
        obtain ⟨hi_13, h⟩ := fb_ck_s h
        refine M_l14 cx hH hi_13 dX8_led_23 ?_
        refine lv_iload_n hx hb dX8_led_24 rfl (lv_at hl 1 rfl) ?_
        refine lv_icmp_ne (tgt := 37) hx hb dX8_led_25 (by decide) (fun c_14 => ?_) (fun c_14 => ?_)
        · replace h := fb_in c_14 h
          refine lv_iconst (v := 0) hx hb dX8_led_37 (by decide) ?_
          refine lv_iadd hx hb dX8_led_38 ?_
          obtain ⟨x2_15, ex2_15, h⟩ := fb_vl_s h
          refine fb_top ex2_15 ?_
          refine lv_istore_n (lv' := [(2, .int x2_15), (0, .ref (a 0)), (1, .int x1), (3, .int x3)]) hx hb dX8_led_39 rfl hl (by decide) rfl (fun ls hl => ?_)
          obtain ⟨x3_16, ex3_16, h⟩ := fb_vl_s h
          refine lv_iinc (v := x3_16) (lv' := [(3, .int x3_16), (2, .int x2_15), (0, .ref (a 0)), (1, .int x1)]) hx hb dX8_led_40 hl (k := 3) rfl (by rw [ex3_16]; rfl) (by decide) rfl (fun ls hl => ?_)
          refine lv_goto (tgt := 9) hx hb dX8_led_43 (by decide) ?_
          exact ih9 _ _ _ _ _ _ _ h hH (lv_sub hl [2, 3, 1, 0] rfl)
        · replace h := fb_ip c_14 h
          refine lv_aload_n hx hb dX8_led_28 rfl (lv_at hl 0 rfl) ?_
          refine M_ra26 cx hH lkX8_98 dX8_led_29 ?_
          refine lv_iload_n hx hb dX8_led_32 rfl (lv_at hl 3 rfl) ?_
          obtain ⟨hi_17, h⟩ := fb_ck_s h
          refine M_l26 cx hH hi_17 dX8_led_33 ?_
          refine lv_goto (tgt := 38) hx hb dX8_led_34 (by decide) ?_
          refine lv_iadd hx hb dX8_led_38 ?_
          obtain ⟨x2_18, ex2_18, h⟩ := fb_vl_s h
          refine fb_top ex2_18 ?_
          refine lv_istore_n (lv' := [(2, .int x2_18), (0, .ref (a 0)), (1, .int x1), (3, .int x3)]) hx hb dX8_led_39 rfl hl (by decide) rfl (fun ls hl => ?_)
          obtain ⟨x3_19, ex3_19, h⟩ := fb_vl_s h
          refine lv_iinc (v := x3_19) (lv' := [(3, .int x3_19), (2, .int x2_18), (0, .ref (a 0)), (1, .int x1)]) hx hb dX8_led_40 hl (k := 3) rfl (by rw [ex3_19]; rfl) (by decide) rfl (fun ls hl => ?_)
          refine lv_goto (tgt := 9) hx hb dX8_led_43 (by decide) ?_
          exact ih9 _ _ _ _ _ _ _ h hH (lv_sub hl [2, 3, 1, 0] rfl)
  unfold pX8_led at h
  refine lv_aload_n hx hb dX8_led_0 rfl (lv_at hl 0 rfl) ?_
  refine lv_iconst (v := 0) hx hb dX8_led_1 (by decide) ?_
  obtain ⟨S_9, eS_9, h⟩ := fb_st_s h
  refine M_p0 cx hH lkX8_1 dX8_led_2 (fun H locs hH => ?_)
  rw [← eS_9] at hH
  refine lv_iconst (v := 0) hx hb dX8_led_5 (by decide) ?_
  obtain ⟨x2_10, ex2_10, h⟩ := fb_vl_s h
  refine fb_top ex2_10 ?_
  refine lv_istore_n (lv' := [(2, .int x2_10), (0, .ref (a 0)), (1, .int x1)]) hx hb dX8_led_6 rfl hl (by decide) rfl (fun ls hl => ?_)
  refine lv_iconst (v := 0) hx hb dX8_led_7 (by decide) ?_
  obtain ⟨x3_11, ex3_11, h⟩ := fb_vl_s h
  refine fb_top ex3_11 ?_
  refine lv_istore_n (lv' := [(3, .int x3_11), (2, .int x2_10), (0, .ref (a 0)), (1, .int x1)]) hx hb dX8_led_8 rfl hl (by decide) rfl (fun ls hl => ?_)
  exact hL9 5000 _ _ _ _ _ _ _ h hH (lv_sub hl [2, 3, 1, 0] rfl)
set_option maxHeartbeats 4000000 in
set_option maxRecDepth 100000 in
theorem ctX8_shred (l : Launch) (D : va_G) (cI cZ : ClassId) (a : Nat → Nat) {S : Sg} {r : Int32} {S9 : Sg} (h : pX8_shred S = some (r, S9)) : CTi l D cI cZ (wM cI cZ a) yX8_shred cX8_shred 2 (some .int) 0 [.ref (a 0)] S r S9 := by
  refine fb_starti (by decide) (Nat.le_of_ble_eq_true rfl) (fun p e s m args below meth c ls cx hH hl => ?_)
  obtain ⟨hx, hb, -⟩ := id cx
  have hl : lv_has ls 2 [(0, .ref (a 0))] := hl
  unfold pX8_shred at h
  refine lv_aload_n hx hb dX8_shred_0 rfl (lv_at hl 0 rfl) ?_
  refine lv_iconst (v := 0) hx hb dX8_shred_1 (by decide) ?_
  obtain ⟨S_1, eS_1, h⟩ := fb_st_s h
  refine M_p0 cx hH lkX8_1 dX8_shred_2 (fun H locs hH => ?_)
  rw [← eS_1] at hH
  refine lv_aload_n hx hb dX8_shred_5 rfl (lv_at hl 0 rfl) ?_
  refine M_g7 cx hH lkX8_172 dX8_shred_6 ?_
  obtain ⟨x1_2, ex1_2, h⟩ := fb_vl_s h
  refine fb_top ex1_2 ?_
  refine lv_istore_n (lv' := [(1, .int x1_2), (0, .ref (a 0))]) hx hb dX8_shred_9 rfl hl (by decide) rfl (fun ls hl => ?_)
  refine lv_aload_n hx hb dX8_shred_10 rfl (lv_at hl 1 rfl) ?_
  refine lv_iconst (v := 0) hx hb dX8_shred_11 (by decide) ?_
  obtain ⟨S_3, eS_3, h⟩ := fb_st_s h
  refine M_p7 cx hH lkX8_172 dX8_shred_12 (fun H locs hH => ?_)
  rw [← eS_3] at hH
  refine lv_iload_n hx hb dX8_shred_15 rfl (lv_at hl 0 rfl) ?_
  obtain ⟨rfl, rfl⟩ := Prod.mk.inj (Option.some.inj h)
  exact fb_iret (wd := wM cI cZ a) cx rfl hH dX8_shred_16
set_option maxHeartbeats 4000000 in
set_option maxRecDepth 100000 in
theorem ctX8_count (l : Launch) (D : va_G) (cI cZ : ClassId) (a : Nat → Nat) {S : Sg} {x1 : Int32} {r : Int32} {S9 : Sg} (h : pX8_count S x1 = some (r, S9)) : CTi l D cI cZ (wM cI cZ a) yX8_count cX8_count 4 (some .int) 1 [.ref (a 0), .int x1] S r S9 := by
  refine fb_starti (by decide) (Nat.le_of_ble_eq_true rfl) (fun p e s m args below meth c ls cx hH hl => ?_)
  obtain ⟨hx, hb, -⟩ := id cx
  have hl : lv_has ls 4 [(0, .ref (a 0)), (1, .int x1)] := hl
  have hL136 : ∀ (n : Nat), ∀ (T : Sg) (x2 x3 : Int32) (H : Heap) (locs : List Loc) (ls : Array Slot), pX8_count_l136 n T x2 x3 = some (r, S9) → HB D (wM cI cZ a S) (wM cI cZ a T) s H locs → lv_has ls 4 [(0, .ref (a 0)), (2, .int x2), (3, .int x3)] → W p l e (rmk 1) s m args below meth c H locs 0 0 (Ei D cI cZ (wM cI cZ a) S r S9 below args s) (F0 m 136 ls []) := by
    intro n136
    induction n136 with
    | zero => intro T x2 x3 H locs ls h hH hl; simp [pX8_count_l136] at h
    | succ n136 ih136 =>
      intro T x2 x3 H locs ls h hH hl
      rw [pX8_count_l136] at h
      refine lv_iload_n hx hb dX8_count_136 rfl (lv_at hl 2 rfl) ?_
      refine lv_aload_n hx hb dX8_count_137 rfl (lv_at hl 0 rfl) ?_
      refine M_g11 cx hH lkX8_196 dX8_count_138 ?_
      refine lv_icmp_ge (tgt := 167) hx hb dX8_count_141 (by decide) (fun c_31 => ?_) (fun c_31 => ?_)
      · replace h := fb_ip c_31 h
        refine lv_iload_n hx hb dX8_count_167 rfl (lv_at hl 1 rfl) ?_
        obtain ⟨rfl, rfl⟩ := Prod.mk.inj (Option.some.inj h)
        exact fb_iret (wd := wM cI cZ a) cx rfl hH dX8_count_168
      · replace h := fb_in c_31 h
        refine lv_iload_n hx hb dX8_count_144 rfl (lv_at hl 1 rfl) ?_
        refine lv_aload_n hx hb dX8_count_145 rfl (lv_at hl 0 rfl) ?_
        refine M_ra27 cx hH lkX8_101 dX8_count_146 ?_
        refine lv_iload_n hx hb dX8_count_149 rfl (lv_at hl 2 rfl) ?_
        obtain ⟨hi_32, h⟩ := fb_ck_s h
        refine M_l27 cx hH hi_32 dX8_count_150 ?_
        refine lv_if_eq (tgt := 158) hx hb dX8_count_151 (by decide) (fun c_33 => ?_) (fun c_33 => ?_)
        · replace h := fb_ip c_33 h
          refine lv_iconst (v := 0) hx hb dX8_count_158 (by decide) ?_
          refine lv_iadd hx hb dX8_count_159 ?_
          obtain ⟨x2_34, ex2_34, h⟩ := fb_vl_s h
          refine fb_top ex2_34 ?_
          refine lv_istore_n (lv' := [(2, .int x2_34), (0, .ref (a 0)), (3, .int x3)]) hx hb dX8_count_160 rfl hl (by decide) rfl (fun ls hl => ?_)
          obtain ⟨x3_35, ex3_35, h⟩ := fb_vl_s h
          refine lv_iinc (v := x3_35) (lv' := [(3, .int x3_35), (2, .int x2_34), (0, .ref (a 0))]) hx hb dX8_count_161 hl (k := 2) rfl (by rw [ex3_35]; rfl) (by decide) rfl (fun ls hl => ?_)
          refine lv_goto (tgt := 136) hx hb dX8_count_164 (by decide) ?_
          exact ih136 _ _ _ _ _ _ h hH (lv_sub hl [2, 1, 0] rfl)
        · replace h := fb_in c_33 h
          refine lv_iconst (v := 1) hx hb dX8_count_154 (by decide) ?_
          refine lv_goto (tgt := 159) hx hb dX8_count_155 (by decide) ?_
          refine lv_iadd hx hb dX8_count_159 ?_
          obtain ⟨x2_36, ex2_36, h⟩ := fb_vl_s h
          refine fb_top ex2_36 ?_
          refine lv_istore_n (lv' := [(2, .int x2_36), (0, .ref (a 0)), (3, .int x3)]) hx hb dX8_count_160 rfl hl (by decide) rfl (fun ls hl => ?_)
          obtain ⟨x3_37, ex3_37, h⟩ := fb_vl_s h
          refine lv_iinc (v := x3_37) (lv' := [(3, .int x3_37), (2, .int x2_36), (0, .ref (a 0))]) hx hb dX8_count_161 hl (k := 2) rfl (by rw [ex3_37]; rfl) (by decide) rfl (fun ls hl => ?_)
          refine lv_goto (tgt := 136) hx hb dX8_count_164 (by decide) ?_
          exact ih136 _ _ _ _ _ _ h hH (lv_sub hl [2, 1, 0] rfl)
  have hL96 : ∀ (n : Nat), ∀ (T : Sg) (x2 x3 : Int32) (H : Heap) (locs : List Loc) (ls : Array Slot), pX8_count_l96 n T x2 x3 = some (r, S9) → HB D (wM cI cZ a S) (wM cI cZ a T) s H locs → lv_has ls 4 [(0, .ref (a 0)), (2, .int x2), (3, .int x3)] → W p l e (rmk 1) s m args below meth c H locs 0 0 (Ei D cI cZ (wM cI cZ a) S r S9 below args s) (F0 m 96 ls []) := by
    intro n96
    induction n96 with
    | zero => intro T x2 x3 H locs ls h hH hl; simp [pX8_count_l96] at h
    | succ n96 ih96 =>
      intro T x2 x3 H locs ls h hH hl
      rw [pX8_count_l96] at h
      refine lv_iload_n hx hb dX8_count_96 rfl (lv_at hl 2 rfl) ?_
      refine lv_bipush (v := 24) hx hb dX8_count_97 (by decide) ?_
      refine lv_icmp_ge (tgt := 127) hx hb dX8_count_99 (by decide) (fun c_38 => ?_) (fun c_38 => ?_)
      · replace h := fb_ip c_38 h
        refine lv_iload_n hx hb dX8_count_127 rfl (lv_at hl 1 rfl) ?_
        obtain ⟨rfl, rfl⟩ := Prod.mk.inj (Option.some.inj h)
        exact fb_iret (wd := wM cI cZ a) cx rfl hH dX8_count_128
      · replace h := fb_in c_38 h
        refine lv_iload_n hx hb dX8_count_102 rfl (lv_at hl 1 rfl) ?_
        refine lv_aload_n hx hb dX8_count_103 rfl (lv_at hl 0 rfl) ?_
        refine M_ra17 cx hH lkX8_71 dX8_count_104 ?_
        refine lv_iload_n hx hb dX8_count_107 rfl (lv_at hl 2 rfl) ?_
        obtain ⟨hi_39, h⟩ := fb_ck_s h
        refine M_l17 cx hH hi_39 dX8_count_108 ?_
        refine lv_bipush (v := (-2)) hx hb dX8_count_109 (by decide) ?_
        refine lv_icmp_eq (tgt := 118) hx hb dX8_count_111 (by decide) (fun c_40 => ?_) (fun c_40 => ?_)
        · replace h := fb_ip c_40 h
          refine lv_iconst (v := 0) hx hb dX8_count_118 (by decide) ?_
          refine lv_iadd hx hb dX8_count_119 ?_
          obtain ⟨x2_41, ex2_41, h⟩ := fb_vl_s h
          refine fb_top ex2_41 ?_
          refine lv_istore_n (lv' := [(2, .int x2_41), (0, .ref (a 0)), (3, .int x3)]) hx hb dX8_count_120 rfl hl (by decide) rfl (fun ls hl => ?_)
          obtain ⟨x3_42, ex3_42, h⟩ := fb_vl_s h
          refine lv_iinc (v := x3_42) (lv' := [(3, .int x3_42), (2, .int x2_41), (0, .ref (a 0))]) hx hb dX8_count_121 hl (k := 2) rfl (by rw [ex3_42]; rfl) (by decide) rfl (fun ls hl => ?_)
          refine lv_goto (tgt := 96) hx hb dX8_count_124 (by decide) ?_
          exact ih96 _ _ _ _ _ _ h hH (lv_sub hl [2, 1, 0] rfl)
        · replace h := fb_in c_40 h
          refine lv_iconst (v := 1) hx hb dX8_count_114 (by decide) ?_
          refine lv_goto (tgt := 119) hx hb dX8_count_115 (by decide) ?_
          refine lv_iadd hx hb dX8_count_119 ?_
          obtain ⟨x2_43, ex2_43, h⟩ := fb_vl_s h
          refine fb_top ex2_43 ?_
          refine lv_istore_n (lv' := [(2, .int x2_43), (0, .ref (a 0)), (3, .int x3)]) hx hb dX8_count_120 rfl hl (by decide) rfl (fun ls hl => ?_)
          obtain ⟨x3_44, ex3_44, h⟩ := fb_vl_s h
          refine lv_iinc (v := x3_44) (lv' := [(3, .int x3_44), (2, .int x2_43), (0, .ref (a 0))]) hx hb dX8_count_121 hl (k := 2) rfl (by rw [ex3_44]; rfl) (by decide) rfl (fun ls hl => ?_)
          refine lv_goto (tgt := 96) hx hb dX8_count_124 (by decide) ?_
          exact ih96 _ _ _ _ _ _ h hH (lv_sub hl [2, 1, 0] rfl)
  unfold pX8_count at h
  refine lv_aload_n hx hb dX8_count_0 rfl (lv_at hl 0 rfl) ?_
  refine lv_iconst (v := 0) hx hb dX8_count_1 (by decide) ?_
  obtain ⟨S_15, eS_15, h⟩ := fb_st_s h
  refine M_p0 cx hH lkX8_1 dX8_count_2 (fun H locs hH => ?_)
  rw [← eS_15] at hH
  refine lv_iconst (v := 0) hx hb dX8_count_5 (by decide) ?_
  obtain ⟨x2_16, ex2_16, h⟩ := fb_vl_s h
  refine fb_top ex2_16 ?_
  refine lv_istore_n (lv' := [(2, .int x2_16), (0, .ref (a 0)), (1, .int x1)]) hx hb dX8_count_6 rfl hl (by decide) rfl (fun ls hl => ?_)
  refine lv_iload_n hx hb dX8_count_7 rfl (lv_at hl 2 rfl) ?_
  by_cases c_17 : x1 = 0
  · replace h := fb_ip c_17 h
    refine lv_tableIn (off := 56) (tgt := 64) hx hb dX8_count_8 (by rw [c_17]; decide) (by rw [c_17]; decide) (by rw [c_17]; decide) (by decide) ?_
    refine lv_aload_n hx hb dX8_count_64 rfl (lv_at hl 1 rfl) ?_
    refine M_g2 cx hH lkX8_108 dX8_count_65 ?_
    obtain ⟨rfl, rfl⟩ := Prod.mk.inj (Option.some.inj h)
    exact fb_iret (wd := wM cI cZ a) cx rfl hH dX8_count_68
  replace h := fb_in c_17 h
  by_cases c_18 : x1 = 1
  · replace h := fb_ip c_18 h
    refine lv_tableIn (off := 61) (tgt := 69) hx hb dX8_count_8 (by rw [c_18]; decide) (by rw [c_18]; decide) (by rw [c_18]; decide) (by decide) ?_
    refine lv_aload_n hx hb dX8_count_69 rfl (lv_at hl 1 rfl) ?_
    refine M_g3 cx hH lkX8_111 dX8_count_70 ?_
    obtain ⟨rfl, rfl⟩ := Prod.mk.inj (Option.some.inj h)
    exact fb_iret (wd := wM cI cZ a) cx rfl hH dX8_count_73
  replace h := fb_in c_18 h
  by_cases c_19 : x1 = 2
  · replace h := fb_ip c_19 h
    refine lv_tableIn (off := 66) (tgt := 74) hx hb dX8_count_8 (by rw [c_19]; decide) (by rw [c_19]; decide) (by rw [c_19]; decide) (by decide) ?_
    refine lv_aload_n hx hb dX8_count_74 rfl (lv_at hl 1 rfl) ?_
    refine M_g8 cx hH lkX8_142 dX8_count_75 ?_
    obtain ⟨rfl, rfl⟩ := Prod.mk.inj (Option.some.inj h)
    exact fb_iret (wd := wM cI cZ a) cx rfl hH dX8_count_78
  replace h := fb_in c_19 h
  by_cases c_20 : x1 = 3
  · replace h := fb_ip c_20 h
    refine lv_tableIn (off := 71) (tgt := 79) hx hb dX8_count_8 (by rw [c_20]; decide) (by rw [c_20]; decide) (by rw [c_20]; decide) (by decide) ?_
    refine lv_aload_n hx hb dX8_count_79 rfl (lv_at hl 1 rfl) ?_
    obtain ⟨r_22, hc_21, h⟩ := fb_bd_s h
    refine fb_vi (wd := wM cI cZ a) (As := []) (rest := []) cx hH mwX8_belt (ctX8_belt l D cI cZ a hc_21) (M_rc0 cx hH) mlX8_145 (by decide) rfl hl.1 (Nat.le_of_ble_eq_true rfl) rfl dX8_count_80 (fun H locs hH => ?_)
    obtain ⟨rfl, rfl⟩ := Prod.mk.inj (Option.some.inj h)
    exact fb_iret (wd := wM cI cZ a) cx rfl hH dX8_count_83
  replace h := fb_in c_20 h
  by_cases c_23 : x1 = 4
  · replace h := fb_ip c_23 h
    refine lv_tableIn (off := 76) (tgt := 84) hx hb dX8_count_8 (by rw [c_23]; decide) (by rw [c_23]; decide) (by rw [c_23]; decide) (by decide) ?_
    refine lv_aload_n hx hb dX8_count_84 rfl (lv_at hl 1 rfl) ?_
    refine M_g9 cx hH lkX8_153 dX8_count_85 ?_
    obtain ⟨rfl, rfl⟩ := Prod.mk.inj (Option.some.inj h)
    exact fb_iret (wd := wM cI cZ a) cx rfl hH dX8_count_88
  replace h := fb_in c_23 h
  by_cases c_24 : x1 = 5
  · replace h := fb_ip c_24 h
    refine lv_tableIn (off := 81) (tgt := 89) hx hb dX8_count_8 (by rw [c_24]; decide) (by rw [c_24]; decide) (by rw [c_24]; decide) (by decide) ?_
    refine lv_aload_n hx hb dX8_count_89 rfl (lv_at hl 1 rfl) ?_
    refine M_g10 cx hH lkX8_139 dX8_count_90 ?_
    obtain ⟨rfl, rfl⟩ := Prod.mk.inj (Option.some.inj h)
    exact fb_iret (wd := wM cI cZ a) cx rfl hH dX8_count_93
  replace h := fb_in c_24 h
  by_cases c_25 : x1 = 6
  · replace h := fb_ip c_25 h
    refine lv_tableIn (off := 86) (tgt := 94) hx hb dX8_count_8 (by rw [c_25]; decide) (by rw [c_25]; decide) (by rw [c_25]; decide) (by decide) ?_
    refine lv_iconst (v := 0) hx hb dX8_count_94 (by decide) ?_
    obtain ⟨x3_26, ex3_26, h⟩ := fb_vl_s h
    refine fb_top ex3_26 ?_
    refine lv_istore_n (lv' := [(3, .int x3_26), (2, .int x2_16), (0, .ref (a 0)), (1, .int x1)]) hx hb dX8_count_95 rfl hl (by decide) rfl (fun ls hl => ?_)
    exact hL96 5000 _ _ _ _ _ _ h hH (lv_sub hl [2, 1, 0] rfl)
  replace h := fb_in c_25 h
  by_cases c_27 : x1 = 7
  · replace h := fb_ip c_27 h
    refine lv_tableIn (off := 121) (tgt := 129) hx hb dX8_count_8 (by rw [c_27]; decide) (by rw [c_27]; decide) (by rw [c_27]; decide) (by decide) ?_
    refine lv_aload_n hx hb dX8_count_129 rfl (lv_at hl 1 rfl) ?_
    refine M_g11 cx hH lkX8_196 dX8_count_130 ?_
    obtain ⟨rfl, rfl⟩ := Prod.mk.inj (Option.some.inj h)
    exact fb_iret (wd := wM cI cZ a) cx rfl hH dX8_count_133
  replace h := fb_in c_27 h
  by_cases c_28 : x1 = 8
  · replace h := fb_ip c_28 h
    refine lv_tableIn (off := 126) (tgt := 134) hx hb dX8_count_8 (by rw [c_28]; decide) (by rw [c_28]; decide) (by rw [c_28]; decide) (by decide) ?_
    refine lv_iconst (v := 0) hx hb dX8_count_134 (by decide) ?_
    obtain ⟨x3_29, ex3_29, h⟩ := fb_vl_s h
    refine fb_top ex3_29 ?_
    refine lv_istore_n (lv' := [(3, .int x3_29), (2, .int x2_16), (0, .ref (a 0)), (1, .int x1)]) hx hb dX8_count_135 rfl hl (by decide) rfl (fun ls hl => ?_)
    exact hL136 5000 _ _ _ _ _ _ h hH (lv_sub hl [2, 1, 0] rfl)
  replace h := fb_in c_28 h
  by_cases c_30 : x1 = 9
  · replace h := fb_ip c_30 h
    refine lv_tableIn (off := 161) (tgt := 169) hx hb dX8_count_8 (by rw [c_30]; decide) (by rw [c_30]; decide) (by rw [c_30]; decide) (by decide) ?_
    refine lv_aload_n hx hb dX8_count_169 rfl (lv_at hl 1 rfl) ?_
    refine M_g6 cx hH lkX8_175 dX8_count_170 ?_
    obtain ⟨rfl, rfl⟩ := Prod.mk.inj (Option.some.inj h)
    exact fb_iret (wd := wM cI cZ a) cx rfl hH dX8_count_173
  replace h := fb_in c_30 h
  have qc_17 := lv_neT c_17 (a := 0) (by decide)
  have qc_18 := lv_neT c_18 (a := 1) (by decide)
  have qc_19 := lv_neT c_19 (a := 2) (by decide)
  have qc_20 := lv_neT c_20 (a := 3) (by decide)
  have qc_23 := lv_neT c_23 (a := 4) (by decide)
  have qc_24 := lv_neT c_24 (a := 5) (by decide)
  have qc_25 := lv_neT c_25 (a := 6) (by decide)
  have qc_27 := lv_neT c_27 (a := 7) (by decide)
  have qc_28 := lv_neT c_28 (a := 8) (by decide)
  have qc_30 := lv_neT c_30 (a := 9) (by decide)
  refine lv_tableOut (tgt := 174) hx hb dX8_count_8 (by omega) (by decide) ?_
  refine lv_iconst (v := (-1)) hx hb dX8_count_174 (by decide) ?_
  obtain ⟨rfl, rfl⟩ := Prod.mk.inj (Option.some.inj h)
  exact fb_iret (wd := wM cI cZ a) cx rfl hH dX8_count_175
set_option maxHeartbeats 4000000 in
set_option maxRecDepth 100000 in
theorem ctX8_trouble (l : Launch) (D : va_G) (cI cZ : ClassId) (a : Nat → Nat) {S : Sg} {r : Int32} {S9 : Sg} (h : pX8_trouble S = some (r, S9)) : CTi l D cI cZ (wM cI cZ a) yX8_trouble cX8_trouble 1 (some .int) 0 [.ref (a 0)] S r S9 := by
  refine fb_starti (by decide) (Nat.le_of_ble_eq_true rfl) (fun p e s m args below meth c ls cx hH hl => ?_)
  obtain ⟨hx, hb, -⟩ := id cx
  have hl : lv_has ls 1 [(0, .ref (a 0))] := hl
  unfold pX8_trouble at h
  refine lv_aload_n hx hb dX8_trouble_0 rfl (lv_at hl 0 rfl) ?_
  refine lv_iconst (v := 0) hx hb dX8_trouble_1 (by decide) ?_
  obtain ⟨S_1, eS_1, h⟩ := fb_st_s h
  refine M_p0 cx hH lkX8_1 dX8_trouble_2 (fun H locs hH => ?_)
  rw [← eS_1] at hH
  refine lv_aload_n hx hb dX8_trouble_5 rfl (lv_at hl 0 rfl) ?_
  refine M_g1 cx hH lkX8_7 dX8_trouble_6 ?_
  obtain ⟨rfl, rfl⟩ := Prod.mk.inj (Option.some.inj h)
  exact fb_iret (wd := wM cI cZ a) cx rfl hH dX8_trouble_9
