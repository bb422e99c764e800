set_option maxHeartbeats 4000000 in
set_option maxRecDepth 100000 in
theorem ctX3_has (l : Launch) (D : va_G) (cI cZ : ClassId) (b : Nat → Nat) {S : Sg} {x1 : Int32} {r : Int32} (h : pX3_has S x1 = some r) : CTi l D cI cZ (wF cI cZ b) yX3_has cX3_has 2 (some .boolean) 0 [.ref (b 1), .int x1] S r S := by
  refine fb_starti (by decide) (Nat.le_of_ble_eq_true rfl) (fun p e s m args below meth c ls cx hH hl => ?_)
  obtain ⟨hx, hb, -⟩ := id cx
  have hl : lv_has ls 2 [(0, .ref (b 1)), (1, .int x1)] := hl
  unfold pX3_has at h
  refine lv_iload_n hx hb dX3_has_0 rfl (lv_at hl 1 rfl) ?_
  refine lv_if_lt (tgt := 16) hx hb dX3_has_1 (by decide) (fun c_1 => ?_) (fun c_1 => ?_)
  · replace h := fb_ip c_1 h
    refine lv_iconst (v := 0) hx hb dX3_has_16 (by decide) ?_
    obtain ⟨hn, h⟩ := fb_cb_s h
    obtain rfl := Option.some.inj h
    exact fb_zret (wd := wF cI cZ b) cx rfl hH hn dX3_has_17
  · replace h := fb_in c_1 h
    refine lv_iload_n hx hb dX3_has_4 rfl (lv_at hl 1 rfl) ?_
    refine lv_aload_n hx hb dX3_has_5 rfl (lv_at hl 0 rfl) ?_
    refine F_g2 cx hH lkX3_27 dX3_has_6 ?_
    refine lv_icmp_ge (tgt := 16) hx hb dX3_has_9 (by decide) (fun c_2 => ?_) (fun c_2 => ?_)
    · replace h := fb_ip c_2 h
      refine lv_iconst (v := 0) hx hb dX3_has_16 (by decide) ?_
      obtain ⟨hn, h⟩ := fb_cb_s h
      obtain rfl := Option.some.inj h
      exact fb_zret (wd := wF cI cZ b) cx rfl hH hn dX3_has_17
    · replace h := fb_in c_2 h
      refine lv_iconst (v := 1) hx hb dX3_has_12 (by decide) ?_
      refine lv_goto (tgt := 17) hx hb dX3_has_13 (by decide) ?_
      obtain ⟨hn, h⟩ := fb_cb_s h
      obtain rfl := Option.some.inj h
      exact fb_zret (wd := wF cI cZ b) cx rfl hH hn dX3_has_17
set_option maxHeartbeats 4000000 in
set_option maxRecDepth 100000 in
theorem ctX3_add (l : Launch) (D : va_G) (cI cZ : ClassId) (b : Nat → Nat) {S : Sg} {x1 x2 : Int32} {r : Int32} {S9 : Sg} (h : pX3_add S x1 x2 = some (r, S9)) : CTi l D cI cZ (wF cI cZ b) yX3_add cX3_add 3 (some .int) 0 [.ref (b 1), .int x1, .int x2] S r S9 := by
  refine fb_starti (by decide) (Nat.le_of_ble_eq_true rfl) (fun p e s m args below meth c ls cx hH hl => ?_)
  obtain ⟨hx, hb, -⟩ := id cx
  have hl : lv_has ls 3 [(0, .ref (b 1)), (1, .int x1), (2, .int x2)] := hl
  unfold pX3_add at h
  refine lv_aload_n hx hb dX3_add_0 rfl (lv_at hl 0 rfl) ?_
  refine F_ra8 cx hH lkX3_9 dX3_add_1 ?_
  refine lv_aload_n hx hb dX3_add_4 rfl (lv_at hl 0 rfl) ?_
  refine F_g2 cx hH lkX3_27 dX3_add_5 ?_
  refine lv_iload_n hx hb dX3_add_8 rfl (lv_at hl 1 rfl) ?_
  obtain ⟨hi_2, h⟩ := fb_ck_s h
  obtain ⟨S_1, eS_1, h⟩ := fb_st_s h
  refine F_s8 cx hH hi_2 dX3_add_9 (fun H locs hH => ?_)
  rw [← eS_1] at hH
  refine lv_aload_n hx hb dX3_add_10 rfl (lv_at hl 0 rfl) ?_
  refine F_ra9 cx hH lkX3_15 dX3_add_11 ?_
  refine lv_aload_n hx hb dX3_add_14 rfl (lv_at hl 0 rfl) ?_
  refine F_g2 cx hH lkX3_27 dX3_add_15 ?_
  refine lv_iload_n hx hb dX3_add_18 rfl (lv_at hl 2 rfl) ?_
  obtain ⟨hi_4, h⟩ := fb_ck_s h
  obtain ⟨S_3, eS_3, h⟩ := fb_st_s h
  refine F_s9 cx hH hi_4 dX3_add_19 (fun H locs hH => ?_)
  rw [← eS_3] at hH
  refine lv_aload_n hx hb dX3_add_20 rfl (lv_at hl 0 rfl) ?_
  refine lv_dup hx hb dX3_add_21 rfl ?_
  refine F_g2 cx hH lkX3_27 dX3_add_22 ?_
  refine lv_iconst (v := 1) hx hb dX3_add_25 (by decide) ?_
  refine lv_iadd hx hb dX3_add_26 ?_
  obtain ⟨S_5, eS_5, h⟩ := fb_st_s h
  refine F_p2 cx hH lkX3_27 dX3_add_27 (fun H locs hH => ?_)
  rw [← eS_5] at hH
  refine lv_aload_n hx hb dX3_add_30 rfl (lv_at hl 0 rfl) ?_
  refine F_g2 cx hH lkX3_27 dX3_add_31 ?_
  refine lv_iconst (v := 1) hx hb dX3_add_34 (by decide) ?_
  refine lv_isub hx hb dX3_add_35 ?_
  obtain ⟨rfl, rfl⟩ := Prod.mk.inj (Option.some.inj h)
  exact fb_iret (wd := wF cI cZ b) cx rfl hH dX3_add_36
set_option maxHeartbeats 4000000 in
set_option maxRecDepth 100000 in
theorem ctX3_setMixed (l : Launch) (D : va_G) (cI cZ : ClassId) (b : Nat → Nat) {S : Sg} {x1 x2 x3 : Int32} {S9 : Sg} (h : pX3_setMixed S x1 x2 x3 = some S9) : CTv l D cI cZ (wF cI cZ b) yX3_setMixed cX3_setMixed 4 0 [.ref (b 1), .int x1, .int x2, .int x3] S S9 := by
  refine fb_startv (by decide) (Nat.le_of_ble_eq_true rfl) (fun p e s m args below meth c ls cx hH hl => ?_)
  obtain ⟨hx, hb, -⟩ := id cx
  have hl : lv_has ls 4 [(0, .ref (b 1)), (1, .int x1), (2, .int x2), (3, .int x3)] := hl
  unfold pX3_setMixed at h
  refine lv_aload_n hx hb dX3_setMixed_0 rfl (lv_at hl 0 rfl) ?_
  refine F_ra10 cx hH lkX3_18 dX3_setMixed_1 ?_
  refine lv_iload_n hx hb dX3_setMixed_4 rfl (lv_at hl 1 rfl) ?_
  refine lv_iconst (v := 5) hx hb dX3_setMixed_5 (by decide) ?_
  refine lv_imul hx hb dX3_setMixed_6 ?_
  refine lv_iload_n hx hb dX3_setMixed_7 rfl (lv_at hl 2 rfl) ?_
  refine lv_iadd hx hb dX3_setMixed_8 ?_
  refine lv_iload_n hx hb dX3_setMixed_9 rfl (lv_at hl 3 rfl) ?_
  obtain ⟨hi_2, h⟩ := fb_ck_s h
  obtain ⟨S_1, eS_1, h⟩ := fb_st_s h
  refine F_s10 cx hH hi_2 dX3_setMixed_10 (fun H locs hH => ?_)
  rw [← eS_1] at hH
  obtain rfl := Option.some.inj h
  exact fb_vret (wd := wF cI cZ b) cx hH dX3_setMixed_11
set_option maxHeartbeats 4000000 in
set_option maxRecDepth 100000 in
theorem ctX3_mixedBetween (l : Launch) (D : va_G) (cI cZ : ClassId) (b : Nat → Nat) {S : Sg} {x1 x2 : Int32} {r : Int32} (h : pX3_mixedBetween S x1 x2 = some r) : CTi l D cI cZ (wF cI cZ b) yX3_mixedBetween cX3_mixedBetween 3 (some .int) 0 [.ref (b 1), .int x1, .int x2] S r S := by
  refine fb_starti (by decide) (Nat.le_of_ble_eq_true rfl) (fun p e s m args below meth c ls cx hH hl => ?_)
  obtain ⟨hx, hb, -⟩ := id cx
  have hl : lv_has ls 3 [(0, .ref (b 1)), (1, .int x1), (2, .int x2)] := hl
  unfold pX3_mixedBetween at h
  refine lv_aload_n hx hb dX3_mixedBetween_0 rfl (lv_at hl 0 rfl) ?_
  refine F_ra10 cx hH lkX3_18 dX3_mixedBetween_1 ?_
  refine lv_iload_n hx hb dX3_mixedBetween_4 rfl (lv_at hl 1 rfl) ?_
  refine lv_iconst (v := 5) hx hb dX3_mixedBetween_5 (by decide) ?_
  refine lv_imul hx hb dX3_mixedBetween_6 ?_
  refine lv_iload_n hx hb dX3_mixedBetween_7 rfl (lv_at hl 2 rfl) ?_
  refine lv_iadd hx hb dX3_mixedBetween_8 ?_
  obtain ⟨hi_1, h⟩ := fb_ck_s h
  refine F_l10 cx hH hi_1 dX3_mixedBetween_9 ?_
  obtain rfl := Option.some.inj h
  exact fb_iret (wd := wF cI cZ b) cx rfl hH dX3_mixedBetween_10
set_option maxHeartbeats 4000000 in
set_option maxRecDepth 100000 in
theorem ctX4_has (l : Launch) (D : va_G) (cI cZ : ClassId) (b : Nat → Nat) {S : Sg} {x1 : Int32} {r : Int32} (h : pX4_has S x1 = some r) : CTi l D cI cZ (wF cI cZ b) yX4_has cX4_has 2 (some .boolean) 0 [.ref (b 2), .int x1] S r S := by
  refine fb_starti (by decide) (Nat.le_of_ble_eq_true rfl) (fun p e s m args below meth c ls cx hH hl => ?_)
  obtain ⟨hx, hb, -⟩ := id cx
  have hl : lv_has ls 2 [(0, .ref (b 2)), (1, .int x1)] := hl
  unfold pX4_has at h
  refine lv_iload_n hx hb dX4_has_0 rfl (lv_at hl 1 rfl) ?_
  refine lv_if_lt (tgt := 16) hx hb dX4_has_1 (by decide) (fun c_1 => ?_) (fun c_1 => ?_)
  · replace h := fb_ip c_1 h
    refine lv_iconst (v := 0) hx hb dX4_has_16 (by decide) ?_
    obtain ⟨hn, h⟩ := fb_cb_s h
    obtain rfl := Option.some.inj h
    exact fb_zret (wd := wF cI cZ b) cx rfl hH hn dX4_has_17
  · replace h := fb_in c_1 h
    refine lv_iload_n hx hb dX4_has_4 rfl (lv_at hl 1 rfl) ?_
    refine lv_aload_n hx hb dX4_has_5 rfl (lv_at hl 0 rfl) ?_
    refine F_g3 cx hH lkX4_18 dX4_has_6 ?_
    refine lv_icmp_ge (tgt := 16) hx hb dX4_has_9 (by decide) (fun c_2 => ?_) (fun c_2 => ?_)
    · replace h := fb_ip c_2 h
      refine lv_iconst (v := 0) hx hb dX4_has_16 (by decide) ?_
      obtain ⟨hn, h⟩ := fb_cb_s h
      obtain rfl := Option.some.inj h
      exact fb_zret (wd := wF cI cZ b) cx rfl hH hn dX4_has_17
    · replace h := fb_in c_2 h
      refine lv_iconst (v := 1) hx hb dX4_has_12 (by decide) ?_
      refine lv_goto (tgt := 17) hx hb dX4_has_13 (by decide) ?_
      obtain ⟨hn, h⟩ := fb_cb_s h
      obtain rfl := Option.some.inj h
      exact fb_zret (wd := wF cI cZ b) cx rfl hH hn dX4_has_17
set_option maxHeartbeats 4000000 in
set_option maxRecDepth 100000 in
theorem ctX4_isTold (l : Launch) (D : va_G) (cI cZ : ClassId) (b : Nat → Nat) {S : Sg} {x1 : Int32} {r : Int32} (h : pX4_isTold S x1 = some r) : CTi l D cI cZ (wF cI cZ b) yX4_isTold cX4_isTold 3 (some .boolean) 0 [.ref (b 2), .int x1] S r S := by
  refine fb_starti (by decide) (Nat.le_of_ble_eq_true rfl) (fun p e s m args below meth c ls cx hH hl => ?_)
  obtain ⟨hx, hb, -⟩ := id cx
  have hl : lv_has ls 3 [(0, .ref (b 2)), (1, .int x1)] := hl
  have hL2 : ∀ (n : Nat), ∀ (x1 x2 : Int32) (H : Heap) (locs : List Loc) (ls : Array Slot), pX4_isTold_l2 S n x1 x2 = some r → HB D (wF cI cZ b S) (wF cI cZ b S) s H locs → lv_has ls 3 [(0, .ref (b 2)), (1, .int x1), (2, .int x2)] → W p l e (rmk 0) s m args below meth c H locs 0 0 (Ei D cI cZ (wF cI cZ b) S r S below args s) (F0 m 2 ls []) := by
    intro n2
    induction n2 with
    | zero => intro x1 x2 H locs ls h hH hl; simp [pX4_isTold_l2] at h
    | succ n2 ih2 =>
      intro x1 x2 H locs ls h hH hl
      rw [pX4_isTold_l2] at h
      refine lv_iload_n hx hb dX4_isTold_2 rfl (lv_at hl 2 rfl) ?_
      refine lv_aload_n hx hb dX4_isTold_3 rfl (lv_at hl 0 rfl) ?_
      refine F_g3 cx hH lkX4_18 dX4_isTold_4 ?_
      refine lv_icmp_ge (tgt := 28) hx hb dX4_isTold_7 (by decide) (fun c_6 => ?_) (fun c_6 => ?_)
      · replace h := fb_ip c_6 h
        refine lv_iconst (v := 0) hx hb dX4_isTold_28 (by decide) ?_
        obtain ⟨hn, h⟩ := fb_cb_s h
        obtain rfl := Option.some.inj h
        exact fb_zret (wd := wF cI cZ b) cx rfl hH hn dX4_isTold_29
      · replace h := fb_in c_6 h
        refine lv_aload_n hx hb dX4_isTold_10 rfl (lv_at hl 0 rfl) ?_
        refine F_ra11 cx hH lkX4_9 dX4_isTold_11 ?_
        refine lv_iload_n hx hb dX4_isTold_14 rfl (lv_at hl 2 rfl) ?_
        obtain ⟨hi_7, h⟩ := fb_ck_s h
        refine F_l11 cx hH hi_7 dX4_isTold_15 ?_
        refine lv_iload_n hx hb dX4_isTold_16 rfl (lv_at hl 1 rfl) ?_
        refine lv_icmp_ne (tgt := 22) hx hb dX4_isTold_17 (by decide) (fun c_8 => ?_) (fun c_8 => ?_)
        · replace h := fb_in c_8 h
          obtain ⟨x2_9, ex2_9, h⟩ := fb_vl_s h
          refine lv_iinc (v := x2_9) (lv' := [(2, .int x2_9), (0, .ref (b 2)), (1, .int x1)]) hx hb dX4_isTold_22 hl (k := 2) rfl (by rw [ex2_9]; rfl) (by decide) rfl (fun ls hl => ?_)
          refine lv_goto (tgt := 2) hx hb dX4_isTold_25 (by decide) ?_
          exact ih2 _ _ _ _ _ h hH (lv_sub hl [1, 2, 0] rfl)
        · replace h := fb_ip c_8 h
          refine lv_iconst (v := 1) hx hb dX4_isTold_20 (by decide) ?_
          obtain ⟨hn, h⟩ := fb_cb_s h
          obtain rfl := Option.some.inj h
          exact fb_zret (wd := wF cI cZ b) cx rfl hH hn dX4_isTold_21
  unfold pX4_isTold at h
  refine lv_iconst (v := 0) hx hb dX4_isTold_0 (by decide) ?_
  obtain ⟨x2_5, ex2_5, h⟩ := fb_vl_s h
  refine fb_top ex2_5 ?_
  refine lv_istore_n (lv' := [(2, .int x2_5), (0, .ref (b 2)), (1, .int x1)]) hx hb dX4_isTold_1 rfl hl (by decide) rfl (fun ls hl => ?_)
  exact hL2 5000 _ _ _ _ _ h hH (lv_sub hl [1, 2, 0] rfl)
set_option maxHeartbeats 4000000 in
set_option maxRecDepth 100000 in
theorem ctX4_add (l : Launch) (D : va_G) (cI cZ : ClassId) (b : Nat → Nat) {S : Sg} {x1 : Int32} {r : Int32} {S9 : Sg} (h : pX4_add S x1 = some (r, S9)) : CTi l D cI cZ (wF cI cZ b) yX4_add cX4_add 2 (some .int) 0 [.ref (b 2), .int x1] S r S9 := by
  refine fb_starti (by decide) (Nat.le_of_ble_eq_true rfl) (fun p e s m args below meth c ls cx hH hl => ?_)
  obtain ⟨hx, hb, -⟩ := id cx
  have hl : lv_has ls 2 [(0, .ref (b 2)), (1, .int x1)] := hl
  unfold pX4_add at h
  refine lv_aload_n hx hb dX4_add_0 rfl (lv_at hl 0 rfl) ?_
  refine F_ra11 cx hH lkX4_9 dX4_add_1 ?_
  refine lv_aload_n hx hb dX4_add_4 rfl (lv_at hl 0 rfl) ?_
  refine F_g3 cx hH lkX4_18 dX4_add_5 ?_
  refine lv_iload_n hx hb dX4_add_8 rfl (lv_at hl 1 rfl) ?_
  obtain ⟨hi_2, h⟩ := fb_ck_s h
  obtain ⟨S_1, eS_1, h⟩ := fb_st_s h
  refine F_s11 cx hH hi_2 dX4_add_9 (fun H locs hH => ?_)
  rw [← eS_1] at hH
  refine lv_aload_n hx hb dX4_add_10 rfl (lv_at hl 0 rfl) ?_
  refine lv_dup hx hb dX4_add_11 rfl ?_
  refine F_g3 cx hH lkX4_18 dX4_add_12 ?_
  refine lv_iconst (v := 1) hx hb dX4_add_15 (by decide) ?_
  refine lv_iadd hx hb dX4_add_16 ?_
  obtain ⟨S_3, eS_3, h⟩ := fb_st_s h
  refine F_p3 cx hH lkX4_18 dX4_add_17 (fun H locs hH => ?_)
  rw [← eS_3] at hH
  refine lv_aload_n hx hb dX4_add_20 rfl (lv_at hl 0 rfl) ?_
  refine F_g3 cx hH lkX4_18 dX4_add_21 ?_
  refine lv_iconst (v := 1) hx hb dX4_add_24 (by decide) ?_
  refine lv_isub hx hb dX4_add_25 ?_
  obtain ⟨rfl, rfl⟩ := Prod.mk.inj (Option.some.inj h)
  exact fb_iret (wd := wF cI cZ b) cx rfl hH dX4_add_26
set_option maxHeartbeats 4000000 in
set_option maxRecDepth 100000 in
theorem ctX4_setWorth (l : Launch) (D : va_G) (cI cZ : ClassId) (b : Nat → Nat) {S : Sg} {x1 x2 x3 : Int32} {S9 : Sg} (h : pX4_setWorth S x1 x2 x3 = some S9) : CTv l D cI cZ (wF cI cZ b) yX4_setWorth cX4_setWorth 4 0 [.ref (b 2), .int x1, .int x2, .int x3] S S9 := by
  refine fb_startv (by decide) (Nat.le_of_ble_eq_true rfl) (fun p e s m args below meth c ls cx hH hl => ?_)
  obtain ⟨hx, hb, -⟩ := id cx
  have hl : lv_has ls 4 [(0, .ref (b 2)), (1, .int x1), (2, .int x2), (3, .int x3)] := hl
  unfold pX4_setWorth at h
  refine lv_aload_n hx hb dX4_setWorth_0 rfl (lv_at hl 0 rfl) ?_
  refine F_ra12 cx hH lkX4_15 dX4_setWorth_1 ?_
  refine lv_iload_n hx hb dX4_setWorth_4 rfl (lv_at hl 1 rfl) ?_
  refine lv_iconst (v := 5) hx hb dX4_setWorth_5 (by decide) ?_
  refine lv_imul hx hb dX4_setWorth_6 ?_
  refine lv_iload_n hx hb dX4_setWorth_7 rfl (lv_at hl 2 rfl) ?_
  refine lv_iadd hx hb dX4_setWorth_8 ?_
  refine lv_iload_n hx hb dX4_setWorth_9 rfl (lv_at hl 3 rfl) ?_
  obtain ⟨hi_2, h⟩ := fb_ck_s h
  obtain ⟨S_1, eS_1, h⟩ := fb_st_s h
  refine F_s12 cx hH hi_2 dX4_setWorth_10 (fun H locs hH => ?_)
  rw [← eS_1] at hH
  obtain rfl := Option.some.inj h
  exact fb_vret (wd := wF cI cZ b) cx hH dX4_setWorth_11
set_option maxHeartbeats 4000000 in
set_option maxRecDepth 100000 in
theorem ctX4_worthOf (l : Launch) (D : va_G) (cI cZ : ClassId) (b : Nat → Nat) {S : Sg} {x1 x2 : Int32} {r : Int32} (h : pX4_worthOf S x1 x2 = some r) : CTi l D cI cZ (wF cI cZ b) yX4_worthOf cX4_worthOf 3 (some .int) 0 [.ref (b 2), .int x1, .int x2] S r S := by
  refine fb_starti (by decide) (Nat.le_of_ble_eq_true rfl) (fun p e s m args below meth c ls cx hH hl => ?_)
  obtain ⟨hx, hb, -⟩ := id cx
  have hl : lv_has ls 3 [(0, .ref (b 2)), (1, .int x1), (2, .int x2)] := hl
  unfold pX4_worthOf at h
  refine lv_aload_n hx hb dX4_worthOf_0 rfl (lv_at hl 0 rfl) ?_
  refine F_ra12 cx hH lkX4_15 dX4_worthOf_1 ?_
  refine lv_iload_n hx hb dX4_worthOf_4 rfl (lv_at hl 1 rfl) ?_
  refine lv_iconst (v := 5) hx hb dX4_worthOf_5 (by decide) ?_
  refine lv_imul hx hb dX4_worthOf_6 ?_
  refine lv_iload_n hx hb dX4_worthOf_7 rfl (lv_at hl 2 rfl) ?_
  refine lv_iadd hx hb dX4_worthOf_8 ?_
  obtain ⟨hi_1, h⟩ := fb_ck_s h
  refine F_l12 cx hH hi_1 dX4_worthOf_9 ?_
  obtain rfl := Option.some.inj h
  exact fb_iret (wd := wF cI cZ b) cx rfl hH dX4_worthOf_10
