set_option maxHeartbeats 4000000 in
set_option maxRecDepth 100000 in
theorem ctX2_area (l : Launch) (D : va_G) (cI cZ : ClassId) (b : Nat → Nat) {S : Sg} {r : Int32} (h : pX2_area S = some r) : CTi l D cI cZ (wF cI cZ b) yX2_area cX2_area 1 (some .int) 0 [.ref (b 6)] S r S := by
  refine fb_starti (by decide) (Nat.le_of_ble_eq_true rfl) (fun p e s m args below meth c ls cx hH hl => ?_)
  obtain ⟨hx, hb, -⟩ := id cx
  have hl : lv_has ls 1 [(0, .ref (b 6))] := hl
  unfold pX2_area at h
  refine lv_aload_n hx hb dX2_area_0 rfl (lv_at hl 0 rfl) ?_
  refine F_g11 cx hH lkX2_9 dX2_area_1 ?_
  refine lv_aload_n hx hb dX2_area_4 rfl (lv_at hl 0 rfl) ?_
  refine F_g12 cx hH lkX2_15 dX2_area_5 ?_
  refine lv_imul hx hb dX2_area_8 ?_
  obtain rfl := Option.some.inj h
  exact fb_iret (wd := wF cI cZ b) cx rfl hH dX2_area_9
set_option maxHeartbeats 4000000 in
set_option maxRecDepth 100000 in
theorem ctX2_markSums (l : Launch) (D : va_G) (cI cZ : ClassId) (b : Nat → Nat) {S : Sg} {x1 x2 : Int32} {S9 : Sg} (h : pX2_markSums S x1 x2 = some S9) : CTv l D cI cZ (wF cI cZ b) yX2_markSums cX2_markSums 4 0 [.ref (b 6), .int x1, .int x2] S S9 := by
  refine fb_startv (by decide) (Nat.le_of_ble_eq_true rfl) (fun p e s m args below meth c ls cx hH hl => ?_)
  obtain ⟨hx, hb, -⟩ := id cx
  have hl : lv_has ls 4 [(0, .ref (b 6)), (1, .int x1), (2, .int x2)] := hl
  have hL9 : ∀ (n : Nat), ∀ (T : Sg) (x1 x2 x3 : Int32) (H : Heap) (locs : List Loc) (ls : Array Slot), pX2_markSums_l9 n T x1 x2 x3 = some S9 → HB D (wF cI cZ b S) (wF cI cZ b T) s H locs → lv_has ls 4 [(0, .ref (b 6)), (1, .int x1), (2, .int x2), (3, .int x3)] → W p l e (rmk 0) s m args below meth c H locs 0 0 (Ev D cI cZ (wF cI cZ b) S S9 below args s) (F0 m 9 ls []) := by
    intro n9
    induction n9 with
    | zero => intro T x1 x2 x3 H locs ls h hH hl; simp [pX2_markSums_l9] at h
    | succ n9 ih9 =>
      have hJ57 : ∀ (T : Sg) (x1 x2 x3 t0 t1 : Int32) (H : Heap) (locs : List Loc) (ls : Array Slot), pX2_markSums_j57 (pX2_markSums_l9 n9) T x1 x2 x3 t0 t1 = some S9 → HB D (wF cI cZ b S) (wF cI cZ b T) s H locs → lv_has ls 4 [(0, .ref (b 6)), (1, .int x1), (2, .int x2), (3, .int x3)] → W p l e (rmk 0) s m args below meth c H locs 0 0 (Ev D cI cZ (wF cI cZ b) S S9 below args s) (F0 m 57 ls [.int t0, .int t1, .ref (b 29)]) := by
        intro T x1 x2 x3 t0 t1 H locs ls h hH hl
        unfold pX2_markSums_j57 at h
        obtain ⟨hi_18, h⟩ := fb_ck_s h
        obtain ⟨S_17, eS_17, h⟩ := fb_st_s h
        refine F_s29 cx hH hi_18 dX2_markSums_57 (fun H locs hH => ?_)
        rw [← eS_17] at hH
        obtain ⟨x3_19, ex3_19, h⟩ := fb_vl_s h
        refine lv_iinc (v := x3_19) (lv' := [(3, .int x3_19), (0, .ref (b 6)), (1, .int x1), (2, .int x2)]) hx hb dX2_markSums_58 hl (k := 3) rfl (by rw [ex3_19]; rfl) (by decide) rfl (fun ls hl => ?_)
        refine lv_goto (tgt := 9) hx hb dX2_markSums_61 (by decide) ?_
        exact ih9 _ _ _ _ _ _ _ h hH (lv_sub hl [1, 2, 3, 0] rfl)
      intro T x1 x2 x3 H locs ls h hH hl
      rw [pX2_markSums_l9] at h
      refine lv_iload_n hx hb dX2_markSums_9 rfl (lv_at hl 3 rfl) ?_
      refine lv_bipush (v := 61) hx hb dX2_markSums_10 (by decide) ?_
      refine lv_icmp_ge (tgt := 64) hx hb dX2_markSums_12 (by decide) (fun c_20 => ?_) (fun c_20 => ?_)
      · replace h := fb_ip c_20 h
        obtain rfl := Option.some.inj h
        exact fb_vret (wd := wF cI cZ b) cx hH dX2_markSums_64
      · replace h := fb_in c_20 h
        refine lv_aload_n hx hb dX2_markSums_15 rfl (lv_at hl 0 rfl) ?_
        refine F_ra29 cx hH lkX2_22 dX2_markSums_16 ?_
        refine lv_iload_n hx hb dX2_markSums_19 rfl (lv_at hl 3 rfl) ?_
        refine lv_iload_n hx hb dX2_markSums_20 rfl (lv_at hl 3 rfl) ?_
        refine lv_iload_n hx hb dX2_markSums_21 rfl (lv_at hl 1 rfl) ?_
        refine lv_icmp_lt (tgt := 36) hx hb dX2_markSums_22 (by decide) (fun c_21 => ?_) (fun c_21 => ?_)
        · replace h := fb_ip c_21 h
          refine lv_iload_n hx hb dX2_markSums_36 rfl (lv_at hl 3 rfl) ?_
          refine lv_iload_n hx hb dX2_markSums_37 rfl (lv_at hl 2 rfl) ?_
          refine lv_icmp_lt (tgt := 56) hx hb dX2_markSums_38 (by decide) (fun c_22 => ?_) (fun c_22 => ?_)
          · replace h := fb_ip c_22 h
            refine lv_iconst (v := 0) hx hb dX2_markSums_56 (by decide) ?_
            exact hJ57 _ _ _ _ _ _ _ _ _ h hH (lv_sub hl [0, 1, 2, 3] rfl)
          · replace h := fb_in c_22 h
            refine lv_aload_n hx hb dX2_markSums_41 rfl (lv_at hl 0 rfl) ?_
            refine F_ra29 cx hH lkX2_22 dX2_markSums_42 ?_
            refine lv_iload_n hx hb dX2_markSums_45 rfl (lv_at hl 3 rfl) ?_
            refine lv_iload_n hx hb dX2_markSums_46 rfl (lv_at hl 2 rfl) ?_
            refine lv_isub hx hb dX2_markSums_47 ?_
            obtain ⟨hi_23, h⟩ := fb_ck_s h
            refine F_l29 cx hH hi_23 dX2_markSums_48 ?_
            refine lv_if_eq (tgt := 56) hx hb dX2_markSums_49 (by decide) (fun c_24 => ?_) (fun c_24 => ?_)
            · replace h := fb_ip c_24 h
              refine lv_iconst (v := 0) hx hb dX2_markSums_56 (by decide) ?_
              exact hJ57 _ _ _ _ _ _ _ _ _ h hH (lv_sub hl [0, 1, 2, 3] rfl)
            · replace h := fb_in c_24 h
              refine lv_iconst (v := 1) hx hb dX2_markSums_52 (by decide) ?_
              refine lv_goto (tgt := 57) hx hb dX2_markSums_53 (by decide) ?_
              exact hJ57 _ _ _ _ _ _ _ _ _ h hH (lv_sub hl [0, 1, 2, 3] rfl)
        · replace h := fb_in c_21 h
          refine lv_aload_n hx hb dX2_markSums_25 rfl (lv_at hl 0 rfl) ?_
          refine F_ra29 cx hH lkX2_22 dX2_markSums_26 ?_
          refine lv_iload_n hx hb dX2_markSums_29 rfl (lv_at hl 3 rfl) ?_
          refine lv_iload_n hx hb dX2_markSums_30 rfl (lv_at hl 1 rfl) ?_
          refine lv_isub hx hb dX2_markSums_31 ?_
          obtain ⟨hi_25, h⟩ := fb_ck_s h
          refine F_l29 cx hH hi_25 dX2_markSums_32 ?_
          refine lv_if_ne (tgt := 52) hx hb dX2_markSums_33 (by decide) (fun c_26 => ?_) (fun c_26 => ?_)
          · replace h := fb_in c_26 h
            refine lv_iconst (v := 1) hx hb dX2_markSums_52 (by decide) ?_
            refine lv_goto (tgt := 57) hx hb dX2_markSums_53 (by decide) ?_
            exact hJ57 _ _ _ _ _ _ _ _ _ h hH (lv_sub hl [0, 1, 2, 3] rfl)
          · replace h := fb_ip c_26 h
            refine lv_iload_n hx hb dX2_markSums_36 rfl (lv_at hl 3 rfl) ?_
            refine lv_iload_n hx hb dX2_markSums_37 rfl (lv_at hl 2 rfl) ?_
            refine lv_icmp_lt (tgt := 56) hx hb dX2_markSums_38 (by decide) (fun c_27 => ?_) (fun c_27 => ?_)
            · replace h := fb_ip c_27 h
              refine lv_iconst (v := 0) hx hb dX2_markSums_56 (by decide) ?_
              exact hJ57 _ _ _ _ _ _ _ _ _ h hH (lv_sub hl [0, 1, 2, 3] rfl)
            · replace h := fb_in c_27 h
              refine lv_aload_n hx hb dX2_markSums_41 rfl (lv_at hl 0 rfl) ?_
              refine F_ra29 cx hH lkX2_22 dX2_markSums_42 ?_
              refine lv_iload_n hx hb dX2_markSums_45 rfl (lv_at hl 3 rfl) ?_
              refine lv_iload_n hx hb dX2_markSums_46 rfl (lv_at hl 2 rfl) ?_
              refine lv_isub hx hb dX2_markSums_47 ?_
              obtain ⟨hi_28, h⟩ := fb_ck_s h
              refine F_l29 cx hH hi_28 dX2_markSums_48 ?_
              refine lv_if_eq (tgt := 56) hx hb dX2_markSums_49 (by decide) (fun c_29 => ?_) (fun c_29 => ?_)
              · replace h := fb_ip c_29 h
                refine lv_iconst (v := 0) hx hb dX2_markSums_56 (by decide) ?_
                exact hJ57 _ _ _ _ _ _ _ _ _ h hH (lv_sub hl [0, 1, 2, 3] rfl)
              · replace h := fb_in c_29 h
                refine lv_iconst (v := 1) hx hb dX2_markSums_52 (by decide) ?_
                refine lv_goto (tgt := 57) hx hb dX2_markSums_53 (by decide) ?_
                exact hJ57 _ _ _ _ _ _ _ _ _ h hH (lv_sub hl [0, 1, 2, 3] rfl)
  unfold pX2_markSums at h
  refine lv_aload_n hx hb dX2_markSums_0 rfl (lv_at hl 0 rfl) ?_
  refine F_ra29 cx hH lkX2_22 dX2_markSums_1 ?_
  refine lv_iconst (v := 0) hx hb dX2_markSums_4 (by decide) ?_
  refine lv_iconst (v := 1) hx hb dX2_markSums_5 (by decide) ?_
  obtain ⟨hi_15, h⟩ := fb_ck_s h
  obtain ⟨S_14, eS_14, h⟩ := fb_st_s h
  refine F_s29 cx hH hi_15 dX2_markSums_6 (fun H locs hH => ?_)
  rw [← eS_14] at hH
  refine lv_iconst (v := 1) hx hb dX2_markSums_7 (by decide) ?_
  obtain ⟨x3_16, ex3_16, h⟩ := fb_vl_s h
  refine fb_top ex3_16 ?_
  refine lv_istore_n (lv' := [(3, .int x3_16), (0, .ref (b 6)), (1, .int x1), (2, .int x2)]) hx hb dX2_markSums_8 rfl hl (by decide) rfl (fun ls hl => ?_)
  exact hL9 5000 _ _ _ _ _ _ _ h hH (lv_sub hl [1, 2, 3, 0] rfl)
set_option maxHeartbeats 4000000 in
set_option maxRecDepth 100000 in
theorem ctX2_mostOf (l : Launch) (D : va_G) (cI cZ : ClassId) (b : Nat → Nat) {S : Sg} {x1 x2 x3 x4 : Int32} {r : Int32} (h : pX2_mostOf S x1 x2 x3 x4 = some r) : CTi l D cI cZ (wF cI cZ b) yX2_mostOf cX2_mostOf 9 (some .int) 1 [.ref (b 6), .int x1, .int x2, .int x3, .int x4] S r S := by
  refine fb_starti (by decide) (Nat.le_of_ble_eq_true rfl) (fun p e s m args below meth c ls cx hH hl => ?_)
  obtain ⟨hx, hb, -⟩ := id cx
  have hl : lv_has ls 9 [(0, .ref (b 6)), (1, .int x1), (2, .int x2), (3, .int x3), (4, .int x4)] := hl
  have hL168 : ∀ (n : Nat), ∀ (x1 x2 x6 x7 x8 : Int32) (H : Heap) (locs : List Loc) (ls : Array Slot), pX2_mostOf_l168 S n x1 x2 x6 x7 x8 = some r → HB D (wF cI cZ b S) (wF cI cZ b S) s H locs → lv_has ls 9 [(0, .ref (b 6)), (1, .int x1), (2, .int x2), (6, .int x6), (7, .int x7), (8, .int x8)] → W p l e (rmk 1) s m args below meth c H locs 0 0 (Ei D cI cZ (wF cI cZ b) S r S below args s) (F0 m 168 ls []) := by
    intro n168
    induction n168 with
    | zero => intro x1 x2 x6 x7 x8 H locs ls h hH hl; simp [pX2_mostOf_l168] at h
    | succ n168 ih168 =>
      intro x1 x2 x6 x7 x8 H locs ls h hH hl
      rw [pX2_mostOf_l168] at h
      refine lv_iload hx hb dX2_mostOf_168 (lv_at hl 5 rfl) ?_
      refine lv_iload_n hx hb dX2_mostOf_170 rfl (lv_at hl 2 rfl) ?_
      refine lv_iconst (v := 2) hx hb dX2_mostOf_171 (by decide) ?_
      obtain ⟨hi_41, h⟩ := fb_c0_s h
      refine lv_idiv hx hb dX2_mostOf_172 hi_41 ?_
      refine lv_icmp_gt (tgt := 233) hx hb dX2_mostOf_173 (by decide) (fun c_42 => ?_) (fun c_42 => ?_)
      · replace h := fb_ip c_42 h
        refine lv_iload hx hb dX2_mostOf_233 (lv_at hl 4 rfl) ?_
        obtain rfl := Option.some.inj h
        exact fb_iret (wd := wF cI cZ b) cx rfl hH dX2_mostOf_235
      · replace h := fb_in c_42 h
        refine lv_iload hx hb dX2_mostOf_176 (lv_at hl 4 rfl) ?_
        refine lv_iload hx hb dX2_mostOf_178 (lv_at hl 3 rfl) ?_
        refine lv_icmp_ge (tgt := 233) hx hb dX2_mostOf_180 (by decide) (fun c_43 => ?_) (fun c_43 => ?_)
        · replace h := fb_ip c_43 h
          refine lv_iload hx hb dX2_mostOf_233 (lv_at hl 4 rfl) ?_
          obtain rfl := Option.some.inj h
          exact fb_iret (wd := wF cI cZ b) cx rfl hH dX2_mostOf_235
        · replace h := fb_in c_43 h
          refine lv_aload_n hx hb dX2_mostOf_183 rfl (lv_at hl 0 rfl) ?_
          refine F_ra29 cx hH lkX2_22 dX2_mostOf_184 ?_
          refine lv_iload hx hb dX2_mostOf_187 (lv_at hl 5 rfl) ?_
          obtain ⟨hi_44, h⟩ := fb_ck_s h
          refine F_l29 cx hH hi_44 dX2_mostOf_189 ?_
          refine lv_if_eq (tgt := 227) hx hb dX2_mostOf_190 (by decide) (fun c_45 => ?_) (fun c_45 => ?_)
          · replace h := fb_ip c_45 h
            obtain ⟨x8_46, ex8_46, h⟩ := fb_vl_s h
            refine lv_iinc (v := x8_46) (lv' := [(8, .int x8_46), (0, .ref (b 6)), (1, .int x1), (2, .int x2), (6, .int x6), (7, .int x7)]) hx hb dX2_mostOf_227 hl (k := 5) rfl (by rw [ex8_46]; rfl) (by decide) rfl (fun ls hl => ?_)
            refine lv_goto (tgt := 168) hx hb dX2_mostOf_230 (by decide) ?_
            exact ih168 _ _ _ _ _ _ _ _ h hH (lv_sub hl [1, 2, 3, 4, 5, 0] rfl)
          · replace h := fb_in c_45 h
            refine lv_iload hx hb dX2_mostOf_193 (lv_at hl 4 rfl) ?_
            refine lv_aload_n hx hb dX2_mostOf_195 rfl (lv_at hl 0 rfl) ?_
            refine F_ra28 cx hH lkX2_18 dX2_mostOf_196 ?_
            refine lv_iload_n hx hb dX2_mostOf_199 rfl (lv_at hl 1 rfl) ?_
            refine lv_bipush (v := 61) hx hb dX2_mostOf_200 (by decide) ?_
            refine lv_imul hx hb dX2_mostOf_202 ?_
            refine lv_iload hx hb dX2_mostOf_203 (lv_at hl 5 rfl) ?_
            refine lv_iadd hx hb dX2_mostOf_205 ?_
            obtain ⟨hi_47, h⟩ := fb_ck_s h
            refine F_l28 cx hH hi_47 dX2_mostOf_206 ?_
            refine lv_aload_n hx hb dX2_mostOf_207 rfl (lv_at hl 0 rfl) ?_
            refine F_ra28 cx hH lkX2_18 dX2_mostOf_208 ?_
            refine lv_iload_n hx hb dX2_mostOf_211 rfl (lv_at hl 1 rfl) ?_
            refine lv_bipush (v := 61) hx hb dX2_mostOf_212 (by decide) ?_
            refine lv_imul hx hb dX2_mostOf_214 ?_
            refine lv_iload_n hx hb dX2_mostOf_215 rfl (lv_at hl 2 rfl) ?_
            refine lv_iadd hx hb dX2_mostOf_216 ?_
            refine lv_iload hx hb dX2_mostOf_217 (lv_at hl 5 rfl) ?_
            refine lv_isub hx hb dX2_mostOf_219 ?_
            obtain ⟨hi_48, h⟩ := fb_ck_s h
            refine F_l28 cx hH hi_48 dX2_mostOf_220 ?_
            refine lv_iadd hx hb dX2_mostOf_221 ?_
            refine fb_max cx hl.1 mlX2_34 ⟨Nat.le_of_ble_eq_true rfl, Nat.le_of_ble_eq_true rfl⟩ dX2_mostOf_222 ?_
            obtain ⟨x7_49, ex7_49, h⟩ := fb_vl_s h
            refine fb_top ex7_49 ?_
            refine lv_istore (lv' := [(7, .int x7_49), (0, .ref (b 6)), (1, .int x1), (2, .int x2), (6, .int x6), (8, .int x8)]) hx hb dX2_mostOf_225 hl (by decide) rfl (fun ls hl => ?_)
            obtain ⟨x8_50, ex8_50, h⟩ := fb_vl_s h
            refine lv_iinc (v := x8_50) (lv' := [(8, .int x8_50), (7, .int x7_49), (0, .ref (b 6)), (1, .int x1), (2, .int x2), (6, .int x6)]) hx hb dX2_mostOf_227 hl (k := 5) rfl (by rw [ex8_50]; rfl) (by decide) rfl (fun ls hl => ?_)
            refine lv_goto (tgt := 168) hx hb dX2_mostOf_230 (by decide) ?_
            exact ih168 _ _ _ _ _ _ _ _ h hH (lv_sub hl [2, 3, 4, 5, 1, 0] rfl)
  have hL100 : ∀ (n : Nat), ∀ (x1 x2 x6 x7 x8 : Int32) (H : Heap) (locs : List Loc) (ls : Array Slot), pX2_mostOf_l100 S n x1 x2 x6 x7 x8 = some r → HB D (wF cI cZ b S) (wF cI cZ b S) s H locs → lv_has ls 9 [(0, .ref (b 6)), (1, .int x1), (2, .int x2), (6, .int x6), (7, .int x7), (8, .int x8)] → W p l e (rmk 1) s m args below meth c H locs 0 0 (Ei D cI cZ (wF cI cZ b) S r S below args s) (F0 m 100 ls []) := by
    intro n100
    induction n100 with
    | zero => intro x1 x2 x6 x7 x8 H locs ls h hH hl; simp [pX2_mostOf_l100] at h
    | succ n100 ih100 =>
      intro x1 x2 x6 x7 x8 H locs ls h hH hl
      rw [pX2_mostOf_l100] at h
      refine lv_iload hx hb dX2_mostOf_100 (lv_at hl 5 rfl) ?_
      refine lv_iload_n hx hb dX2_mostOf_102 rfl (lv_at hl 1 rfl) ?_
      refine lv_iconst (v := 2) hx hb dX2_mostOf_103 (by decide) ?_
      obtain ⟨hi_51, h⟩ := fb_c0_s h
      refine lv_idiv hx hb dX2_mostOf_104 hi_51 ?_
      refine lv_icmp_gt (tgt := 165) hx hb dX2_mostOf_105 (by decide) (fun c_52 => ?_) (fun c_52 => ?_)
      · replace h := fb_ip c_52 h
        refine lv_iconst (v := 1) hx hb dX2_mostOf_165 (by decide) ?_
        obtain ⟨x8_53, ex8_53, h⟩ := fb_vl_s h
        refine fb_top ex8_53 ?_
        refine lv_istore (lv' := [(8, .int x8_53), (0, .ref (b 6)), (1, .int x1), (2, .int x2), (6, .int x6), (7, .int x7)]) hx hb dX2_mostOf_166 hl (by decide) rfl (fun ls hl => ?_)
        exact hL168 5000 _ _ _ _ _ _ _ _ h hH (lv_sub hl [1, 2, 3, 4, 5, 0] rfl)
      · replace h := fb_in c_52 h
        refine lv_iload hx hb dX2_mostOf_108 (lv_at hl 4 rfl) ?_
        refine lv_iload hx hb dX2_mostOf_110 (lv_at hl 3 rfl) ?_
        refine lv_icmp_ge (tgt := 165) hx hb dX2_mostOf_112 (by decide) (fun c_54 => ?_) (fun c_54 => ?_)
        · replace h := fb_ip c_54 h
          refine lv_iconst (v := 1) hx hb dX2_mostOf_165 (by decide) ?_
          obtain ⟨x8_55, ex8_55, h⟩ := fb_vl_s h
          refine fb_top ex8_55 ?_
          refine lv_istore (lv' := [(8, .int x8_55), (0, .ref (b 6)), (1, .int x1), (2, .int x2), (6, .int x6), (7, .int x7)]) hx hb dX2_mostOf_166 hl (by decide) rfl (fun ls hl => ?_)
          exact hL168 5000 _ _ _ _ _ _ _ _ h hH (lv_sub hl [1, 2, 3, 4, 5, 0] rfl)
        · replace h := fb_in c_54 h
          refine lv_aload_n hx hb dX2_mostOf_115 rfl (lv_at hl 0 rfl) ?_
          refine F_ra29 cx hH lkX2_22 dX2_mostOf_116 ?_
          refine lv_iload hx hb dX2_mostOf_119 (lv_at hl 5 rfl) ?_
          obtain ⟨hi_56, h⟩ := fb_ck_s h
          refine F_l29 cx hH hi_56 dX2_mostOf_121 ?_
          refine lv_if_eq (tgt := 159) hx hb dX2_mostOf_122 (by decide) (fun c_57 => ?_) (fun c_57 => ?_)
          · replace h := fb_ip c_57 h
            obtain ⟨x8_58, ex8_58, h⟩ := fb_vl_s h
            refine lv_iinc (v := x8_58) (lv' := [(8, .int x8_58), (0, .ref (b 6)), (1, .int x1), (2, .int x2), (6, .int x6), (7, .int x7)]) hx hb dX2_mostOf_159 hl (k := 5) rfl (by rw [ex8_58]; rfl) (by decide) rfl (fun ls hl => ?_)
            refine lv_goto (tgt := 100) hx hb dX2_mostOf_162 (by decide) ?_
            exact ih100 _ _ _ _ _ _ _ _ h hH (lv_sub hl [1, 2, 3, 4, 5, 0] rfl)
          · replace h := fb_in c_57 h
            refine lv_iload hx hb dX2_mostOf_125 (lv_at hl 4 rfl) ?_
            refine lv_aload_n hx hb dX2_mostOf_127 rfl (lv_at hl 0 rfl) ?_
            refine F_ra28 cx hH lkX2_18 dX2_mostOf_128 ?_
            refine lv_iload hx hb dX2_mostOf_131 (lv_at hl 5 rfl) ?_
            refine lv_bipush (v := 61) hx hb dX2_mostOf_133 (by decide) ?_
            refine lv_imul hx hb dX2_mostOf_135 ?_
            refine lv_iload_n hx hb dX2_mostOf_136 rfl (lv_at hl 2 rfl) ?_
            refine lv_iadd hx hb dX2_mostOf_137 ?_
            obtain ⟨hi_59, h⟩ := fb_ck_s h
            refine F_l28 cx hH hi_59 dX2_mostOf_138 ?_
            refine lv_aload_n hx hb dX2_mostOf_139 rfl (lv_at hl 0 rfl) ?_
            refine F_ra28 cx hH lkX2_18 dX2_mostOf_140 ?_
            refine lv_iload_n hx hb dX2_mostOf_143 rfl (lv_at hl 1 rfl) ?_
            refine lv_iload hx hb dX2_mostOf_144 (lv_at hl 5 rfl) ?_
            refine lv_isub hx hb dX2_mostOf_146 ?_
            refine lv_bipush (v := 61) hx hb dX2_mostOf_147 (by decide) ?_
            refine lv_imul hx hb dX2_mostOf_149 ?_
            refine lv_iload_n hx hb dX2_mostOf_150 rfl (lv_at hl 2 rfl) ?_
            refine lv_iadd hx hb dX2_mostOf_151 ?_
            obtain ⟨hi_60, h⟩ := fb_ck_s h
            refine F_l28 cx hH hi_60 dX2_mostOf_152 ?_
            refine lv_iadd hx hb dX2_mostOf_153 ?_
            refine fb_max cx hl.1 mlX2_34 ⟨Nat.le_of_ble_eq_true rfl, Nat.le_of_ble_eq_true rfl⟩ dX2_mostOf_154 ?_
            obtain ⟨x7_61, ex7_61, h⟩ := fb_vl_s h
            refine fb_top ex7_61 ?_
            refine lv_istore (lv' := [(7, .int x7_61), (0, .ref (b 6)), (1, .int x1), (2, .int x2), (6, .int x6), (8, .int x8)]) hx hb dX2_mostOf_157 hl (by decide) rfl (fun ls hl => ?_)
            obtain ⟨x8_62, ex8_62, h⟩ := fb_vl_s h
            refine lv_iinc (v := x8_62) (lv' := [(8, .int x8_62), (7, .int x7_61), (0, .ref (b 6)), (1, .int x1), (2, .int x2), (6, .int x6)]) hx hb dX2_mostOf_159 hl (k := 5) rfl (by rw [ex8_62]; rfl) (by decide) rfl (fun ls hl => ?_)
            refine lv_goto (tgt := 100) hx hb dX2_mostOf_162 (by decide) ?_
            exact ih100 _ _ _ _ _ _ _ _ h hH (lv_sub hl [2, 3, 4, 5, 1, 0] rfl)
  have hJ95 : ∀ (x1 x2 x6 t0 : Int32) (H : Heap) (locs : List Loc) (ls : Array Slot), pX2_mostOf_j95 S x1 x2 x6 t0 = some r → HB D (wF cI cZ b S) (wF cI cZ b S) s H locs → lv_has ls 9 [(0, .ref (b 6)), (1, .int x1), (2, .int x2), (6, .int x6)] → W p l e (rmk 1) s m args below meth c H locs 0 0 (Ei D cI cZ (wF cI cZ b) S r S below args s) (F0 m 95 ls [.int t0]) := by
    intro x1 x2 x6 t0 H locs ls h hH hl
    unfold pX2_mostOf_j95 at h
    obtain ⟨x7_63, ex7_63, h⟩ := fb_vl_s h
    refine fb_top ex7_63 ?_
    refine lv_istore (lv' := [(7, .int x7_63), (0, .ref (b 6)), (1, .int x1), (2, .int x2), (6, .int x6)]) hx hb dX2_mostOf_95 hl (by decide) rfl (fun ls hl => ?_)
    refine lv_iconst (v := 1) hx hb dX2_mostOf_97 (by decide) ?_
    obtain ⟨x8_64, ex8_64, h⟩ := fb_vl_s h
    refine fb_top ex8_64 ?_
    refine lv_istore (lv' := [(8, .int x8_64), (7, .int x7_63), (0, .ref (b 6)), (1, .int x1), (2, .int x2), (6, .int x6)]) hx hb dX2_mostOf_98 hl (by decide) rfl (fun ls hl => ?_)
    exact hL100 5000 _ _ _ _ _ _ _ _ h hH (lv_sub hl [2, 3, 4, 5, 1, 0] rfl)
  have hJ73 : ∀ (x1 x2 x3 x4 t0 : Int32) (H : Heap) (locs : List Loc) (ls : Array Slot), pX2_mostOf_j73 S x1 x2 x3 x4 t0 = some r → HB D (wF cI cZ b S) (wF cI cZ b S) s H locs → lv_has ls 9 [(0, .ref (b 6)), (1, .int x1), (2, .int x2), (3, .int x3), (4, .int x4)] → W p l e (rmk 1) s m args below meth c H locs 0 0 (Ei D cI cZ (wF cI cZ b) S r S below args s) (F0 m 73 ls [.int t0]) := by
    intro x1 x2 x3 x4 t0 H locs ls h hH hl
    unfold pX2_mostOf_j73 at h
    obtain ⟨x5_65, ex5_65, h⟩ := fb_vl_s h
    refine fb_top ex5_65 ?_
    refine lv_istore (lv' := [(5, .int x5_65), (0, .ref (b 6)), (1, .int x1), (2, .int x2), (3, .int x3), (4, .int x4)]) hx hb dX2_mostOf_73 hl (by decide) rfl (fun ls hl => ?_)
    refine lv_iload_n hx hb dX2_mostOf_75 rfl (lv_at hl 2 rfl) ?_
    refine lv_iload_n hx hb dX2_mostOf_76 rfl (lv_at hl 3 rfl) ?_
    refine lv_imul hx hb dX2_mostOf_77 ?_
    refine lv_iload_n hx hb dX2_mostOf_78 rfl (lv_at hl 4 rfl) ?_
    refine lv_iload hx hb dX2_mostOf_79 (lv_at hl 5 rfl) ?_
    refine lv_imul hx hb dX2_mostOf_81 ?_
    obtain ⟨hi_66, h⟩ := fb_c0_s h
    refine lv_idiv hx hb dX2_mostOf_82 hi_66 ?_
    obtain ⟨x6_67, ex6_67, h⟩ := fb_vl_s h
    refine fb_top ex6_67 ?_
    refine lv_istore (lv' := [(6, .int x6_67), (5, .int x5_65), (0, .ref (b 6)), (1, .int x1), (2, .int x2), (3, .int x3), (4, .int x4)]) hx hb dX2_mostOf_83 hl (by decide) rfl (fun ls hl => ?_)
    refine lv_iload hx hb dX2_mostOf_85 (lv_at hl 1 rfl) ?_
    refine lv_if_eq (tgt := 94) hx hb dX2_mostOf_87 (by decide) (fun c_68 => ?_) (fun c_68 => ?_)
    · replace h := fb_ip c_68 h
      refine lv_iconst (v := 0) hx hb dX2_mostOf_94 (by decide) ?_
      exact hJ95 _ _ _ _ _ _ _ h hH (lv_sub hl [2, 3, 4, 0] rfl)
    · replace h := fb_in c_68 h
      refine lv_iconst (v := 1) hx hb dX2_mostOf_90 (by decide) ?_
      refine lv_goto (tgt := 95) hx hb dX2_mostOf_91 (by decide) ?_
      exact hJ95 _ _ _ _ _ _ _ h hH (lv_sub hl [2, 3, 4, 0] rfl)
  unfold pX2_mostOf at h
  refine lv_aload_n hx hb dX2_mostOf_0 rfl (lv_at hl 0 rfl) ?_
  refine F_ra29 cx hH lkX2_22 dX2_mostOf_1 ?_
  refine lv_iload_n hx hb dX2_mostOf_4 rfl (lv_at hl 1 rfl) ?_
  obtain ⟨hi_29, h⟩ := fb_ck_s h
  refine F_l29 cx hH hi_29 dX2_mostOf_5 ?_
  refine lv_if_ne (tgt := 23) hx hb dX2_mostOf_6 (by decide) (fun c_30 => ?_) (fun c_30 => ?_)
  · replace h := fb_in c_30 h
    refine lv_aload_n hx hb dX2_mostOf_23 rfl (lv_at hl 0 rfl) ?_
    refine F_ra29 cx hH lkX2_22 dX2_mostOf_24 ?_
    refine lv_iload_n hx hb dX2_mostOf_27 rfl (lv_at hl 2 rfl) ?_
    obtain ⟨hi_31, h⟩ := fb_ck_s h
    refine F_l29 cx hH hi_31 dX2_mostOf_28 ?_
    refine lv_if_ne (tgt := 46) hx hb dX2_mostOf_29 (by decide) (fun c_32 => ?_) (fun c_32 => ?_)
    · replace h := fb_in c_32 h
      refine lv_iload_n hx hb dX2_mostOf_46 rfl (lv_at hl 1 rfl) ?_
      refine lv_iload_n hx hb dX2_mostOf_47 rfl (lv_at hl 3 rfl) ?_
      refine lv_icmp_lt (tgt := 57) hx hb dX2_mostOf_48 (by decide) (fun c_33 => ?_) (fun c_33 => ?_)
      · replace h := fb_ip c_33 h
        refine lv_iload_n hx hb dX2_mostOf_57 rfl (lv_at hl 1 rfl) ?_
        refine lv_iload hx hb dX2_mostOf_58 (lv_at hl 4 rfl) ?_
        refine lv_icmp_lt (tgt := 72) hx hb dX2_mostOf_60 (by decide) (fun c_34 => ?_) (fun c_34 => ?_)
        · replace h := fb_ip c_34 h
          refine lv_iconst (v := 0) hx hb dX2_mostOf_72 (by decide) ?_
          exact hJ73 _ _ _ _ _ _ _ _ h hH (lv_sub hl [0, 1, 2, 3, 4] rfl)
        · replace h := fb_in c_34 h
          refine lv_iload_n hx hb dX2_mostOf_63 rfl (lv_at hl 2 rfl) ?_
          refine lv_iload_n hx hb dX2_mostOf_64 rfl (lv_at hl 3 rfl) ?_
          refine lv_icmp_lt (tgt := 72) hx hb dX2_mostOf_65 (by decide) (fun c_35 => ?_) (fun c_35 => ?_)
          · replace h := fb_ip c_35 h
            refine lv_iconst (v := 0) hx hb dX2_mostOf_72 (by decide) ?_
            exact hJ73 _ _ _ _ _ _ _ _ h hH (lv_sub hl [0, 1, 2, 3, 4] rfl)
          · replace h := fb_in c_35 h
            refine lv_iconst (v := 1) hx hb dX2_mostOf_68 (by decide) ?_
            refine lv_goto (tgt := 73) hx hb dX2_mostOf_69 (by decide) ?_
            exact hJ73 _ _ _ _ _ _ _ _ h hH (lv_sub hl [0, 1, 2, 3, 4] rfl)
      · replace h := fb_in c_33 h
        refine lv_iload_n hx hb dX2_mostOf_51 rfl (lv_at hl 2 rfl) ?_
        refine lv_iload hx hb dX2_mostOf_52 (lv_at hl 4 rfl) ?_
        refine lv_icmp_ge (tgt := 68) hx hb dX2_mostOf_54 (by decide) (fun c_36 => ?_) (fun c_36 => ?_)
        · replace h := fb_ip c_36 h
          refine lv_iconst (v := 1) hx hb dX2_mostOf_68 (by decide) ?_
          refine lv_goto (tgt := 73) hx hb dX2_mostOf_69 (by decide) ?_
          exact hJ73 _ _ _ _ _ _ _ _ h hH (lv_sub hl [0, 1, 2, 3, 4] rfl)
        · replace h := fb_in c_36 h
          refine lv_iload_n hx hb dX2_mostOf_57 rfl (lv_at hl 1 rfl) ?_
          refine lv_iload hx hb dX2_mostOf_58 (lv_at hl 4 rfl) ?_
          refine lv_icmp_lt (tgt := 72) hx hb dX2_mostOf_60 (by decide) (fun c_37 => ?_) (fun c_37 => ?_)
          · replace h := fb_ip c_37 h
            refine lv_iconst (v := 0) hx hb dX2_mostOf_72 (by decide) ?_
            exact hJ73 _ _ _ _ _ _ _ _ h hH (lv_sub hl [0, 1, 2, 3, 4] rfl)
          · replace h := fb_in c_37 h
            refine lv_iload_n hx hb dX2_mostOf_63 rfl (lv_at hl 2 rfl) ?_
            refine lv_iload_n hx hb dX2_mostOf_64 rfl (lv_at hl 3 rfl) ?_
            refine lv_icmp_lt (tgt := 72) hx hb dX2_mostOf_65 (by decide) (fun c_38 => ?_) (fun c_38 => ?_)
            · replace h := fb_ip c_38 h
              refine lv_iconst (v := 0) hx hb dX2_mostOf_72 (by decide) ?_
              exact hJ73 _ _ _ _ _ _ _ _ h hH (lv_sub hl [0, 1, 2, 3, 4] rfl)
            · replace h := fb_in c_38 h
              refine lv_iconst (v := 1) hx hb dX2_mostOf_68 (by decide) ?_
              refine lv_goto (tgt := 73) hx hb dX2_mostOf_69 (by decide) ?_
              exact hJ73 _ _ _ _ _ _ _ _ h hH (lv_sub hl [0, 1, 2, 3, 4] rfl)
    · replace h := fb_ip c_32 h
      refine lv_aload_n hx hb dX2_mostOf_32 rfl (lv_at hl 0 rfl) ?_
      refine F_ra28 cx hH lkX2_18 dX2_mostOf_33 ?_
      refine lv_iload_n hx hb dX2_mostOf_36 rfl (lv_at hl 1 rfl) ?_
      refine lv_bipush (v := 61) hx hb dX2_mostOf_37 (by decide) ?_
      refine lv_imul hx hb dX2_mostOf_39 ?_
      refine lv_iload_n hx hb dX2_mostOf_40 rfl (lv_at hl 2 rfl) ?_
      refine lv_iadd hx hb dX2_mostOf_41 ?_
      refine lv_iconst (v := 1) hx hb dX2_mostOf_42 (by decide) ?_
      refine lv_isub hx hb dX2_mostOf_43 ?_
      obtain ⟨hi_39, h⟩ := fb_ck_s h
      refine F_l28 cx hH hi_39 dX2_mostOf_44 ?_
      obtain rfl := Option.some.inj h
      exact fb_iret (wd := wF cI cZ b) cx rfl hH dX2_mostOf_45
  · replace h := fb_ip c_30 h
    refine lv_aload_n hx hb dX2_mostOf_9 rfl (lv_at hl 0 rfl) ?_
    refine F_ra28 cx hH lkX2_18 dX2_mostOf_10 ?_
    refine lv_iload_n hx hb dX2_mostOf_13 rfl (lv_at hl 1 rfl) ?_
    refine lv_iconst (v := 1) hx hb dX2_mostOf_14 (by decide) ?_
    refine lv_isub hx hb dX2_mostOf_15 ?_
    refine lv_bipush (v := 61) hx hb dX2_mostOf_16 (by decide) ?_
    refine lv_imul hx hb dX2_mostOf_18 ?_
    refine lv_iload_n hx hb dX2_mostOf_19 rfl (lv_at hl 2 rfl) ?_
    refine lv_iadd hx hb dX2_mostOf_20 ?_
    obtain ⟨hi_40, h⟩ := fb_ck_s h
    refine F_l28 cx hH hi_40 dX2_mostOf_21 ?_
    obtain rfl := Option.some.inj h
    exact fb_iret (wd := wF cI cZ b) cx rfl hH dX2_mostOf_22
set_option maxHeartbeats 4000000 in
set_option maxRecDepth 100000 in
theorem ctX2_mostPieces (l : Launch) (D : va_G) (cI cZ : ClassId) (b : Nat → Nat) {S : Sg} {x1 x2 : Int32} {r : Int32} {S9 : Sg} (h : pX2_mostPieces S x1 x2 = some (r, S9)) : CTi l D cI cZ (wF cI cZ b) yX2_mostPieces cX2_mostPieces 5 (some .int) 2 [.ref (b 6), .int x1, .int x2] S r S9 := by
  refine fb_starti (by decide) (Nat.le_of_ble_eq_true rfl) (fun p e s m args below meth c ls cx hH hl => ?_)
  obtain ⟨hx, hb, -⟩ := id cx
  have hl : lv_has ls 5 [(0, .ref (b 6)), (1, .int x1), (2, .int x2)] := hl
  have hL20 : ∀ (n : Nat), ∀ (T : Sg) (x1 x2 x3 : Int32) (H : Heap) (locs : List Loc) (ls : Array Slot), pX2_mostPieces_l20 n T x1 x2 x3 = some (r, S9) → HB D (wF cI cZ b S) (wF cI cZ b T) s H locs → lv_has ls 5 [(0, .ref (b 6)), (1, .int x1), (2, .int x2), (3, .int x3)] → W p l e (rmk 2) s m args below meth c H locs 0 0 (Ei D cI cZ (wF cI cZ b) S r S9 below args s) (F0 m 20 ls []) := by
    intro n20
    induction n20 with
    | zero => intro T x1 x2 x3 H locs ls h hH hl; simp [pX2_mostPieces_l20] at h
    | succ n20 ih20 =>
      have hL31 : ∀ (n : Nat), ∀ (T : Sg) (x1 x2 x3 x4 : Int32) (H : Heap) (locs : List Loc) (ls : Array Slot), pX2_mostPieces_l31 (pX2_mostPieces_l20 n20) n T x1 x2 x3 x4 = some (r, S9) → HB D (wF cI cZ b S) (wF cI cZ b T) s H locs → lv_has ls 5 [(0, .ref (b 6)), (1, .int x1), (2, .int x2), (3, .int x3), (4, .int x4)] → W p l e (rmk 2) s m args below meth c H locs 0 0 (Ei D cI cZ (wF cI cZ b) S r S9 below args s) (F0 m 31 ls []) := by
        intro n31
        induction n31 with
        | zero => intro T x1 x2 x3 x4 H locs ls h hH hl; simp [pX2_mostPieces_l31] at h
        | succ n31 ih31 =>
          intro T x1 x2 x3 x4 H locs ls h hH hl
          rw [pX2_mostPieces_l31] at h
          refine lv_iload hx hb dX2_mostPieces_31 (lv_at hl 4 rfl) ?_
          refine lv_aload_n hx hb dX2_mostPieces_33 rfl (lv_at hl 0 rfl) ?_
          refine F_g12 cx hH lkX2_15 dX2_mostPieces_34 ?_
          refine lv_icmp_gt (tgt := 67) hx hb dX2_mostPieces_37 (by decide) (fun c_16 => ?_) (fun c_16 => ?_)
          · replace h := fb_ip c_16 h
            obtain ⟨x3_17, ex3_17, h⟩ := fb_vl_s h
            refine lv_iinc (v := x3_17) (lv' := [(3, .int x3_17), (0, .ref (b 6)), (1, .int x1), (2, .int x2), (4, .int x4)]) hx hb dX2_mostPieces_67 hl (k := 3) rfl (by rw [ex3_17]; rfl) (by decide) rfl (fun ls hl => ?_)
            refine lv_goto (tgt := 20) hx hb dX2_mostPieces_70 (by decide) ?_
            exact ih20 _ _ _ _ _ _ _ h hH (lv_sub hl [1, 2, 3, 0] rfl)
          · replace h := fb_in c_16 h
            refine lv_aload_n hx hb dX2_mostPieces_40 rfl (lv_at hl 0 rfl) ?_
            refine F_ra28 cx hH lkX2_18 dX2_mostPieces_41 ?_
            refine lv_iload_n hx hb dX2_mostPieces_44 rfl (lv_at hl 3 rfl) ?_
            refine lv_bipush (v := 61) hx hb dX2_mostPieces_45 (by decide) ?_
            refine lv_imul hx hb dX2_mostPieces_47 ?_
            refine lv_iload hx hb dX2_mostPieces_48 (lv_at hl 4 rfl) ?_
            refine lv_iadd hx hb dX2_mostPieces_50 ?_
            refine lv_aload_n hx hb dX2_mostPieces_51 rfl (lv_at hl 0 rfl) ?_
            refine lv_iload_n hx hb dX2_mostPieces_52 rfl (lv_at hl 3 rfl) ?_
            refine lv_iload hx hb dX2_mostPieces_53 (lv_at hl 4 rfl) ?_
            refine lv_iload_n hx hb dX2_mostPieces_55 rfl (lv_at hl 1 rfl) ?_
            refine lv_iload_n hx hb dX2_mostPieces_56 rfl (lv_at hl 2 rfl) ?_
            obtain ⟨r_19, hc_18, h⟩ := fb_bd_s h
            refine fb_vi (wd := wF cI cZ b) (As := [.int x3, .int x4, .int x1, .int x2]) (rest := [.int ((x3 * 61) + x4), .ref (b 28)]) cx hH mwX2_mostOf (ctX2_mostOf l D cI cZ b hc_18) (F_rc6 cx hH) mlX2_30 (by decide) rfl hl.1 (Nat.le_of_ble_eq_true rfl) rfl dX2_mostPieces_57 (fun H locs hH => ?_)
            obtain ⟨hi_21, h⟩ := fb_ck_s h
            obtain ⟨S_20, eS_20, h⟩ := fb_st_s h
            refine F_s28 cx hH hi_21 dX2_mostPieces_60 (fun H locs hH => ?_)
            rw [← eS_20] at hH
            obtain ⟨x4_22, ex4_22, h⟩ := fb_vl_s h
            refine lv_iinc (v := x4_22) (lv' := [(4, .int x4_22), (0, .ref (b 6)), (1, .int x1), (2, .int x2), (3, .int x3)]) hx hb dX2_mostPieces_61 hl (k := 4) rfl (by rw [ex4_22]; rfl) (by decide) rfl (fun ls hl => ?_)
            refine lv_goto (tgt := 31) hx hb dX2_mostPieces_64 (by decide) ?_
            exact ih31 _ _ _ _ _ _ _ _ h hH (lv_sub hl [1, 2, 3, 4, 0] rfl)
      intro T x1 x2 x3 H locs ls h hH hl
      rw [pX2_mostPieces_l20] at h
      refine lv_iload_n hx hb dX2_mostPieces_20 rfl (lv_at hl 3 rfl) ?_
      refine lv_aload_n hx hb dX2_mostPieces_21 rfl (lv_at hl 0 rfl) ?_
      refine F_g11 cx hH lkX2_9 dX2_mostPieces_22 ?_
      refine lv_icmp_gt (tgt := 73) hx hb dX2_mostPieces_25 (by decide) (fun c_23 => ?_) (fun c_23 => ?_)
      · replace h := fb_ip c_23 h
        refine lv_aload_n hx hb dX2_mostPieces_73 rfl (lv_at hl 0 rfl) ?_
        refine F_ra28 cx hH lkX2_18 dX2_mostPieces_74 ?_
        refine lv_aload_n hx hb dX2_mostPieces_77 rfl (lv_at hl 0 rfl) ?_
        refine F_g11 cx hH lkX2_9 dX2_mostPieces_78 ?_
        refine lv_bipush (v := 61) hx hb dX2_mostPieces_81 (by decide) ?_
        refine lv_imul hx hb dX2_mostPieces_83 ?_
        refine lv_aload_n hx hb dX2_mostPieces_84 rfl (lv_at hl 0 rfl) ?_
        refine F_g12 cx hH lkX2_15 dX2_mostPieces_85 ?_
        refine lv_iadd hx hb dX2_mostPieces_88 ?_
        obtain ⟨hi_24, h⟩ := fb_ck_s h
        refine F_l28 cx hH hi_24 dX2_mostPieces_89 ?_
        obtain ⟨rfl, rfl⟩ := Prod.mk.inj (Option.some.inj h)
        exact fb_iret (wd := wF cI cZ b) cx rfl hH dX2_mostPieces_90
      · replace h := fb_in c_23 h
        refine lv_iconst (v := 1) hx hb dX2_mostPieces_28 (by decide) ?_
        obtain ⟨x4_25, ex4_25, h⟩ := fb_vl_s h
        refine fb_top ex4_25 ?_
        refine lv_istore (lv' := [(4, .int x4_25), (0, .ref (b 6)), (1, .int x1), (2, .int x2), (3, .int x3)]) hx hb dX2_mostPieces_29 hl (by decide) rfl (fun ls hl => ?_)
        exact hL31 5000 _ _ _ _ _ _ _ _ h hH (lv_sub hl [1, 2, 3, 4, 0] rfl)
  unfold pX2_mostPieces at h
  refine lv_iload_n hx hb dX2_mostPieces_0 rfl (lv_at hl 1 rfl) ?_
  refine lv_iconst (v := 1) hx hb dX2_mostPieces_1 (by decide) ?_
  refine lv_icmp_lt (tgt := 10) hx hb dX2_mostPieces_2 (by decide) (fun c_11 => ?_) (fun c_11 => ?_)
  · replace h := fb_ip c_11 h
    refine lv_iconst (v := 0) hx hb dX2_mostPieces_10 (by decide) ?_
    obtain ⟨rfl, rfl⟩ := Prod.mk.inj (Option.some.inj h)
    exact fb_iret (wd := wF cI cZ b) cx rfl hH dX2_mostPieces_11
  · replace h := fb_in c_11 h
    refine lv_iload_n hx hb dX2_mostPieces_5 rfl (lv_at hl 2 rfl) ?_
    refine lv_iconst (v := 1) hx hb dX2_mostPieces_6 (by decide) ?_
    refine lv_icmp_ge (tgt := 12) hx hb dX2_mostPieces_7 (by decide) (fun c_12 => ?_) (fun c_12 => ?_)
    · replace h := fb_ip c_12 h
      refine lv_aload_n hx hb dX2_mostPieces_12 rfl (lv_at hl 0 rfl) ?_
      refine lv_iload_n hx hb dX2_mostPieces_13 rfl (lv_at hl 1 rfl) ?_
      refine lv_iload_n hx hb dX2_mostPieces_14 rfl (lv_at hl 2 rfl) ?_
      obtain ⟨S_14, hc_13, h⟩ := fb_bd_s h
      refine fb_vv (wd := wF cI cZ b) (As := [.int x1, .int x2]) (rest := []) cx hH mwX2_markSums (ctX2_markSums l D cI cZ b hc_13) (F_rc6 cx hH) mlX2_26 (by decide) rfl hl.1 (Nat.le_of_ble_eq_true rfl) rfl dX2_mostPieces_15 (fun H locs hH => ?_)
      refine lv_iconst (v := 1) hx hb dX2_mostPieces_18 (by decide) ?_
      obtain ⟨x3_15, ex3_15, h⟩ := fb_vl_s h
      refine fb_top ex3_15 ?_
      refine lv_istore_n (lv' := [(3, .int x3_15), (0, .ref (b 6)), (1, .int x1), (2, .int x2)]) hx hb dX2_mostPieces_19 rfl hl (by decide) rfl (fun ls hl => ?_)
      exact hL20 5000 _ _ _ _ _ _ _ h hH (lv_sub hl [1, 2, 3, 0] rfl)
    · replace h := fb_in c_12 h
      refine lv_iconst (v := 0) hx hb dX2_mostPieces_10 (by decide) ?_
      obtain ⟨rfl, rfl⟩ := Prod.mk.inj (Option.some.inj h)
      exact fb_iret (wd := wF cI cZ b) cx rfl hH dX2_mostPieces_11
