/-! the cases of the law's switch -/
theorem mlw_15 : Cond.methodLink RL 15 yX7_init ∈ TW := List.mem_of_getElem? (i := 7) (by decide +kernel)
theorem mlw_18 : Cond.methodLink RL 18 yX8_init ∈ TW := List.mem_of_getElem? (i := 107) (by decide +kernel)
theorem mlw_19 : Cond.methodLink RL 19 yX7_kind ∈ TW := List.mem_of_getElem? (i := 141) (by decide +kernel)
theorem mlw_22 : Cond.methodLink RL 22 yX8_kind ∈ TW := List.mem_of_getElem? (i := 162) (by decide +kernel)
theorem mlw_23 : Cond.methodLink RL 23 yX7_change ∈ TW := List.mem_of_getElem? (i := 180) (by decide +kernel)
theorem mlw_27 : Cond.methodLink RL 27 yX8_change ∈ TW := List.mem_of_getElem? (i := 200) (by decide +kernel)
theorem mlw_28 : Cond.methodLink RL 28 yX7_length ∈ TW := List.mem_of_getElem? (i := 216) (by decide +kernel)
theorem mlw_32 : Cond.methodLink RL 32 yX8_length ∈ TW := List.mem_of_getElem? (i := 230) (by decide +kernel)
theorem mlw_33 : Cond.methodLink RL 33 yX7_worth ∈ TW := List.mem_of_getElem? (i := 235) (by decide +kernel)
theorem mlw_36 : Cond.methodLink RL 36 yX8_worth ∈ TW := List.mem_of_getElem? (i := 247) (by decide +kernel)
theorem mlw_37 : Cond.methodLink RL 37 yX7_size ∈ TW := List.mem_of_getElem? (i := 255) (by decide +kernel)
theorem mlw_41 : Cond.methodLink RL 41 yX8_size ∈ TW := List.mem_of_getElem? (i := 265) (by decide +kernel)
theorem mlw_42 : Cond.methodLink RL 42 yX7_pour ∈ TW := List.mem_of_getElem? (i := 270) (by decide +kernel)
theorem mlw_45 : Cond.methodLink RL 45 yX8_pour ∈ TW := List.mem_of_getElem? (i := 303) (by decide +kernel)
theorem mlw_46 : Cond.methodLink RL 46 yX7_run ∈ TW := List.mem_of_getElem? (i := 317) (by decide +kernel)
theorem mlw_49 : Cond.methodLink RL 49 yX8_run ∈ TW := List.mem_of_getElem? (i := 328) (by decide +kernel)
theorem mlw_50 : Cond.methodLink RL 50 yX7_best ∈ TW := List.mem_of_getElem? (i := 332) (by decide +kernel)
theorem mlw_53 : Cond.methodLink RL 53 yX8_best ∈ TW := List.mem_of_getElem? (i := 358) (by decide +kernel)
theorem mlw_54 : Cond.methodLink RL 54 yX7_cut ∈ TW := List.mem_of_getElem? (i := 367) (by decide +kernel)
theorem mlw_58 : Cond.methodLink RL 58 yX8_cut ∈ TW := List.mem_of_getElem? (i := 410) (by decide +kernel)
theorem mlw_59 : Cond.methodLink RL 59 yX7_block ∈ TW := List.mem_of_getElem? (i := 424) (by decide +kernel)
theorem mlw_62 : Cond.methodLink RL 62 yX8_block ∈ TW := List.mem_of_getElem? (i := 455) (by decide +kernel)
theorem mlw_63 : Cond.methodLink RL 63 yX7_lay ∈ TW := List.mem_of_getElem? (i := 475) (by decide +kernel)
theorem mlw_66 : Cond.methodLink RL 66 yX8_lay ∈ TW := List.mem_of_getElem? (i := 499) (by decide +kernel)
theorem mlw_67 : Cond.methodLink RL 67 yX7_place ∈ TW := List.mem_of_getElem? (i := 507) (by decide +kernel)
theorem mlw_70 : Cond.methodLink RL 70 yX8_place ∈ TW := List.mem_of_getElem? (i := 512) (by decide +kernel)
theorem mlw_71 : Cond.methodLink RL 71 yX7_lift ∈ TW := List.mem_of_getElem? (i := 516) (by decide +kernel)
theorem mlw_75 : Cond.methodLink RL 75 yX8_lift ∈ TW := List.mem_of_getElem? (i := 524) (by decide +kernel)
theorem mlw_76 : Cond.methodLink RL 76 yX7_pass ∈ TW := List.mem_of_getElem? (i := 528) (by decide +kernel)
theorem mlw_79 : Cond.methodLink RL 79 yX8_pass ∈ TW := List.mem_of_getElem? (i := 537) (by decide +kernel)
theorem mlw_80 : Cond.methodLink RL 80 yX7_pieces ∈ TW := List.mem_of_getElem? (i := 541) (by decide +kernel)
theorem mlw_83 : Cond.methodLink RL 83 yX8_pieces ∈ TW := List.mem_of_getElem? (i := 558) (by decide +kernel)
theorem mlw_84 : Cond.methodLink RL 84 yX7_order ∈ TW := List.mem_of_getElem? (i := 566) (by decide +kernel)
theorem mlw_88 : Cond.methodLink RL 88 yX8_order ∈ TW := List.mem_of_getElem? (i := 577) (by decide +kernel)
theorem mlw_89 : Cond.methodLink RL 89 yX7_fill ∈ TW := List.mem_of_getElem? (i := 582) (by decide +kernel)
theorem mlw_92 : Cond.methodLink RL 92 yX8_fill ∈ TW := List.mem_of_getElem? (i := 635) (by decide +kernel)
theorem mlw_93 : Cond.methodLink RL 93 yL_by ∈ TW := List.mem_of_getElem? (i := 652) (by decide +kernel)
theorem mlw_98 : Cond.methodLink RL 98 yX8_by ∈ TW := List.mem_of_getElem? (i := 667) (by decide +kernel)
theorem mlw_99 : Cond.methodLink RL 99 yX8_thrown ∈ TW := List.mem_of_getElem? (i := 671) (by decide +kernel)
theorem mlw_102 : Cond.methodLink RL 102 yX7_led ∈ TW := List.mem_of_getElem? (i := 675) (by decide +kernel)
theorem mlw_105 : Cond.methodLink RL 105 yX8_led ∈ TW := List.mem_of_getElem? (i := 683) (by decide +kernel)
theorem mlw_106 : Cond.methodLink RL 106 yX7_shred ∈ TW := List.mem_of_getElem? (i := 687) (by decide +kernel)
theorem mlw_109 : Cond.methodLink RL 109 yX8_shred ∈ TW := List.mem_of_getElem? (i := 691) (by decide +kernel)
theorem mlw_110 : Cond.methodLink RL 110 yX7_count ∈ TW := List.mem_of_getElem? (i := 695) (by decide +kernel)
theorem mlw_113 : Cond.methodLink RL 113 yX8_count ∈ TW := List.mem_of_getElem? (i := 705) (by decide +kernel)
theorem mlw_114 : Cond.methodLink RL 114 yX7_trouble ∈ TW := List.mem_of_getElem? (i := 709) (by decide +kernel)
theorem mlw_117 : Cond.methodLink RL 117 yX8_trouble ∈ TW := List.mem_of_getElem? (i := 713) (by decide +kernel)
section LOPS
variable {p : Program} {l : Launch} {e : Env} {s : State} {m : MethodId} {args : Array Value} {below : List Frame} {meth : Method} {c : Code} {H : Heap} {locs : List Loc} {Q : State → Prop} {cells slots : Nat}
variable {D : va_G} {cI cZ cJ : ClassId} {ls : Array Slot} {sc L k o : Nat} {xs : Nat → Int32} {a b : Nat → Nat} {F N : Sg} {f : Nat → Int64}
abbrev wL (cI cZ cJ : ClassId) (a b : Nat → Nat) (o : Nat) (F N : Sg) (f : Nat → Int64) : va_W := (wM cI cZ a N ++ wO cJ o f) ++ wF cI cZ b F
abbrev lvL (sc o k : Nat) (a b : Nat → Nat) : List (Nat × Value) := [(4, .int (nI (6 * k))), (3, .ref o), (2, .ref (a 0)), (1, .ref (b 0)), (0, .ref sc)]
set_option maxHeartbeats 1000000 in
theorem lo_kind (C : LC p s m args meth c sc L xs D cI cZ cJ k) (hR : Rel F N) (hH : HB D [] (wL cI cZ cJ a b o F N f) s H locs) (hl : lv_has ls 7 (lvL sc o k a b)) (hce : cells ≤ room_1.cells ∧ slots ≤ room_1.slots)
    (kk : ∀ (F N : Sg) (H : Heap) (locs : List Loc), Rel F N → HB D [] (wL cI cZ cJ a b o F N f) s H locs → W p l e room_1 s m args below meth c H locs cells slots Q (F0 m 869 ls [])) : W p l e room_1 s m args below meth c H locs cells slots Q (F0 m 144 ls []) := by
  have cx := C.1
  obtain ⟨hx, hb, -⟩ := id cx
  obtain ⟨r, F9, N9, hF, hN, hR9⟩ := op_kind hR (xs (6 * k + 1)) (xs (6 * k + 2))
  refine lv_aload_n hx hb dL_law_144 rfl (lv_at hl 3 rfl) ?_
  refine fl_arg (lv := lvL sc o k a b) 1 (by decide) (v := 1) (by decide) rfl C hH (lv_at hl 0 rfl) (lv_at hl 4 rfl) dL_law_145 dL_law_146 dL_law_148 dL_law_149 dL_law_150 ?_
  refine fl_arg (lv := lvL sc o k a b) 2 (by decide) (v := 2) (by decide) rfl C hH (lv_at hl 0 rfl) (lv_at hl 4 rfl) dL_law_151 dL_law_152 dL_law_154 dL_law_155 dL_law_156 ?_
  refine fl_vi (wd := wF cI cZ b) (ws := wM cI cZ a N ++ wO cJ o f) (As := [.int (xs (6 * k + 1)), .int (xs (6 * k + 2))]) (rest := []) cx hH mwX7_kind (ctX7_kind l D cI cZ b hF) (F_rc0 (S := F) cx (HB_right hH)) mlw_19 (by decide) hce rfl hl.1 (Nat.le_of_ble_eq_true rfl) rfl dL_law_157 (fun H locs hH => ?_)
  have hH := HB_R (HB_R hH)
  refine lv_aload_n hx hb dL_law_160 rfl (lv_at hl 2 rfl) ?_
  refine fl_arg (lv := lvL sc o k a b) 1 (by decide) (v := 1) (by decide) rfl C hH (lv_at hl 0 rfl) (lv_at hl 4 rfl) dL_law_161 dL_law_162 dL_law_164 dL_law_165 dL_law_166 ?_
  refine fl_arg (lv := lvL sc o k a b) 2 (by decide) (v := 2) (by decide) rfl C hH (lv_at hl 0 rfl) (lv_at hl 4 rfl) dL_law_167 dL_law_168 dL_law_170 dL_law_171 dL_law_172 ?_
  refine fl_vi (wd := wM cI cZ a) (ws := wO cJ o f ++ wF cI cZ b F9) (As := [.int (xs (6 * k + 1)), .int (xs (6 * k + 2))]) (rest := [.int r]) cx hH mwX8_kind (ctX8_kind l D cI cZ a hN) (M_rc0 (S := N) cx (HB_right hH)) mlw_22 (by decide) hce rfl hl.1 (Nat.le_of_ble_eq_true rfl) rfl dL_law_173 (fun H locs hH => ?_)
  have hH := HB_R hH
  exact lv_icmp_eq (tgt := 869) hx hb dL_law_176 (by decide) (fun _ => kk _ _ _ _ hR9 hH) (fun z => absurd rfl z)
set_option maxHeartbeats 1000000 in
theorem lo_change (C : LC p s m args meth c sc L xs D cI cZ cJ k) (hR : Rel F N) (hH : HB D [] (wL cI cZ cJ a b o F N f) s H locs) (hl : lv_has ls 7 (lvL sc o k a b)) (hce : cells ≤ room_1.cells ∧ slots ≤ room_1.slots)
    (kk : ∀ (F N : Sg) (H : Heap) (locs : List Loc), Rel F N → HB D [] (wL cI cZ cJ a b o F N f) s H locs → W p l e room_1 s m args below meth c H locs cells slots Q (F0 m 869 ls [])) : W p l e room_1 s m args below meth c H locs cells slots Q (F0 m 181 ls []) := by
  have cx := C.1
  obtain ⟨hx, hb, -⟩ := id cx
  obtain ⟨r, F9, N9, hF, hN, hR9⟩ := op_change hR (xs (6 * k + 1)) (xs (6 * k + 2)) (xs (6 * k + 3))
  refine lv_aload_n hx hb dL_law_181 rfl (lv_at hl 3 rfl) ?_
  refine fl_arg (lv := lvL sc o k a b) 1 (by decide) (v := 1) (by decide) rfl C hH (lv_at hl 0 rfl) (lv_at hl 4 rfl) dL_law_182 dL_law_183 dL_law_185 dL_law_186 dL_law_187 ?_
  refine fl_arg (lv := lvL sc o k a b) 2 (by decide) (v := 2) (by decide) rfl C hH (lv_at hl 0 rfl) (lv_at hl 4 rfl) dL_law_188 dL_law_189 dL_law_191 dL_law_192 dL_law_193 ?_
  refine fl_arg (lv := lvL sc o k a b) 3 (by decide) (v := 3) (by decide) rfl C hH (lv_at hl 0 rfl) (lv_at hl 4 rfl) dL_law_194 dL_law_195 dL_law_197 dL_law_198 dL_law_199 ?_
  refine fl_vi (wd := wF cI cZ b) (ws := wM cI cZ a N ++ wO cJ o f) (As := [.int (xs (6 * k + 1)), .int (xs (6 * k + 2)), .int (xs (6 * k + 3))]) (rest := []) cx hH mwX7_change (ctX7_change l D cI cZ b hF) (F_rc0 (S := F) cx (HB_right hH)) mlw_23 (by decide) hce rfl hl.1 (Nat.le_of_ble_eq_true rfl) rfl dL_law_200 (fun H locs hH => ?_)
  have hH := HB_R (HB_R hH)
  refine lv_aload_n hx hb dL_law_203 rfl (lv_at hl 2 rfl) ?_
  refine fl_arg (lv := lvL sc o k a b) 1 (by decide) (v := 1) (by decide) rfl C hH (lv_at hl 0 rfl) (lv_at hl 4 rfl) dL_law_204 dL_law_205 dL_law_207 dL_law_208 dL_law_209 ?_
  refine fl_arg (lv := lvL sc o k a b) 2 (by decide) (v := 2) (by decide) rfl C hH (lv_at hl 0 rfl) (lv_at hl 4 rfl) dL_law_210 dL_law_211 dL_law_213 dL_law_214 dL_law_215 ?_
  refine fl_arg (lv := lvL sc o k a b) 3 (by decide) (v := 3) (by decide) rfl C hH (lv_at hl 0 rfl) (lv_at hl 4 rfl) dL_law_216 dL_law_217 dL_law_219 dL_law_220 dL_law_221 ?_
  refine fl_vi (wd := wM cI cZ a) (ws := wO cJ o f ++ wF cI cZ b F9) (As := [.int (xs (6 * k + 1)), .int (xs (6 * k + 2)), .int (xs (6 * k + 3))]) (rest := [.int r]) cx hH mwX8_change (ctX8_change l D cI cZ a hN) (M_rc0 (S := N) cx (HB_right hH)) mlw_27 (by decide) hce rfl hl.1 (Nat.le_of_ble_eq_true rfl) rfl dL_law_222 (fun H locs hH => ?_)
  have hH := HB_R hH
  exact lv_icmp_eq (tgt := 869) hx hb dL_law_225 (by decide) (fun _ => kk _ _ _ _ hR9 hH) (fun z => absurd rfl z)
set_option maxHeartbeats 1000000 in
theorem lo_length (C : LC p s m args meth c sc L xs D cI cZ cJ k) (hR : Rel F N) (hH : HB D [] (wL cI cZ cJ a b o F N f) s H locs) (hl : lv_has ls 7 (lvL sc o k a b)) (hce : cells ≤ room_1.cells ∧ slots ≤ room_1.slots)
    (kk : ∀ (F N : Sg) (H : Heap) (locs : List Loc), Rel F N → HB D [] (wL cI cZ cJ a b o F N f) s H locs → W p l e room_1 s m args below meth c H locs cells slots Q (F0 m 869 ls [])) : W p l e room_1 s m args below meth c H locs cells slots Q (F0 m 230 ls []) := by
  have cx := C.1
  obtain ⟨hx, hb, -⟩ := id cx
  obtain ⟨r, F9, N9, hF, hN, hR9⟩ := op_length hR (xs (6 * k + 1))
  refine lv_aload_n hx hb dL_law_230 rfl (lv_at hl 3 rfl) ?_
  refine fl_arg (lv := lvL sc o k a b) 1 (by decide) (v := 1) (by decide) rfl C hH (lv_at hl 0 rfl) (lv_at hl 4 rfl) dL_law_231 dL_law_232 dL_law_234 dL_law_235 dL_law_236 ?_
  refine fl_vi (wd := wF cI cZ b) (ws := wM cI cZ a N ++ wO cJ o f) (As := [.int (xs (6 * k + 1))]) (rest := []) cx hH mwX7_length (ctX7_length l D cI cZ b hF) (F_rc0 (S := F) cx (HB_right hH)) mlw_28 (by decide) hce rfl hl.1 (Nat.le_of_ble_eq_true rfl) rfl dL_law_237 (fun H locs hH => ?_)
  have hH := HB_R (HB_R hH)
  refine lv_aload_n hx hb dL_law_240 rfl (lv_at hl 2 rfl) ?_
  refine fl_arg (lv := lvL sc o k a b) 1 (by decide) (v := 1) (by decide) rfl C hH (lv_at hl 0 rfl) (lv_at hl 4 rfl) dL_law_241 dL_law_242 dL_law_244 dL_law_245 dL_law_246 ?_
  refine fl_vi (wd := wM cI cZ a) (ws := wO cJ o f ++ wF cI cZ b F9) (As := [.int (xs (6 * k + 1))]) (rest := [.int r]) cx hH mwX8_length (ctX8_length l D cI cZ a hN) (M_rc0 (S := N) cx (HB_right hH)) mlw_32 (by decide) hce rfl hl.1 (Nat.le_of_ble_eq_true rfl) rfl dL_law_247 (fun H locs hH => ?_)
  have hH := HB_R hH
  exact lv_icmp_eq (tgt := 869) hx hb dL_law_250 (by decide) (fun _ => kk _ _ _ _ hR9 hH) (fun z => absurd rfl z)
set_option maxHeartbeats 1000000 in
theorem lo_worth (C : LC p s m args meth c sc L xs D cI cZ cJ k) (hR : Rel F N) (hH : HB D [] (wL cI cZ cJ a b o F N f) s H locs) (hl : lv_has ls 7 (lvL sc o k a b)) (hce : cells ≤ room_1.cells ∧ slots ≤ room_1.slots)
    (kk : ∀ (F N : Sg) (H : Heap) (locs : List Loc), Rel F N → HB D [] (wL cI cZ cJ a b o F N f) s H locs → W p l e room_1 s m args below meth c H locs cells slots Q (F0 m 869 ls [])) : W p l e room_1 s m args below meth c H locs cells slots Q (F0 m 255 ls []) := by
  have cx := C.1
  obtain ⟨hx, hb, -⟩ := id cx
  obtain ⟨r, F9, N9, hF, hN, hR9⟩ := op_worth hR (xs (6 * k + 1)) (xs (6 * k + 2)) (xs (6 * k + 3))
  refine lv_aload_n hx hb dL_law_255 rfl (lv_at hl 3 rfl) ?_
  refine fl_arg (lv := lvL sc o k a b) 1 (by decide) (v := 1) (by decide) rfl C hH (lv_at hl 0 rfl) (lv_at hl 4 rfl) dL_law_256 dL_law_257 dL_law_259 dL_law_260 dL_law_261 ?_
  refine fl_arg (lv := lvL sc o k a b) 2 (by decide) (v := 2) (by decide) rfl C hH (lv_at hl 0 rfl) (lv_at hl 4 rfl) dL_law_262 dL_law_263 dL_law_265 dL_law_266 dL_law_267 ?_
  refine fl_arg (lv := lvL sc o k a b) 3 (by decide) (v := 3) (by decide) rfl C hH (lv_at hl 0 rfl) (lv_at hl 4 rfl) dL_law_268 dL_law_269 dL_law_271 dL_law_272 dL_law_273 ?_
  refine fl_vi (wd := wF cI cZ b) (ws := wM cI cZ a N ++ wO cJ o f) (As := [.int (xs (6 * k + 1)), .int (xs (6 * k + 2)), .int (xs (6 * k + 3))]) (rest := []) cx hH mwX7_worth (ctX7_worth l D cI cZ b hF) (F_rc0 (S := F) cx (HB_right hH)) mlw_33 (by decide) hce rfl hl.1 (Nat.le_of_ble_eq_true rfl) rfl dL_law_274 (fun H locs hH => ?_)
  have hH := HB_R (HB_R hH)
  refine lv_aload_n hx hb dL_law_277 rfl (lv_at hl 2 rfl) ?_
  refine fl_arg (lv := lvL sc o k a b) 1 (by decide) (v := 1) (by decide) rfl C hH (lv_at hl 0 rfl) (lv_at hl 4 rfl) dL_law_278 dL_law_279 dL_law_281 dL_law_282 dL_law_283 ?_
  refine fl_arg (lv := lvL sc o k a b) 2 (by decide) (v := 2) (by decide) rfl C hH (lv_at hl 0 rfl) (lv_at hl 4 rfl) dL_law_284 dL_law_285 dL_law_287 dL_law_288 dL_law_289 ?_
  refine fl_arg (lv := lvL sc o k a b) 3 (by decide) (v := 3) (by decide) rfl C hH (lv_at hl 0 rfl) (lv_at hl 4 rfl) dL_law_290 dL_law_291 dL_law_293 dL_law_294 dL_law_295 ?_
  refine fl_vi (wd := wM cI cZ a) (ws := wO cJ o f ++ wF cI cZ b F9) (As := [.int (xs (6 * k + 1)), .int (xs (6 * k + 2)), .int (xs (6 * k + 3))]) (rest := [.int r]) cx hH mwX8_worth (ctX8_worth l D cI cZ a hN) (M_rc0 (S := N) cx (HB_right hH)) mlw_36 (by decide) hce rfl hl.1 (Nat.le_of_ble_eq_true rfl) rfl dL_law_296 (fun H locs hH => ?_)
  have hH := HB_R hH
  exact lv_icmp_eq (tgt := 869) hx hb dL_law_299 (by decide) (fun _ => kk _ _ _ _ hR9 hH) (fun z => absurd rfl z)
set_option maxHeartbeats 1000000 in
theorem lo_size (C : LC p s m args meth c sc L xs D cI cZ cJ k) (hR : Rel F N) (hH : HB D [] (wL cI cZ cJ a b o F N f) s H locs) (hl : lv_has ls 7 (lvL sc o k a b)) (hce : cells ≤ room_1.cells ∧ slots ≤ room_1.slots)
    (kk : ∀ (F N : Sg) (H : Heap) (locs : List Loc), Rel F N → HB D [] (wL cI cZ cJ a b o F N f) s H locs → W p l e room_1 s m args below meth c H locs cells slots Q (F0 m 869 ls [])) : W p l e room_1 s m args below meth c H locs cells slots Q (F0 m 304 ls []) := by
  have cx := C.1
  obtain ⟨hx, hb, -⟩ := id cx
  obtain ⟨r, F9, N9, hF, hN, hR9⟩ := op_size hR (xs (6 * k + 1)) (xs (6 * k + 2))
  refine lv_aload_n hx hb dL_law_304 rfl (lv_at hl 3 rfl) ?_
  refine fl_arg (lv := lvL sc o k a b) 1 (by decide) (v := 1) (by decide) rfl C hH (lv_at hl 0 rfl) (lv_at hl 4 rfl) dL_law_305 dL_law_306 dL_law_308 dL_law_309 dL_law_310 ?_
  refine fl_arg (lv := lvL sc o k a b) 2 (by decide) (v := 2) (by decide) rfl C hH (lv_at hl 0 rfl) (lv_at hl 4 rfl) dL_law_311 dL_law_312 dL_law_314 dL_law_315 dL_law_316 ?_
  refine fl_vi (wd := wF cI cZ b) (ws := wM cI cZ a N ++ wO cJ o f) (As := [.int (xs (6 * k + 1)), .int (xs (6 * k + 2))]) (rest := []) cx hH mwX7_size (ctX7_size l D cI cZ b hF) (F_rc0 (S := F) cx (HB_right hH)) mlw_37 (by decide) hce rfl hl.1 (Nat.le_of_ble_eq_true rfl) rfl dL_law_317 (fun H locs hH => ?_)
  have hH := HB_R (HB_R hH)
  refine lv_aload_n hx hb dL_law_320 rfl (lv_at hl 2 rfl) ?_
  refine fl_arg (lv := lvL sc o k a b) 1 (by decide) (v := 1) (by decide) rfl C hH (lv_at hl 0 rfl) (lv_at hl 4 rfl) dL_law_321 dL_law_322 dL_law_324 dL_law_325 dL_law_326 ?_
  refine fl_arg (lv := lvL sc o k a b) 2 (by decide) (v := 2) (by decide) rfl C hH (lv_at hl 0 rfl) (lv_at hl 4 rfl) dL_law_327 dL_law_328 dL_law_330 dL_law_331 dL_law_332 ?_
  refine fl_vi (wd := wM cI cZ a) (ws := wO cJ o f ++ wF cI cZ b F9) (As := [.int (xs (6 * k + 1)), .int (xs (6 * k + 2))]) (rest := [.int r]) cx hH mwX8_size (ctX8_size l D cI cZ a hN) (M_rc0 (S := N) cx (HB_right hH)) mlw_41 (by decide) hce rfl hl.1 (Nat.le_of_ble_eq_true rfl) rfl dL_law_333 (fun H locs hH => ?_)
  have hH := HB_R hH
  exact lv_icmp_eq (tgt := 869) hx hb dL_law_336 (by decide) (fun _ => kk _ _ _ _ hR9 hH) (fun z => absurd rfl z)
set_option maxHeartbeats 1000000 in
theorem lo_pour (C : LC p s m args meth c sc L xs D cI cZ cJ k) (hR : Rel F N) (hH : HB D [] (wL cI cZ cJ a b o F N f) s H locs) (hl : lv_has ls 7 (lvL sc o k a b)) (hce : cells ≤ room_1.cells ∧ slots ≤ room_1.slots)
    (kk : ∀ (F N : Sg) (H : Heap) (locs : List Loc), Rel F N → HB D [] (wL cI cZ cJ a b o F N f) s H locs → W p l e room_1 s m args below meth c H locs cells slots Q (F0 m 869 ls [])) : W p l e room_1 s m args below meth c H locs cells slots Q (F0 m 341 ls []) := by
  have cx := C.1
  obtain ⟨hx, hb, -⟩ := id cx
  obtain ⟨r, F9, N9, hF, hN, hR9⟩ := op_pour hR (xs (6 * k + 1)) (xs (6 * k + 2))
  refine lv_aload_n hx hb dL_law_341 rfl (lv_at hl 3 rfl) ?_
  refine fl_arg (lv := lvL sc o k a b) 1 (by decide) (v := 1) (by decide) rfl C hH (lv_at hl 0 rfl) (lv_at hl 4 rfl) dL_law_342 dL_law_343 dL_law_345 dL_law_346 dL_law_347 ?_
  refine fl_arg (lv := lvL sc o k a b) 2 (by decide) (v := 2) (by decide) rfl C hH (lv_at hl 0 rfl) (lv_at hl 4 rfl) dL_law_348 dL_law_349 dL_law_351 dL_law_352 dL_law_353 ?_
  refine fl_vi (wd := wF cI cZ b) (ws := wM cI cZ a N ++ wO cJ o f) (As := [.int (xs (6 * k + 1)), .int (xs (6 * k + 2))]) (rest := []) cx hH mwX7_pour (ctX7_pour l D cI cZ b hF) (F_rc0 (S := F) cx (HB_right hH)) mlw_42 (by decide) hce rfl hl.1 (Nat.le_of_ble_eq_true rfl) rfl dL_law_354 (fun H locs hH => ?_)
  have hH := HB_R (HB_R hH)
  refine lv_aload_n hx hb dL_law_357 rfl (lv_at hl 2 rfl) ?_
  refine fl_arg (lv := lvL sc o k a b) 1 (by decide) (v := 1) (by decide) rfl C hH (lv_at hl 0 rfl) (lv_at hl 4 rfl) dL_law_358 dL_law_359 dL_law_361 dL_law_362 dL_law_363 ?_
  refine fl_arg (lv := lvL sc o k a b) 2 (by decide) (v := 2) (by decide) rfl C hH (lv_at hl 0 rfl) (lv_at hl 4 rfl) dL_law_364 dL_law_365 dL_law_367 dL_law_368 dL_law_369 ?_
  refine fl_vi (wd := wM cI cZ a) (ws := wO cJ o f ++ wF cI cZ b F9) (As := [.int (xs (6 * k + 1)), .int (xs (6 * k + 2))]) (rest := [.int r]) cx hH mwX8_pour (ctX8_pour l D cI cZ a hN) (M_rc0 (S := N) cx (HB_right hH)) mlw_45 (by decide) hce rfl hl.1 (Nat.le_of_ble_eq_true rfl) rfl dL_law_370 (fun H locs hH => ?_)
  have hH := HB_R hH
  exact lv_icmp_eq (tgt := 869) hx hb dL_law_373 (by decide) (fun _ => kk _ _ _ _ hR9 hH) (fun z => absurd rfl z)
set_option maxHeartbeats 1000000 in
theorem lo_run (C : LC p s m args meth c sc L xs D cI cZ cJ k) (hR : Rel F N) (hH : HB D [] (wL cI cZ cJ a b o F N f) s H locs) (hl : lv_has ls 7 (lvL sc o k a b)) (hce : cells ≤ room_1.cells ∧ slots ≤ room_1.slots)
    (kk : ∀ (F N : Sg) (H : Heap) (locs : List Loc), Rel F N → HB D [] (wL cI cZ cJ a b o F N f) s H locs → W p l e room_1 s m args below meth c H locs cells slots Q (F0 m 869 ls [])) : W p l e room_1 s m args below meth c H locs cells slots Q (F0 m 378 ls []) := by
  have cx := C.1
  obtain ⟨hx, hb, -⟩ := id cx
  obtain ⟨r, N9, hF, hN, hR9⟩ := op_run hR (xs (6 * k + 1)) (xs (6 * k + 2))
  refine lv_aload_n hx hb dL_law_378 rfl (lv_at hl 3 rfl) ?_
  refine fl_arg (lv := lvL sc o k a b) 1 (by decide) (v := 1) (by decide) rfl C hH (lv_at hl 0 rfl) (lv_at hl 4 rfl) dL_law_379 dL_law_380 dL_law_382 dL_law_383 dL_law_384 ?_
  refine fl_arg (lv := lvL sc o k a b) 2 (by decide) (v := 2) (by decide) rfl C hH (lv_at hl 0 rfl) (lv_at hl 4 rfl) dL_law_385 dL_law_386 dL_law_388 dL_law_389 dL_law_390 ?_
  refine fl_vi (wd := wF cI cZ b) (ws := wM cI cZ a N ++ wO cJ o f) (As := [.int (xs (6 * k + 1)), .int (xs (6 * k + 2))]) (rest := []) cx hH mwX7_run (ctX7_run l D cI cZ b hF) (F_rc0 (S := F) cx (HB_right hH)) mlw_46 (by decide) hce rfl hl.1 (Nat.le_of_ble_eq_true rfl) rfl dL_law_391 (fun H locs hH => ?_)
  have hH := HB_R (HB_R hH)
  refine lv_aload_n hx hb dL_law_394 rfl (lv_at hl 2 rfl) ?_
  refine fl_arg (lv := lvL sc o k a b) 1 (by decide) (v := 1) (by decide) rfl C hH (lv_at hl 0 rfl) (lv_at hl 4 rfl) dL_law_395 dL_law_396 dL_law_398 dL_law_399 dL_law_400 ?_
  refine fl_arg (lv := lvL sc o k a b) 2 (by decide) (v := 2) (by decide) rfl C hH (lv_at hl 0 rfl) (lv_at hl 4 rfl) dL_law_401 dL_law_402 dL_law_404 dL_law_405 dL_law_406 ?_
  refine fl_vi (wd := wM cI cZ a) (ws := wO cJ o f ++ wF cI cZ b F) (As := [.int (xs (6 * k + 1)), .int (xs (6 * k + 2))]) (rest := [.int r]) cx hH mwX8_run (ctX8_run l D cI cZ a hN) (M_rc0 (S := N) cx (HB_right hH)) mlw_49 (by decide) hce rfl hl.1 (Nat.le_of_ble_eq_true rfl) rfl dL_law_407 (fun H locs hH => ?_)
  have hH := HB_R hH
  exact lv_icmp_eq (tgt := 869) hx hb dL_law_410 (by decide) (fun _ => kk _ _ _ _ hR9 hH) (fun z => absurd rfl z)
set_option maxHeartbeats 1000000 in
theorem lo_best (C : LC p s m args meth c sc L xs D cI cZ cJ k) (hR : Rel F N) (hH : HB D [] (wL cI cZ cJ a b o F N f) s H locs) (hl : lv_has ls 7 (lvL sc o k a b)) (hce : cells ≤ room_1.cells ∧ slots ≤ room_1.slots)
    (kk : ∀ (F N : Sg) (H : Heap) (locs : List Loc), Rel F N → HB D [] (wL cI cZ cJ a b o F N f) s H locs → W p l e room_1 s m args below meth c H locs cells slots Q (F0 m 869 ls [])) : W p l e room_1 s m args below meth c H locs cells slots Q (F0 m 415 ls []) := by
  have cx := C.1
  obtain ⟨hx, hb, -⟩ := id cx
  obtain ⟨r, F9, N9, hF, hN, hR9⟩ := op_best hR (xs (6 * k + 1)) (xs (6 * k + 2))
  refine lv_aload_n hx hb dL_law_415 rfl (lv_at hl 3 rfl) ?_
  refine fl_arg (lv := lvL sc o k a b) 1 (by decide) (v := 1) (by decide) rfl C hH (lv_at hl 0 rfl) (lv_at hl 4 rfl) dL_law_416 dL_law_417 dL_law_419 dL_law_420 dL_law_421 ?_
  refine fl_arg (lv := lvL sc o k a b) 2 (by decide) (v := 2) (by decide) rfl C hH (lv_at hl 0 rfl) (lv_at hl 4 rfl) dL_law_422 dL_law_423 dL_law_425 dL_law_426 dL_law_427 ?_
  refine fl_vi (wd := wF cI cZ b) (ws := wM cI cZ a N ++ wO cJ o f) (As := [.int (xs (6 * k + 1)), .int (xs (6 * k + 2))]) (rest := []) cx hH mwX7_best (ctX7_best l D cI cZ b hF) (F_rc0 (S := F) cx (HB_right hH)) mlw_50 (by decide) hce rfl hl.1 (Nat.le_of_ble_eq_true rfl) rfl dL_law_428 (fun H locs hH => ?_)
  have hH := HB_R (HB_R hH)
  refine lv_aload_n hx hb dL_law_431 rfl (lv_at hl 2 rfl) ?_
  refine fl_arg (lv := lvL sc o k a b) 1 (by decide) (v := 1) (by decide) rfl C hH (lv_at hl 0 rfl) (lv_at hl 4 rfl) dL_law_432 dL_law_433 dL_law_435 dL_law_436 dL_law_437 ?_
  refine fl_arg (lv := lvL sc o k a b) 2 (by decide) (v := 2) (by decide) rfl C hH (lv_at hl 0 rfl) (lv_at hl 4 rfl) dL_law_438 dL_law_439 dL_law_441 dL_law_442 dL_law_443 ?_
  refine fl_vi (wd := wM cI cZ a) (ws := wO cJ o f ++ wF cI cZ b F9) (As := [.int (xs (6 * k + 1)), .int (xs (6 * k + 2))]) (rest := [.int r]) cx hH mwX8_best (ctX8_best l D cI cZ a hN) (M_rc0 (S := N) cx (HB_right hH)) mlw_53 (by decide) hce rfl hl.1 (Nat.le_of_ble_eq_true rfl) rfl dL_law_444 (fun H locs hH => ?_)
  have hH := HB_R hH
  exact lv_icmp_eq (tgt := 869) hx hb dL_law_447 (by decide) (fun _ => kk _ _ _ _ hR9 hH) (fun z => absurd rfl z)
set_option maxHeartbeats 1000000 in
theorem lo_cut (C : LC p s m args meth c sc L xs D cI cZ cJ k) (hR : Rel F N) (hH : HB D [] (wL cI cZ cJ a b o F N f) s H locs) (hl : lv_has ls 7 (lvL sc o k a b)) (hce : cells ≤ room_1.cells ∧ slots ≤ room_1.slots)
    (kk : ∀ (F N : Sg) (H : Heap) (locs : List Loc), Rel F N → HB D [] (wL cI cZ cJ a b o F N f) s H locs → W p l e room_1 s m args below meth c H locs cells slots Q (F0 m 869 ls [])) : W p l e room_1 s m args below meth c H locs cells slots Q (F0 m 452 ls []) := by
  have cx := C.1
  obtain ⟨hx, hb, -⟩ := id cx
  obtain ⟨r, F9, N9, hF, hN, hR9⟩ := op_cut hR
  refine lv_aload_n hx hb dL_law_452 rfl (lv_at hl 3 rfl) ?_
  refine fl_vi (wd := wF cI cZ b) (ws := wM cI cZ a N ++ wO cJ o f) (As := []) (rest := []) cx hH mwX7_cut (ctX7_cut l D cI cZ b hF) (F_rc0 (S := F) cx (HB_right hH)) mlw_54 (by decide) hce rfl hl.1 (Nat.le_of_ble_eq_true rfl) rfl dL_law_453 (fun H locs hH => ?_)
  have hH := HB_R (HB_R hH)
  refine lv_aload_n hx hb dL_law_456 rfl (lv_at hl 2 rfl) ?_
  refine fl_vi (wd := wM cI cZ a) (ws := wO cJ o f ++ wF cI cZ b F9) (As := []) (rest := [.int r]) cx hH mwX8_cut (ctX8_cut l D cI cZ a hN) (M_rc0 (S := N) cx (HB_right hH)) mlw_58 (by decide) hce rfl hl.1 (Nat.le_of_ble_eq_true rfl) rfl dL_law_457 (fun H locs hH => ?_)
  have hH := HB_R hH
  exact lv_icmp_eq (tgt := 869) hx hb dL_law_460 (by decide) (fun _ => kk _ _ _ _ hR9 hH) (fun z => absurd rfl z)
set_option maxHeartbeats 1000000 in
theorem lo_block (C : LC p s m args meth c sc L xs D cI cZ cJ k) (hR : Rel F N) (hH : HB D [] (wL cI cZ cJ a b o F N f) s H locs) (hl : lv_has ls 7 (lvL sc o k a b)) (hce : cells ≤ room_1.cells ∧ slots ≤ room_1.slots)
    (kk : ∀ (F N : Sg) (H : Heap) (locs : List Loc), Rel F N → HB D [] (wL cI cZ cJ a b o F N f) s H locs → W p l e room_1 s m args below meth c H locs cells slots Q (F0 m 869 ls [])) : W p l e room_1 s m args below meth c H locs cells slots Q (F0 m 465 ls []) := by
  have cx := C.1
  obtain ⟨hx, hb, -⟩ := id cx
  obtain ⟨r, N9, hF, hN, hR9⟩ := op_block hR (xs (6 * k + 1)) (xs (6 * k + 2))
  refine lv_aload_n hx hb dL_law_465 rfl (lv_at hl 3 rfl) ?_
  refine fl_arg (lv := lvL sc o k a b) 1 (by decide) (v := 1) (by decide) rfl C hH (lv_at hl 0 rfl) (lv_at hl 4 rfl) dL_law_466 dL_law_467 dL_law_469 dL_law_470 dL_law_471 ?_
  refine fl_arg (lv := lvL sc o k a b) 2 (by decide) (v := 2) (by decide) rfl C hH (lv_at hl 0 rfl) (lv_at hl 4 rfl) dL_law_472 dL_law_473 dL_law_475 dL_law_476 dL_law_477 ?_
  refine fl_vi (wd := wF cI cZ b) (ws := wM cI cZ a N ++ wO cJ o f) (As := [.int (xs (6 * k + 1)), .int (xs (6 * k + 2))]) (rest := []) cx hH mwX7_block (ctX7_block l D cI cZ b hF) (F_rc0 (S := F) cx (HB_right hH)) mlw_59 (by decide) hce rfl hl.1 (Nat.le_of_ble_eq_true rfl) rfl dL_law_478 (fun H locs hH => ?_)
  have hH := HB_R (HB_R hH)
  refine lv_aload_n hx hb dL_law_481 rfl (lv_at hl 2 rfl) ?_
  refine fl_arg (lv := lvL sc o k a b) 1 (by decide) (v := 1) (by decide) rfl C hH (lv_at hl 0 rfl) (lv_at hl 4 rfl) dL_law_482 dL_law_483 dL_law_485 dL_law_486 dL_law_487 ?_
  refine fl_arg (lv := lvL sc o k a b) 2 (by decide) (v := 2) (by decide) rfl C hH (lv_at hl 0 rfl) (lv_at hl 4 rfl) dL_law_488 dL_law_489 dL_law_491 dL_law_492 dL_law_493 ?_
  refine fl_vi (wd := wM cI cZ a) (ws := wO cJ o f ++ wF cI cZ b F) (As := [.int (xs (6 * k + 1)), .int (xs (6 * k + 2))]) (rest := [.int r]) cx hH mwX8_block (ctX8_block l D cI cZ a hN) (M_rc0 (S := N) cx (HB_right hH)) mlw_62 (by decide) hce rfl hl.1 (Nat.le_of_ble_eq_true rfl) rfl dL_law_494 (fun H locs hH => ?_)
  have hH := HB_R hH
  exact lv_icmp_eq (tgt := 869) hx hb dL_law_497 (by decide) (fun _ => kk _ _ _ _ hR9 hH) (fun z => absurd rfl z)
set_option maxHeartbeats 1000000 in
theorem lo_lay (C : LC p s m args meth c sc L xs D cI cZ cJ k) (hR : Rel F N) (hH : HB D [] (wL cI cZ cJ a b o F N f) s H locs) (hl : lv_has ls 7 (lvL sc o k a b)) (hce : cells ≤ room_1.cells ∧ slots ≤ room_1.slots)
    (kk : ∀ (F N : Sg) (H : Heap) (locs : List Loc), Rel F N → HB D [] (wL cI cZ cJ a b o F N f) s H locs → W p l e room_1 s m args below meth c H locs cells slots Q (F0 m 869 ls [])) : W p l e room_1 s m args below meth c H locs cells slots Q (F0 m 502 ls []) := by
  have cx := C.1
  obtain ⟨hx, hb, -⟩ := id cx
  obtain ⟨r, F9, N9, hF, hN, hR9⟩ := op_lay hR
  refine lv_aload_n hx hb dL_law_502 rfl (lv_at hl 3 rfl) ?_
  refine fl_vi (wd := wF cI cZ b) (ws := wM cI cZ a N ++ wO cJ o f) (As := []) (rest := []) cx hH mwX7_lay (ctX7_lay l D cI cZ b hF) (F_rc0 (S := F) cx (HB_right hH)) mlw_63 (by decide) hce rfl hl.1 (Nat.le_of_ble_eq_true rfl) rfl dL_law_503 (fun H locs hH => ?_)
  have hH := HB_R (HB_R hH)
  refine lv_aload_n hx hb dL_law_506 rfl (lv_at hl 2 rfl) ?_
  refine fl_vi (wd := wM cI cZ a) (ws := wO cJ o f ++ wF cI cZ b F9) (As := []) (rest := [.int r]) cx hH mwX8_lay (ctX8_lay l D cI cZ a hN) (M_rc0 (S := N) cx (HB_right hH)) mlw_66 (by decide) hce rfl hl.1 (Nat.le_of_ble_eq_true rfl) rfl dL_law_507 (fun H locs hH => ?_)
  have hH := HB_R hH
  exact lv_icmp_eq (tgt := 869) hx hb dL_law_510 (by decide) (fun _ => kk _ _ _ _ hR9 hH) (fun z => absurd rfl z)
set_option maxHeartbeats 1000000 in
theorem lo_place (C : LC p s m args meth c sc L xs D cI cZ cJ k) (hR : Rel F N) (hH : HB D [] (wL cI cZ cJ a b o F N f) s H locs) (hl : lv_has ls 7 (lvL sc o k a b)) (hce : cells ≤ room_1.cells ∧ slots ≤ room_1.slots)
    (kk : ∀ (F N : Sg) (H : Heap) (locs : List Loc), Rel F N → HB D [] (wL cI cZ cJ a b o F N f) s H locs → W p l e room_1 s m args below meth c H locs cells slots Q (F0 m 869 ls [])) : W p l e room_1 s m args below meth c H locs cells slots Q (F0 m 515 ls []) := by
  have cx := C.1
  obtain ⟨hx, hb, -⟩ := id cx
  obtain ⟨r, N9, hF, hN, hR9⟩ := op_place hR (xs (6 * k + 1))
  refine lv_aload_n hx hb dL_law_515 rfl (lv_at hl 3 rfl) ?_
  refine fl_arg (lv := lvL sc o k a b) 1 (by decide) (v := 1) (by decide) rfl C hH (lv_at hl 0 rfl) (lv_at hl 4 rfl) dL_law_516 dL_law_517 dL_law_519 dL_law_520 dL_law_521 ?_
  refine fl_vi (wd := wF cI cZ b) (ws := wM cI cZ a N ++ wO cJ o f) (As := [.int (xs (6 * k + 1))]) (rest := []) cx hH mwX7_place (ctX7_place l D cI cZ b hF) (F_rc0 (S := F) cx (HB_right hH)) mlw_67 (by decide) hce rfl hl.1 (Nat.le_of_ble_eq_true rfl) rfl dL_law_522 (fun H locs hH => ?_)
  have hH := HB_R (HB_R hH)
  refine lv_aload_n hx hb dL_law_525 rfl (lv_at hl 2 rfl) ?_
  refine fl_arg (lv := lvL sc o k a b) 1 (by decide) (v := 1) (by decide) rfl C hH (lv_at hl 0 rfl) (lv_at hl 4 rfl) dL_law_526 dL_law_527 dL_law_529 dL_law_530 dL_law_531 ?_
  refine fl_vi (wd := wM cI cZ a) (ws := wO cJ o f ++ wF cI cZ b F) (As := [.int (xs (6 * k + 1))]) (rest := [.int r]) cx hH mwX8_place (ctX8_place l D cI cZ a hN) (M_rc0 (S := N) cx (HB_right hH)) mlw_70 (by decide) hce rfl hl.1 (Nat.le_of_ble_eq_true rfl) rfl dL_law_532 (fun H locs hH => ?_)
  have hH := HB_R hH
  exact lv_icmp_eq (tgt := 869) hx hb dL_law_535 (by decide) (fun _ => kk _ _ _ _ hR9 hH) (fun z => absurd rfl z)
set_option maxHeartbeats 1000000 in
theorem lo_lift (C : LC p s m args meth c sc L xs D cI cZ cJ k) (hR : Rel F N) (hH : HB D [] (wL cI cZ cJ a b o F N f) s H locs) (hl : lv_has ls 7 (lvL sc o k a b)) (hce : cells ≤ room_1.cells ∧ slots ≤ room_1.slots)
    (kk : ∀ (F N : Sg) (H : Heap) (locs : List Loc), Rel F N → HB D [] (wL cI cZ cJ a b o F N f) s H locs → W p l e room_1 s m args below meth c H locs cells slots Q (F0 m 869 ls [])) : W p l e room_1 s m args below meth c H locs cells slots Q (F0 m 540 ls []) := by
  have cx := C.1
  obtain ⟨hx, hb, -⟩ := id cx
  obtain ⟨r, F9, N9, hF, hN, hR9⟩ := op_lift hR (xs (6 * k + 1))
  refine lv_aload_n hx hb dL_law_540 rfl (lv_at hl 3 rfl) ?_
  refine fl_arg (lv := lvL sc o k a b) 1 (by decide) (v := 1) (by decide) rfl C hH (lv_at hl 0 rfl) (lv_at hl 4 rfl) dL_law_541 dL_law_542 dL_law_544 dL_law_545 dL_law_546 ?_
  refine fl_vi (wd := wF cI cZ b) (ws := wM cI cZ a N ++ wO cJ o f) (As := [.int (xs (6 * k + 1))]) (rest := []) cx hH mwX7_lift (ctX7_lift l D cI cZ b hF) (F_rc0 (S := F) cx (HB_right hH)) mlw_71 (by decide) hce rfl hl.1 (Nat.le_of_ble_eq_true rfl) rfl dL_law_547 (fun H locs hH => ?_)
  have hH := HB_R (HB_R hH)
  refine lv_aload_n hx hb dL_law_550 rfl (lv_at hl 2 rfl) ?_
  refine fl_arg (lv := lvL sc o k a b) 1 (by decide) (v := 1) (by decide) rfl C hH (lv_at hl 0 rfl) (lv_at hl 4 rfl) dL_law_551 dL_law_552 dL_law_554 dL_law_555 dL_law_556 ?_
  refine fl_vi (wd := wM cI cZ a) (ws := wO cJ o f ++ wF cI cZ b F9) (As := [.int (xs (6 * k + 1))]) (rest := [.int r]) cx hH mwX8_lift (ctX8_lift l D cI cZ a hN) (M_rc0 (S := N) cx (HB_right hH)) mlw_75 (by decide) hce rfl hl.1 (Nat.le_of_ble_eq_true rfl) rfl dL_law_557 (fun H locs hH => ?_)
  have hH := HB_R hH
  exact lv_icmp_eq (tgt := 869) hx hb dL_law_560 (by decide) (fun _ => kk _ _ _ _ hR9 hH) (fun z => absurd rfl z)
set_option maxHeartbeats 1000000 in
theorem lo_pass (C : LC p s m args meth c sc L xs D cI cZ cJ k) (hR : Rel F N) (hH : HB D [] (wL cI cZ cJ a b o F N f) s H locs) (hl : lv_has ls 7 (lvL sc o k a b)) (hce : cells ≤ room_1.cells ∧ slots ≤ room_1.slots)
    (kk : ∀ (F N : Sg) (H : Heap) (locs : List Loc), Rel F N → HB D [] (wL cI cZ cJ a b o F N f) s H locs → W p l e room_1 s m args below meth c H locs cells slots Q (F0 m 869 ls [])) : W p l e room_1 s m args below meth c H locs cells slots Q (F0 m 565 ls []) := by
  have cx := C.1
  obtain ⟨hx, hb, -⟩ := id cx
  obtain ⟨r, F9, N9, hF, hN, hR9⟩ := op_pass hR (xs (6 * k + 1))
  refine lv_aload_n hx hb dL_law_565 rfl (lv_at hl 3 rfl) ?_
  refine fl_arg (lv := lvL sc o k a b) 1 (by decide) (v := 1) (by decide) rfl C hH (lv_at hl 0 rfl) (lv_at hl 4 rfl) dL_law_566 dL_law_567 dL_law_569 dL_law_570 dL_law_571 ?_
  refine fl_vi (wd := wF cI cZ b) (ws := wM cI cZ a N ++ wO cJ o f) (As := [.int (xs (6 * k + 1))]) (rest := []) cx hH mwX7_pass (ctX7_pass l D cI cZ b hF) (F_rc0 (S := F) cx (HB_right hH)) mlw_76 (by decide) hce rfl hl.1 (Nat.le_of_ble_eq_true rfl) rfl dL_law_572 (fun H locs hH => ?_)
  have hH := HB_R (HB_R hH)
  refine lv_aload_n hx hb dL_law_575 rfl (lv_at hl 2 rfl) ?_
  refine fl_arg (lv := lvL sc o k a b) 1 (by decide) (v := 1) (by decide) rfl C hH (lv_at hl 0 rfl) (lv_at hl 4 rfl) dL_law_576 dL_law_577 dL_law_579 dL_law_580 dL_law_581 ?_
  refine fl_vi (wd := wM cI cZ a) (ws := wO cJ o f ++ wF cI cZ b F9) (As := [.int (xs (6 * k + 1))]) (rest := [.int r]) cx hH mwX8_pass (ctX8_pass l D cI cZ a hN) (M_rc0 (S := N) cx (HB_right hH)) mlw_79 (by decide) hce rfl hl.1 (Nat.le_of_ble_eq_true rfl) rfl dL_law_582 (fun H locs hH => ?_)
  have hH := HB_R hH
  exact lv_icmp_eq (tgt := 869) hx hb dL_law_585 (by decide) (fun _ => kk _ _ _ _ hR9 hH) (fun z => absurd rfl z)
set_option maxHeartbeats 1000000 in
theorem lo_pieces (C : LC p s m args meth c sc L xs D cI cZ cJ k) (hR : Rel F N) (hH : HB D [] (wL cI cZ cJ a b o F N f) s H locs) (hl : lv_has ls 7 (lvL sc o k a b)) (hce : cells ≤ room_1.cells ∧ slots ≤ room_1.slots)
    (kk : ∀ (F N : Sg) (H : Heap) (locs : List Loc), Rel F N → HB D [] (wL cI cZ cJ a b o F N f) s H locs → W p l e room_1 s m args below meth c H locs cells slots Q (F0 m 869 ls [])) : W p l e room_1 s m args below meth c H locs cells slots Q (F0 m 590 ls []) := by
  have cx := C.1
  obtain ⟨hx, hb, -⟩ := id cx
  obtain ⟨r, F9, N9, hF, hN, hR9⟩ := op_pieces hR (xs (6 * k + 1)) (xs (6 * k + 2))
  refine lv_aload_n hx hb dL_law_590 rfl (lv_at hl 3 rfl) ?_
  refine fl_arg (lv := lvL sc o k a b) 1 (by decide) (v := 1) (by decide) rfl C hH (lv_at hl 0 rfl) (lv_at hl 4 rfl) dL_law_591 dL_law_592 dL_law_594 dL_law_595 dL_law_596 ?_
  refine fl_arg (lv := lvL sc o k a b) 2 (by decide) (v := 2) (by decide) rfl C hH (lv_at hl 0 rfl) (lv_at hl 4 rfl) dL_law_597 dL_law_598 dL_law_600 dL_law_601 dL_law_602 ?_
  refine fl_vi (wd := wF cI cZ b) (ws := wM cI cZ a N ++ wO cJ o f) (As := [.int (xs (6 * k + 1)), .int (xs (6 * k + 2))]) (rest := []) cx hH mwX7_pieces (ctX7_pieces l D cI cZ b hF) (F_rc0 (S := F) cx (HB_right hH)) mlw_80 (by decide) hce rfl hl.1 (Nat.le_of_ble_eq_true rfl) rfl dL_law_603 (fun H locs hH => ?_)
  have hH := HB_R (HB_R hH)
  refine lv_aload_n hx hb dL_law_606 rfl (lv_at hl 2 rfl) ?_
  refine fl_arg (lv := lvL sc o k a b) 1 (by decide) (v := 1) (by decide) rfl C hH (lv_at hl 0 rfl) (lv_at hl 4 rfl) dL_law_607 dL_law_608 dL_law_610 dL_law_611 dL_law_612 ?_
  refine fl_arg (lv := lvL sc o k a b) 2 (by decide) (v := 2) (by decide) rfl C hH (lv_at hl 0 rfl) (lv_at hl 4 rfl) dL_law_613 dL_law_614 dL_law_616 dL_law_617 dL_law_618 ?_
  refine fl_vi (wd := wM cI cZ a) (ws := wO cJ o f ++ wF cI cZ b F9) (As := [.int (xs (6 * k + 1)), .int (xs (6 * k + 2))]) (rest := [.int r]) cx hH mwX8_pieces (ctX8_pieces l D cI cZ a hN) (M_rc0 (S := N) cx (HB_right hH)) mlw_83 (by decide) hce rfl hl.1 (Nat.le_of_ble_eq_true rfl) rfl dL_law_619 (fun H locs hH => ?_)
  have hH := HB_R hH
  exact lv_icmp_eq (tgt := 869) hx hb dL_law_622 (by decide) (fun _ => kk _ _ _ _ hR9 hH) (fun z => absurd rfl z)
set_option maxHeartbeats 1000000 in
theorem lo_order (C : LC p s m args meth c sc L xs D cI cZ cJ k) (hR : Rel F N) (hH : HB D [] (wL cI cZ cJ a b o F N f) s H locs) (hl : lv_has ls 7 (lvL sc o k a b)) (hce : cells ≤ room_1.cells ∧ slots ≤ room_1.slots)
    (kk : ∀ (F N : Sg) (H : Heap) (locs : List Loc), Rel F N → HB D [] (wL cI cZ cJ a b o F N f) s H locs → W p l e room_1 s m args below meth c H locs cells slots Q (F0 m 869 ls [])) : W p l e room_1 s m args below meth c H locs cells slots Q (F0 m 627 ls []) := by
  have cx := C.1
  obtain ⟨hx, hb, -⟩ := id cx
  obtain ⟨r, F9, N9, hF, hN, hR9⟩ := op_order hR (xs (6 * k + 1)) (xs (6 * k + 2)) (xs (6 * k + 3)) (xs (6 * k + 4)) (xs (6 * k + 5))
  refine lv_aload_n hx hb dL_law_627 rfl (lv_at hl 3 rfl) ?_
  refine fl_arg (lv := lvL sc o k a b) 1 (by decide) (v := 1) (by decide) rfl C hH (lv_at hl 0 rfl) (lv_at hl 4 rfl) dL_law_628 dL_law_629 dL_law_631 dL_law_632 dL_law_633 ?_
  refine fl_arg (lv := lvL sc o k a b) 2 (by decide) (v := 2) (by decide) rfl C hH (lv_at hl 0 rfl) (lv_at hl 4 rfl) dL_law_634 dL_law_635 dL_law_637 dL_law_638 dL_law_639 ?_
  refine fl_arg (lv := lvL sc o k a b) 3 (by decide) (v := 3) (by decide) rfl C hH (lv_at hl 0 rfl) (lv_at hl 4 rfl) dL_law_640 dL_law_641 dL_law_643 dL_law_644 dL_law_645 ?_
  refine fl_arg (lv := lvL sc o k a b) 4 (by decide) (v := 4) (by decide) rfl C hH (lv_at hl 0 rfl) (lv_at hl 4 rfl) dL_law_646 dL_law_647 dL_law_649 dL_law_650 dL_law_651 ?_
  refine fl_arg (lv := lvL sc o k a b) 5 (by decide) (v := 5) (by decide) rfl C hH (lv_at hl 0 rfl) (lv_at hl 4 rfl) dL_law_652 dL_law_653 dL_law_655 dL_law_656 dL_law_657 ?_
  refine fl_vi (wd := wF cI cZ b) (ws := wM cI cZ a N ++ wO cJ o f) (As := [.int (xs (6 * k + 1)), .int (xs (6 * k + 2)), .int (xs (6 * k + 3)), .int (xs (6 * k + 4)), .int (xs (6 * k + 5))]) (rest := []) cx hH mwX7_order (ctX7_order l D cI cZ b hF) (F_rc0 (S := F) cx (HB_right hH)) mlw_84 (by decide) hce rfl hl.1 (Nat.le_of_ble_eq_true rfl) rfl dL_law_658 (fun H locs hH => ?_)
  have hH := HB_R (HB_R hH)
  refine lv_aload_n hx hb dL_law_661 rfl (lv_at hl 2 rfl) ?_
  refine fl_arg (lv := lvL sc o k a b) 1 (by decide) (v := 1) (by decide) rfl C hH (lv_at hl 0 rfl) (lv_at hl 4 rfl) dL_law_662 dL_law_663 dL_law_665 dL_law_666 dL_law_667 ?_
  refine fl_arg (lv := lvL sc o k a b) 2 (by decide) (v := 2) (by decide) rfl C hH (lv_at hl 0 rfl) (lv_at hl 4 rfl) dL_law_668 dL_law_669 dL_law_671 dL_law_672 dL_law_673 ?_
  refine fl_arg (lv := lvL sc o k a b) 3 (by decide) (v := 3) (by decide) rfl C hH (lv_at hl 0 rfl) (lv_at hl 4 rfl) dL_law_674 dL_law_675 dL_law_677 dL_law_678 dL_law_679 ?_
  refine fl_arg (lv := lvL sc o k a b) 4 (by decide) (v := 4) (by decide) rfl C hH (lv_at hl 0 rfl) (lv_at hl 4 rfl) dL_law_680 dL_law_681 dL_law_683 dL_law_684 dL_law_685 ?_
  refine fl_arg (lv := lvL sc o k a b) 5 (by decide) (v := 5) (by decide) rfl C hH (lv_at hl 0 rfl) (lv_at hl 4 rfl) dL_law_686 dL_law_687 dL_law_689 dL_law_690 dL_law_691 ?_
  refine fl_vi (wd := wM cI cZ a) (ws := wO cJ o f ++ wF cI cZ b F9) (As := [.int (xs (6 * k + 1)), .int (xs (6 * k + 2)), .int (xs (6 * k + 3)), .int (xs (6 * k + 4)), .int (xs (6 * k + 5))]) (rest := [.int r]) cx hH mwX8_order (ctX8_order l D cI cZ a hN) (M_rc0 (S := N) cx (HB_right hH)) mlw_88 (by decide) hce rfl hl.1 (Nat.le_of_ble_eq_true rfl) rfl dL_law_692 (fun H locs hH => ?_)
  have hH := HB_R hH
  exact lv_icmp_eq (tgt := 869) hx hb dL_law_695 (by decide) (fun _ => kk _ _ _ _ hR9 hH) (fun z => absurd rfl z)
set_option maxHeartbeats 1000000 in
theorem lo_fill (C : LC p s m args meth c sc L xs D cI cZ cJ k) (hR : Rel F N) (hH : HB D [] (wL cI cZ cJ a b o F N f) s H locs) (hl : lv_has ls 7 (lvL sc o k a b)) (hce : cells ≤ room_1.cells ∧ slots ≤ room_1.slots)
    (kk : ∀ (F N : Sg) (H : Heap) (locs : List Loc), Rel F N → HB D [] (wL cI cZ cJ a b o F N f) s H locs → W p l e room_1 s m args below meth c H locs cells slots Q (F0 m 869 ls [])) : W p l e room_1 s m args below meth c H locs cells slots Q (F0 m 700 ls []) := by
  have cx := C.1
  obtain ⟨hx, hb, -⟩ := id cx
  obtain ⟨r, F9, N9, hF, hN, hR9⟩ := op_fill hR (xs (6 * k + 1))
  refine lv_aload_n hx hb dL_law_700 rfl (lv_at hl 3 rfl) ?_
  refine fl_arg (lv := lvL sc o k a b) 1 (by decide) (v := 1) (by decide) rfl C hH (lv_at hl 0 rfl) (lv_at hl 4 rfl) dL_law_701 dL_law_702 dL_law_704 dL_law_705 dL_law_706 ?_
  refine fl_vi (wd := wF cI cZ b) (ws := wM cI cZ a N ++ wO cJ o f) (As := [.int (xs (6 * k + 1))]) (rest := []) cx hH mwX7_fill (ctX7_fill l D cI cZ b hF) (F_rc0 (S := F) cx (HB_right hH)) mlw_89 (by decide) hce rfl hl.1 (Nat.le_of_ble_eq_true rfl) rfl dL_law_707 (fun H locs hH => ?_)
  have hH := HB_R (HB_R hH)
  refine lv_aload_n hx hb dL_law_710 rfl (lv_at hl 2 rfl) ?_
  refine fl_arg (lv := lvL sc o k a b) 1 (by decide) (v := 1) (by decide) rfl C hH (lv_at hl 0 rfl) (lv_at hl 4 rfl) dL_law_711 dL_law_712 dL_law_714 dL_law_715 dL_law_716 ?_
  refine fl_vi (wd := wM cI cZ a) (ws := wO cJ o f ++ wF cI cZ b F9) (As := [.int (xs (6 * k + 1))]) (rest := [.int r]) cx hH mwX8_fill (ctX8_fill l D cI cZ a hN) (M_rc0 (S := N) cx (HB_right hH)) mlw_92 (by decide) hce rfl hl.1 (Nat.le_of_ble_eq_true rfl) rfl dL_law_717 (fun H locs hH => ?_)
  have hH := HB_R hH
  exact lv_icmp_eq (tgt := 869) hx hb dL_law_720 (by decide) (fun _ => kk _ _ _ _ hR9 hH) (fun z => absurd rfl z)
set_option maxHeartbeats 1000000 in
theorem lo_led (C : LC p s m args meth c sc L xs D cI cZ cJ k) (hR : Rel F N) (hH : HB D [] (wL cI cZ cJ a b o F N f) s H locs) (hl : lv_has ls 7 (lvL sc o k a b)) (hce : cells ≤ room_1.cells ∧ slots ≤ room_1.slots)
    (kk : ∀ (F N : Sg) (H : Heap) (locs : List Loc), Rel F N → HB D [] (wL cI cZ cJ a b o F N f) s H locs → W p l e room_1 s m args below meth c H locs cells slots Q (F0 m 869 ls [])) : W p l e room_1 s m args below meth c H locs cells slots Q (F0 m 793 ls []) := by
  have cx := C.1
  obtain ⟨hx, hb, -⟩ := id cx
  obtain ⟨r, N9, hF, hN, hR9⟩ := op_led hR (xs (6 * k + 1))
  refine lv_aload_n hx hb dL_law_793 rfl (lv_at hl 3 rfl) ?_
  refine fl_arg (lv := lvL sc o k a b) 1 (by decide) (v := 1) (by decide) rfl C hH (lv_at hl 0 rfl) (lv_at hl 4 rfl) dL_law_794 dL_law_795 dL_law_797 dL_law_798 dL_law_799 ?_
  refine fl_vi (wd := wF cI cZ b) (ws := wM cI cZ a N ++ wO cJ o f) (As := [.int (xs (6 * k + 1))]) (rest := []) cx hH mwX7_led (ctX7_led l D cI cZ b hF) (F_rc0 (S := F) cx (HB_right hH)) mlw_102 (by decide) hce rfl hl.1 (Nat.le_of_ble_eq_true rfl) rfl dL_law_800 (fun H locs hH => ?_)
  have hH := HB_R (HB_R hH)
  refine lv_aload_n hx hb dL_law_803 rfl (lv_at hl 2 rfl) ?_
  refine fl_arg (lv := lvL sc o k a b) 1 (by decide) (v := 1) (by decide) rfl C hH (lv_at hl 0 rfl) (lv_at hl 4 rfl) dL_law_804 dL_law_805 dL_law_807 dL_law_808 dL_law_809 ?_
  refine fl_vi (wd := wM cI cZ a) (ws := wO cJ o f ++ wF cI cZ b F) (As := [.int (xs (6 * k + 1))]) (rest := [.int r]) cx hH mwX8_led (ctX8_led l D cI cZ a hN) (M_rc0 (S := N) cx (HB_right hH)) mlw_105 (by decide) hce rfl hl.1 (Nat.le_of_ble_eq_true rfl) rfl dL_law_810 (fun H locs hH => ?_)
  have hH := HB_R hH
  exact lv_icmp_eq (tgt := 869) hx hb dL_law_813 (by decide) (fun _ => kk _ _ _ _ hR9 hH) (fun z => absurd rfl z)
set_option maxHeartbeats 1000000 in
theorem lo_shred (C : LC p s m args meth c sc L xs D cI cZ cJ k) (hR : Rel F N) (hH : HB D [] (wL cI cZ cJ a b o F N f) s H locs) (hl : lv_has ls 7 (lvL sc o k a b)) (hce : cells ≤ room_1.cells ∧ slots ≤ room_1.slots)
    (kk : ∀ (F N : Sg) (H : Heap) (locs : List Loc), Rel F N → HB D [] (wL cI cZ cJ a b o F N f) s H locs → W p l e room_1 s m args below meth c H locs cells slots Q (F0 m 869 ls [])) : W p l e room_1 s m args below meth c H locs cells slots Q (F0 m 818 ls []) := by
  have cx := C.1
  obtain ⟨hx, hb, -⟩ := id cx
  obtain ⟨r, F9, N9, hF, hN, hR9⟩ := op_shred hR
  refine lv_aload_n hx hb dL_law_818 rfl (lv_at hl 3 rfl) ?_
  refine fl_vi (wd := wF cI cZ b) (ws := wM cI cZ a N ++ wO cJ o f) (As := []) (rest := []) cx hH mwX7_shred (ctX7_shred l D cI cZ b hF) (F_rc0 (S := F) cx (HB_right hH)) mlw_106 (by decide) hce rfl hl.1 (Nat.le_of_ble_eq_true rfl) rfl dL_law_819 (fun H locs hH => ?_)
  have hH := HB_R (HB_R hH)
  refine lv_aload_n hx hb dL_law_822 rfl (lv_at hl 2 rfl) ?_
  refine fl_vi (wd := wM cI cZ a) (ws := wO cJ o f ++ wF cI cZ b F9) (As := []) (rest := [.int r]) cx hH mwX8_shred (ctX8_shred l D cI cZ a hN) (M_rc0 (S := N) cx (HB_right hH)) mlw_109 (by decide) hce rfl hl.1 (Nat.le_of_ble_eq_true rfl) rfl dL_law_823 (fun H locs hH => ?_)
  have hH := HB_R hH
  exact lv_icmp_eq (tgt := 869) hx hb dL_law_826 (by decide) (fun _ => kk _ _ _ _ hR9 hH) (fun z => absurd rfl z)
set_option maxHeartbeats 1000000 in
theorem lo_count (C : LC p s m args meth c sc L xs D cI cZ cJ k) (hR : Rel F N) (hH : HB D [] (wL cI cZ cJ a b o F N f) s H locs) (hl : lv_has ls 7 (lvL sc o k a b)) (hce : cells ≤ room_1.cells ∧ slots ≤ room_1.slots)
    (kk : ∀ (F N : Sg) (H : Heap) (locs : List Loc), Rel F N → HB D [] (wL cI cZ cJ a b o F N f) s H locs → W p l e room_1 s m args below meth c H locs cells slots Q (F0 m 869 ls [])) : W p l e room_1 s m args below meth c H locs cells slots Q (F0 m 831 ls []) := by
  have cx := C.1
  obtain ⟨hx, hb, -⟩ := id cx
  obtain ⟨r, N9, hF, hN, hR9⟩ := op_count hR (xs (6 * k + 1))
  refine lv_aload_n hx hb dL_law_831 rfl (lv_at hl 3 rfl) ?_
  refine fl_arg (lv := lvL sc o k a b) 1 (by decide) (v := 1) (by decide) rfl C hH (lv_at hl 0 rfl) (lv_at hl 4 rfl) dL_law_832 dL_law_833 dL_law_835 dL_law_836 dL_law_837 ?_
  refine fl_vi (wd := wF cI cZ b) (ws := wM cI cZ a N ++ wO cJ o f) (As := [.int (xs (6 * k + 1))]) (rest := []) cx hH mwX7_count (ctX7_count l D cI cZ b hF) (F_rc0 (S := F) cx (HB_right hH)) mlw_110 (by decide) hce rfl hl.1 (Nat.le_of_ble_eq_true rfl) rfl dL_law_838 (fun H locs hH => ?_)
  have hH := HB_R (HB_R hH)
  refine lv_aload_n hx hb dL_law_841 rfl (lv_at hl 2 rfl) ?_
  refine fl_arg (lv := lvL sc o k a b) 1 (by decide) (v := 1) (by decide) rfl C hH (lv_at hl 0 rfl) (lv_at hl 4 rfl) dL_law_842 dL_law_843 dL_law_845 dL_law_846 dL_law_847 ?_
  refine fl_vi (wd := wM cI cZ a) (ws := wO cJ o f ++ wF cI cZ b F) (As := [.int (xs (6 * k + 1))]) (rest := [.int r]) cx hH mwX8_count (ctX8_count l D cI cZ a hN) (M_rc0 (S := N) cx (HB_right hH)) mlw_113 (by decide) hce rfl hl.1 (Nat.le_of_ble_eq_true rfl) rfl dL_law_848 (fun H locs hH => ?_)
  have hH := HB_R hH
  exact lv_icmp_eq (tgt := 869) hx hb dL_law_851 (by decide) (fun _ => kk _ _ _ _ hR9 hH) (fun z => absurd rfl z)
set_option maxHeartbeats 1000000 in
theorem lo_trouble (C : LC p s m args meth c sc L xs D cI cZ cJ k) (hR : Rel F N) (hH : HB D [] (wL cI cZ cJ a b o F N f) s H locs) (hl : lv_has ls 7 (lvL sc o k a b)) (hce : cells ≤ room_1.cells ∧ slots ≤ room_1.slots)
    (kk : ∀ (F N : Sg) (H : Heap) (locs : List Loc), Rel F N → HB D [] (wL cI cZ cJ a b o F N f) s H locs → W p l e room_1 s m args below meth c H locs cells slots Q (F0 m 869 ls [])) : W p l e room_1 s m args below meth c H locs cells slots Q (F0 m 856 ls []) := by
  have cx := C.1
  obtain ⟨hx, hb, -⟩ := id cx
  obtain ⟨r, N9, hF, hN, hR9⟩ := op_trouble hR
  refine lv_aload_n hx hb dL_law_856 rfl (lv_at hl 3 rfl) ?_
  refine fl_vi (wd := wF cI cZ b) (ws := wM cI cZ a N ++ wO cJ o f) (As := []) (rest := []) cx hH mwX7_trouble (ctX7_trouble l D cI cZ b hF) (F_rc0 (S := F) cx (HB_right hH)) mlw_114 (by decide) hce rfl hl.1 (Nat.le_of_ble_eq_true rfl) rfl dL_law_857 (fun H locs hH => ?_)
  have hH := HB_R (HB_R hH)
  refine lv_aload_n hx hb dL_law_860 rfl (lv_at hl 2 rfl) ?_
  refine fl_vi (wd := wM cI cZ a) (ws := wO cJ o f ++ wF cI cZ b F) (As := []) (rest := [.int r]) cx hH mwX8_trouble (ctX8_trouble l D cI cZ a hN) (M_rc0 (S := N) cx (HB_right hH)) mlw_117 (by decide) hce rfl hl.1 (Nat.le_of_ble_eq_true rfl) rfl dL_law_861 (fun H locs hH => ?_)
  have hH := HB_R hH
  exact lv_icmp_eq (tgt := 869) hx hb dL_law_864 (by decide) (fun _ => kk _ _ _ _ hR9 hH) (fun z => absurd rfl z)
end LOPS
