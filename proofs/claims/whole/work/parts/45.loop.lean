/-! the start: nothing is there -/
theorem flf_in {i j : Nat} {v : Int32} {f : Nat → Int32} (h : j < i) : flf i v f j = v := by
  unfold flf
  rw [if_pos h]
theorem rel0 : Rel S0F S0M := by
  refine ⟨0, 0, 0, 0, 0, ⟨⟨rfl, rfl, rfl, rfl⟩, fun l k _ _ => rfl, ⟨rfl, rfl, Nat.zero_le _, rfl, rfl, Nat.zero_le _⟩, fun i hi => ⟨20, by decide, show flf 25 20 (fun _ => 0) i = 20 from flf_in hi⟩, fun i hi => absurd hi (Nat.not_lt_zero _)⟩, ⟨⟨rfl, rfl, rfl, rfl⟩, ⟨rfl, rfl, Nat.zero_le _⟩, fun _ => 0, fun i hi => absurd hi (Nat.not_lt_zero _), rfl, Nat.zero_le _, fun i hi => absurd hi (Nat.not_lt_zero _), fun i hi => absurd hi (Nat.succ_ne_zero _)⟩, ⟨⟨rfl, rfl, rfl, rfl, rfl, rfl, rfl⟩, ⟨rfl, rfl, Nat.zero_le _, rfl⟩, fun i hi => absurd hi (Nat.not_lt_zero _), fun i hi => ⟨rfl, rfl⟩, fun p hp => Or.inl (show flf 24 (-2) (fun _ => 0) p = -2 from flf_in hp), fun i hi => absurd hi (Nat.not_lt_zero _)⟩, ⟨⟨rfl, rfl, rfl, rfl, rfl, rfl⟩, ⟨rfl, rfl, Nat.zero_le _⟩, rfl, rfl, fun i hi => absurd hi (Nat.not_lt_zero _), fun o ho => Or.inl ⟨rfl, rfl⟩⟩, ⟨rfl, rfl, 20, 10, by decide, by decide, by decide, by decide, rfl, rfl, rfl, rfl, fun i hi => rfl⟩⟩
section LOOP
variable {p : Program} {l : Launch} {e : Env} {s : State} {m : MethodId} {below : List Frame} {meth : Method} {c : Code}
variable {D : va_G} {cI cZ cJ : ClassId} {sc L o : Nat} {xs : Nat → Int32} {a b : Nat → Nat}
theorem lw_fin {cells slots : Nat} {H : Heap} {locs : List Loc} {ls : Array Slot} {w : va_W} (cx : Cx p s m #[Value.ref sc] meth c cL_law 7 RL (some .boolean) D cI cZ) (hH : HB D [] w s H locs) (h1 : cells ≤ 1093) (h2 : slots ≤ 34708) : W p l e room_1 s m #[Value.ref sc] below meth c H locs cells slots (lw_Z below #[Value.ref sc] s) (F0 m 875 ls []) := by
  obtain ⟨hx, hb, -, -, -, -, hrt, hlocks⟩ := id cx
  refine lv_iconst (v := 1) hx hb dL_law_875 (by decide) ?_
  refine W.widen h1 h2 (va_forget (fun q hq => ?_) (lw_ret hx hb hrt hlocks dL_law_876))
  rcases hH.2.2.2.2 q hq with ⟨k, e, z⟩ | z
  · cases z
  · exact z
theorem lw_head {k cells slots : Nat} {H : Heap} {locs : List Loc} {ls : Array Slot} {F N : Sg} {f : Nat → Int64} (cx : Cx p s m #[Value.ref sc] meth c cL_law 7 RL (some .boolean) D cI cZ) (hX : va_X sc L xs s s.heap) (hsc : sc < s.heap.size) (hL : L ≤ 3072) (hk : k ≤ 512) (hH : HB D [] (wL cI cZ cJ a b o F N f) s H locs) (hl : lv_has ls 7 (lvL sc o k a b)) (h1 : cells ≤ 1093) (h2 : slots ≤ 34708)
    (kk : 6 * k + 6 ≤ L → W p l e room_1 s m #[Value.ref sc] below meth c H locs cells slots (lw_Z below #[Value.ref sc] s) (F0 m 33 ls [])) : W p l e room_1 s m #[Value.ref sc] below meth c H locs cells slots (lw_Z below #[Value.ref sc] s) (F0 m 23 ls []) := by
  obtain ⟨hx, hb, -⟩ := id cx
  refine lv_iload hx hb dL_law_23 (lv_at hl 0 rfl) ?_
  refine lv_aload_n hx hb dL_law_25 rfl (lv_at hl 4 rfl) ?_
  refine va_slen hx hb hX hsc (fl_noA hsc) hH.2.2 dL_law_26 ?_
  refine lv_bipush (v := 6) hx hb dL_law_27 (by decide) ?_
  refine lv_isub hx hb dL_law_29 ?_
  refine lv_icmp_gt (tgt := 875) hx hb dL_law_30 (by decide) (fun _ => lw_fin cx hH h1 h2) (fun z => kk (nI_lt3 (by omega) (by omega) z))
set_option maxHeartbeats 4000000 in
theorem lw_case {k cells slots : Nat} {H : Heap} {locs : List Loc} {ls : Array Slot} {F N : Sg} {f : Nat → Int64} (hl0 : l.stackTraces = false) (hTX : ∀ w ∈ TX, w.before #[Value.ref sc] s = true) (hXW : XWs s) (hZ : Zz (va_A [] s.heap.size) s s.heap) (C : LC p s m #[Value.ref sc] meth c sc L xs D cI cZ cJ k) (hR : Rel F N) (hH : HB D [] (wL cI cZ cJ a b o F N f) s H locs) (hl : lv_has ls 7 (lvL sc o k a b)) (hce : cells + 1 ≤ room_1.cells ∧ slots + 6 ≤ room_1.slots) {Q : State → Prop}
    (kk : ∀ (F N : Sg) (f : Nat → Int64) (H : Heap) (locs : List Loc) (ls : Array Slot), Rel F N → HB D [] (wL cI cZ cJ a b o F N f) s H locs → lv_has ls 7 (lvL sc o k a b) → W p l e room_1 s m #[Value.ref sc] below meth c H locs (cells + 1) (slots + 6) Q (F0 m 869 ls [])) : W p l e room_1 s m #[Value.ref sc] below meth c H locs cells slots Q (F0 m 33 ls []) := by
  obtain ⟨cx, hK, hX, hsc, hL, hk⟩ := id C
  obtain ⟨hx, hb, -⟩ := id cx
  have hc2 : cells ≤ room_1.cells ∧ slots ≤ room_1.slots := ⟨by omega, by omega⟩
  have k2 : ∀ (F N : Sg) (H : Heap) (locs : List Loc), Rel F N → HB D [] (wL cI cZ cJ a b o F N f) s H locs → W p l e room_1 s m #[Value.ref sc] below meth c H locs cells slots Q (F0 m 869 ls []) := fun F N H locs hR hH => W.widen (Nat.le_add_right _ _) (Nat.le_add_right _ _) (kk F N f H locs ls hR hH hl)
  refine lv_aload_n hx hb dL_law_33 rfl (lv_at hl 4 rfl) ?_
  refine lv_iload hx hb dL_law_34 (lv_at hl 0 rfl) ?_
  refine va_sld hx hb hX hsc (fl_noA hsc) hH.2.2 (vp_in_nI (show 6 * k < L by omega) (by omega)) dL_law_36 ?_
  refine lv_bipush (v := 31) hx hb dL_law_37 (by decide) ?_
  refine lv_iand hx hb dL_law_39 ?_
  generalize xs (nI (6 * k)).toNatClampNeg &&& 31 = v
  by_cases c_0 : v = 0
  · refine lv_tableIn (off := 104) (tgt := 144) hx hb dL_law_40 (by rw [c_0]; decide) (by rw [c_0]; decide) (by rw [c_0]; decide) (by decide) ?_
    exact lo_kind C hR hH hl hc2 k2
  by_cases c_1 : v = 1
  · refine lv_tableIn (off := 141) (tgt := 181) hx hb dL_law_40 (by rw [c_1]; decide) (by rw [c_1]; decide) (by rw [c_1]; decide) (by decide) ?_
    exact lo_change C hR hH hl hc2 k2
  by_cases c_2 : v = 2
  · refine lv_tableIn (off := 190) (tgt := 230) hx hb dL_law_40 (by rw [c_2]; decide) (by rw [c_2]; decide) (by rw [c_2]; decide) (by decide) ?_
    exact lo_length C hR hH hl hc2 k2
  by_cases c_3 : v = 3
  · refine lv_tableIn (off := 215) (tgt := 255) hx hb dL_law_40 (by rw [c_3]; decide) (by rw [c_3]; decide) (by rw [c_3]; decide) (by decide) ?_
    exact lo_worth C hR hH hl hc2 k2
  by_cases c_4 : v = 4
  · refine lv_tableIn (off := 264) (tgt := 304) hx hb dL_law_40 (by rw [c_4]; decide) (by rw [c_4]; decide) (by rw [c_4]; decide) (by decide) ?_
    exact lo_size C hR hH hl hc2 k2
  by_cases c_5 : v = 5
  · refine lv_tableIn (off := 301) (tgt := 341) hx hb dL_law_40 (by rw [c_5]; decide) (by rw [c_5]; decide) (by rw [c_5]; decide) (by decide) ?_
    exact lo_pour C hR hH hl hc2 k2
  by_cases c_6 : v = 6
  · refine lv_tableIn (off := 338) (tgt := 378) hx hb dL_law_40 (by rw [c_6]; decide) (by rw [c_6]; decide) (by rw [c_6]; decide) (by decide) ?_
    exact lo_run C hR hH hl hc2 k2
  by_cases c_7 : v = 7
  · refine lv_tableIn (off := 375) (tgt := 415) hx hb dL_law_40 (by rw [c_7]; decide) (by rw [c_7]; decide) (by rw [c_7]; decide) (by decide) ?_
    exact lo_best C hR hH hl hc2 k2
  by_cases c_8 : v = 8
  · refine lv_tableIn (off := 412) (tgt := 452) hx hb dL_law_40 (by rw [c_8]; decide) (by rw [c_8]; decide) (by rw [c_8]; decide) (by decide) ?_
    exact lo_cut C hR hH hl hc2 k2
  by_cases c_9 : v = 9
  · refine lv_tableIn (off := 425) (tgt := 465) hx hb dL_law_40 (by rw [c_9]; decide) (by rw [c_9]; decide) (by rw [c_9]; decide) (by decide) ?_
    exact lo_block C hR hH hl hc2 k2
  by_cases c_10 : v = 10
  · refine lv_tableIn (off := 462) (tgt := 502) hx hb dL_law_40 (by rw [c_10]; decide) (by rw [c_10]; decide) (by rw [c_10]; decide) (by decide) ?_
    exact lo_lay C hR hH hl hc2 k2
  by_cases c_11 : v = 11
  · refine lv_tableIn (off := 475) (tgt := 515) hx hb dL_law_40 (by rw [c_11]; decide) (by rw [c_11]; decide) (by rw [c_11]; decide) (by decide) ?_
    exact lo_place C hR hH hl hc2 k2
  by_cases c_12 : v = 12
  · refine lv_tableIn (off := 500) (tgt := 540) hx hb dL_law_40 (by rw [c_12]; decide) (by rw [c_12]; decide) (by rw [c_12]; decide) (by decide) ?_
    exact lo_lift C hR hH hl hc2 k2
  by_cases c_13 : v = 13
  · refine lv_tableIn (off := 525) (tgt := 565) hx hb dL_law_40 (by rw [c_13]; decide) (by rw [c_13]; decide) (by rw [c_13]; decide) (by decide) ?_
    exact lo_pass C hR hH hl hc2 k2
  by_cases c_14 : v = 14
  · refine lv_tableIn (off := 550) (tgt := 590) hx hb dL_law_40 (by rw [c_14]; decide) (by rw [c_14]; decide) (by rw [c_14]; decide) (by decide) ?_
    exact lo_pieces C hR hH hl hc2 k2
  by_cases c_15 : v = 15
  · refine lv_tableIn (off := 587) (tgt := 627) hx hb dL_law_40 (by rw [c_15]; decide) (by rw [c_15]; decide) (by rw [c_15]; decide) (by decide) ?_
    exact lo_order C hR hH hl hc2 k2
  by_cases c_16 : v = 16
  · refine lv_tableIn (off := 660) (tgt := 700) hx hb dL_law_40 (by rw [c_16]; decide) (by rw [c_16]; decide) (by rw [c_16]; decide) (by decide) ?_
    exact lo_fill C hR hH hl hc2 k2
  by_cases c_17 : v = 17
  · refine lv_tableIn (off := 685) (tgt := 725) hx hb dL_law_40 (by rw [c_17]; decide) (by rw [c_17]; decide) (by rw [c_17]; decide) (by decide) ?_
    exact lo_by hl0 hTX hXW hZ C hR hH hl hce (fun N f H locs ls hR hH hl => kk F N f H locs ls hR hH hl)
  by_cases c_18 : v = 18
  · refine lv_tableIn (off := 753) (tgt := 793) hx hb dL_law_40 (by rw [c_18]; decide) (by rw [c_18]; decide) (by rw [c_18]; decide) (by decide) ?_
    exact lo_led C hR hH hl hc2 k2
  by_cases c_19 : v = 19
  · refine lv_tableIn (off := 778) (tgt := 818) hx hb dL_law_40 (by rw [c_19]; decide) (by rw [c_19]; decide) (by rw [c_19]; decide) (by decide) ?_
    exact lo_shred C hR hH hl hc2 k2
  by_cases c_20 : v = 20
  · refine lv_tableIn (off := 791) (tgt := 831) hx hb dL_law_40 (by rw [c_20]; decide) (by rw [c_20]; decide) (by rw [c_20]; decide) (by decide) ?_
    exact lo_count C hR hH hl hc2 k2
  by_cases c_21 : v = 21
  · refine lv_tableIn (off := 816) (tgt := 856) hx hb dL_law_40 (by rw [c_21]; decide) (by rw [c_21]; decide) (by rw [c_21]; decide) (by decide) ?_
    exact lo_trouble C hR hH hl hc2 k2
  have q_0 := lv_neT c_0 (a := 0) (by decide)
  have q_1 := lv_neT c_1 (a := 1) (by decide)
  have q_2 := lv_neT c_2 (a := 2) (by decide)
  have q_3 := lv_neT c_3 (a := 3) (by decide)
  have q_4 := lv_neT c_4 (a := 4) (by decide)
  have q_5 := lv_neT c_5 (a := 5) (by decide)
  have q_6 := lv_neT c_6 (a := 6) (by decide)
  have q_7 := lv_neT c_7 (a := 7) (by decide)
  have q_8 := lv_neT c_8 (a := 8) (by decide)
  have q_9 := lv_neT c_9 (a := 9) (by decide)
  have q_10 := lv_neT c_10 (a := 10) (by decide)
  have q_11 := lv_neT c_11 (a := 11) (by decide)
  have q_12 := lv_neT c_12 (a := 12) (by decide)
  have q_13 := lv_neT c_13 (a := 13) (by decide)
  have q_14 := lv_neT c_14 (a := 14) (by decide)
  have q_15 := lv_neT c_15 (a := 15) (by decide)
  have q_16 := lv_neT c_16 (a := 16) (by decide)
  have q_17 := lv_neT c_17 (a := 17) (by decide)
  have q_18 := lv_neT c_18 (a := 18) (by decide)
  have q_19 := lv_neT c_19 (a := 19) (by decide)
  have q_20 := lv_neT c_20 (a := 20) (by decide)
  have q_21 := lv_neT c_21 (a := 21) (by decide)
  exact lv_tableOut (tgt := 869) hx hb dL_law_40 (by omega) (by decide) (k2 F N H locs hR hH)
set_option maxHeartbeats 1000000 in
theorem lw_loop (hl0 : l.stackTraces = false) (hTX : ∀ w ∈ TX, w.before #[Value.ref sc] s = true) (hXW : XWs s) (hZ : Zz (va_A [] s.heap.size) s s.heap) (cx : Cx p s m #[Value.ref sc] meth c cL_law 7 RL (some .boolean) D cI cZ) (hK : va_K D vwCl (tyj cI cZ cJ) s) (hX : va_X sc L xs s s.heap) (hsc : sc < s.heap.size) (hL : L ≤ 3072) : ∀ (n k : Nat) (F N : Sg) (f : Nat → Int64) (H : Heap) (locs : List Loc) (ls : Array Slot), k + n = 512 → Rel F N → HB D [] (wL cI cZ cJ a b o F N f) s H locs → lv_has ls 7 (lvL sc o k a b) → W p l e room_1 s m #[Value.ref sc] below meth c H locs (68 + k) (26510 + 6 * k) (lw_Z below #[Value.ref sc] s) (F0 m 23 ls []) := by
  obtain ⟨hx, hb, -⟩ := id cx
  intro n
  induction n with
  | zero =>
    intro k F N f H locs ls hk hR hH hl
    exact lw_head cx hX hsc hL (by omega) hH hl (by omega) (by omega) (fun z => by omega)
  | succ n ih =>
    intro k F N f H locs ls hk hR hH hl
    refine lw_head cx hX hsc hL (by omega) hH hl (by omega) (by omega) (fun z => ?_)
    refine lw_case hl0 hTX hXW hZ ⟨cx, hK, hX, hsc, hL, z⟩ hR hH hl ⟨show 68 + k + 1 ≤ 1093 by omega, show 26510 + 6 * k + 6 ≤ 34708 by omega⟩ (fun F N f H locs ls hR hH hl => ?_)
    refine lv_iinc (v := nI (6 * (k + 1))) (lv' := lvL sc o (k + 1) a b) hx hb dL_law_869 hl (k := 0) rfl (show nI (6 * k) + nI 6 = nI (6 * (k + 1)) by rw [nI_add]; exact congrArg nI (by omega)) (by decide) rfl (fun ls hl => ?_)
    refine lv_goto (tgt := 23) hx hb dL_law_872 (by decide) ?_
    exact ih (k + 1) F N f H locs ls (by omega) hR hH hl
end LOOP
