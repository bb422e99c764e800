/-! the case of by -/
theorem tw_stL : Cond.static yL_by ∈ TW := List.mem_of_getElem? (i := 653) (by decide +kernel)
theorem tw_iL : Cond.initialized RL ∈ TW := List.mem_of_getElem? (i := 654) (by decide +kernel)
theorem fl_goodL : GoodIn TX (va_wsS RL 93 yL_by (.codeWith yL_by cL_by 5 (some .int) [(0, 10, 13, 13)] :: TX)) := fun w hw => by
  unfold va_wsS at hw
  rcases List.mem_append.mp hw with h | h
  · have h2 : w ∈ TW := by
      rcases List.mem_cons.mp h with rfl | h
      · exact mlw_93
      · rcases List.mem_cons.mp h with rfl | h
        · exact tw_stL
        · rcases List.mem_cons.mp h with rfl | h
          · exact tw_iL
          · cases h
    exact ⟨List.mem_append_left _ h2, TW_gd h2⟩
  · exact fb_goodX tw_cwL w h
theorem lg_cmp_self (x : Int64) : lg_cmp x x = 0 := by
  unfold lg_cmp
  simp
section LOBY
variable {p : Program} {l : Launch} {e : Env} {s : State} {m : MethodId} {args : Array Value} {below : List Frame} {meth : Method} {c : Code} {H : Heap} {locs : List Loc} {Q : State → Prop} {cells slots : Nat}
variable {D : va_G} {cI cZ cJ : ClassId} {ls : Array Slot} {sc L k o : Nat} {xs : Nat → Int32} {a b : Nat → Nat} {F N : Sg} {f : Nat → Int64}
set_option maxHeartbeats 1000000 in
theorem lo_by (hl0 : l.stackTraces = false) (hTX : ∀ w ∈ TX, w.before args s = true) (hXW : XWs s) (hZ : Zz (va_A [] s.heap.size) s s.heap) (C : LC p s m args meth c sc L xs D cI cZ cJ k) (hR : Rel F N) (hH : HB D [] (wL cI cZ cJ a b o F N f) s H locs) (hl : lv_has ls 7 (lvL sc o k a b)) (hce : cells + 1 ≤ room_1.cells ∧ slots + 6 ≤ room_1.slots)
    (kk : ∀ (N : Sg) (f : Nat → Int64) (H : Heap) (locs : List Loc) (ls : Array Slot), Rel F N → HB D [] (wL cI cZ cJ a b o F N f) s H locs → lv_has ls 7 (lvL sc o k a b) → W p l e room_1 s m args below meth c H locs (cells + 1) (slots + 6) Q (F0 m 869 ls [])) : W p l e room_1 s m args below meth c H locs cells slots Q (F0 m 725 ls []) := by
  have cx := C.1
  obtain ⟨hx, hb, hml, hown, -, -, -, -⟩ := id cx
  have hK := C.2.1
  obtain ⟨r, N9, hR9, hN, hcase⟩ := op_by hR (xs (6 * k + 1)) (xs (6 * k + 2))
  obtain ⟨o9, hby, ho9⟩ : ∃ o9 : Option Int32, ByC F (xs (6 * k + 1)) (xs (6 * k + 2)) o9 ∧ ((o9 = none ∧ N9.1 0 = 1) ∨ (o9 = some r ∧ N9.1 0 = 0)) := by
    rcases hcase with ⟨h1, h2⟩ | ⟨h1, h2, h3, h4, h5, h6⟩
    · exact ⟨none, Or.inl ⟨rfl, h2⟩, Or.inl ⟨rfl, h1⟩⟩
    · exact ⟨some r, Or.inr ⟨r, rfl, h2, h3, h4, h5, h6⟩, Or.inr ⟨rfl, h1⟩⟩
  refine lv_aload_n hx hb dL_law_725 rfl (lv_at hl 3 rfl) ?_
  refine fl_arg (lv := lvL sc o k a b) 1 (by decide) (v := 1) (by decide) rfl C hH (lv_at hl 0 rfl) (lv_at hl 4 rfl) dL_law_726 dL_law_727 dL_law_729 dL_law_730 dL_law_731 ?_
  refine fl_arg (lv := lvL sc o k a b) 2 (by decide) (v := 2) (by decide) rfl C hH (lv_at hl 0 rfl) (lv_at hl 4 rfl) dL_law_732 dL_law_733 dL_law_735 dL_law_736 dL_law_737 ?_
  refine lv_aload_n hx hb dL_law_738 rfl (lv_at hl 1 rfl) ?_
  have hH : HB D [] (wM cI cZ a N ++ (wO cJ o f ++ wF cI cZ b F)) s H locs := by
    have h9 := hH
    unfold wL at h9
    rw [List.append_assoc] at h9
    exact h9
  have hF := fb_freeR hH
  refine va_calli (vx_runSW (As := [.ref (b 0), .int (xs (6 * k + 1)), .int (xs (6 * k + 2)), .ref o]) (rest := []) (Ts := TX) ⟨hx, hb, hml, hown, hTX⟩ (clL_by hl0 D cI cZ cJ b o hby f H.size) (vx_cwSW 4 hTX fl_goodL rfl rfl rfl ⟨by decide, by decide, by decide⟩ (by decide)) ⟨fb_blindX, fun U hU hW => ⟨rfl, by rw [hU], by rw [hU]; exact va_P.right hH.1, va_K.moved hW.alike hK, (va_D.right hH.2.1).weaken (fun _ _ _ _ => trivial), hXW.warm hW, by rw [hU]; exact hZ.to hH.2.2 hF hW.alike⟩⟩ rfl rfl hl.1 rfl (lv_room (Nat.le_of_ble_eq_true rfl)) dL_law_739 hce) hH.2.2 (fun q _ h => hF q h) hF (fun r9 g t H1 locs1 ht hvm hw hB hz1 hk1 hS => ?_)
  rw [ht] at hB
  obtain ⟨hP, hD⟩ := fb_split hH.1 hH.2.1 hk1 hF hB.1 hB.2
  have hH : HB D [] (wM cI cZ a N ++ (wO cJ o g ++ wF cI cZ b F)) s H1 locs1 := ⟨hP, hD, hS⟩
  have hH := HB_swap hH
  refine lv_istore (lv' := (5, .int r9) :: lvL sc o k a b) hx hb dL_law_742 hl (by decide) rfl (fun ls hl => ?_)
  refine lv_aload_n hx hb dL_law_744 rfl (lv_at hl 3 rfl) ?_
  refine fl_arg (lv := lvL sc o k a b) 1 (by decide) (v := 1) (by decide) rfl C hH (lv_at hl 1 rfl) (lv_at hl 5 rfl) dL_law_745 dL_law_746 dL_law_748 dL_law_749 dL_law_750 ?_
  refine fl_arg (lv := lvL sc o k a b) 2 (by decide) (v := 2) (by decide) rfl C hH (lv_at hl 1 rfl) (lv_at hl 5 rfl) dL_law_751 dL_law_752 dL_law_754 dL_law_755 dL_law_756 ?_
  refine fl_vi (wd := wM cI cZ a) (ws := wO cJ o g ++ wF cI cZ b F) (As := [.int (xs (6 * k + 1)), .int (xs (6 * k + 2))]) (rest := []) cx hH mwX8_by (ctX8_by l D cI cZ a hN) (M_rc0 (S := N) cx (HB_right hH)) mlw_98 (by decide) hce rfl hl.1 (Nat.le_of_ble_eq_true rfl) rfl dL_law_757 (fun H locs hH => ?_)
  refine lv_istore (lv' := (6, .int r) :: (5, .int r9) :: lvL sc o k a b) hx hb dL_law_760 hl (by decide) rfl (fun ls hl => ?_)
  refine lv_aload_n hx hb dL_law_762 rfl (lv_at hl 4 rfl) ?_
  refine fl_vi (wd := wM cI cZ a) (ws := wO cJ o g ++ wF cI cZ b F) (As := []) (rest := []) cx hH mwX8_thrown (ctX8_thrown l D cI cZ a (S := N9) (r := N9.1 0) rfl) (M_rc0 (S := N9) cx (HB_right hH)) mlw_99 (by decide) hce rfl hl.1 (Nat.le_of_ble_eq_true rfl) rfl dL_law_763 (fun H locs hH => ?_)
  refine lv_iload hx hb dL_law_766 (lv_at hl 1 rfl) ?_
  have hend : W p l e room_1 s m args below meth c H locs (cells + 1) (slots + 6) Q (F0 m 790 ls []) :=
    lv_goto (tgt := 869) hx hb dL_law_790 (by decide) (kk N9 g H locs ls hR9 (HB_R hH) (lv_sub hl [2, 3, 4, 5, 6] rfl))
  have heq : N9.1 0 = r9 := by
    rcases hw with ⟨h1, h2⟩ | ⟨v, h1, h2, h3⟩
    · rcases ho9 with ⟨h4, h5⟩ | ⟨h4, h5⟩
      · rw [h5, h2]
      · rw [h1] at h4; cases h4
    · rcases ho9 with ⟨h4, h5⟩ | ⟨h4, h5⟩
      · rw [h1] at h4; cases h4
      · rw [h5, h2]
  refine lv_icmp_eq (tgt := 773) hx hb dL_law_768 (by decide) (fun _ => ?_) (fun z => absurd heq z)
  refine lv_iload hx hb dL_law_773 (lv_at hl 1 rfl) ?_
  refine lv_if_ne (tgt := 790) hx hb dL_law_775 (by decide) (fun _ => hend) (fun hr0 => ?_)
  have hg : g 0 = r.toInt64 := by
    rcases hw with ⟨h1, h2⟩ | ⟨v, h1, h2, h3⟩
    · rw [h2] at hr0; exact absurd hr0 (by decide)
    · rcases ho9 with ⟨h4, h5⟩ | ⟨h4, h5⟩
      · rw [h1] at h4; cases h4
      · rw [h1] at h4
        obtain rfl := Option.some.inj h4
        exact h3
  refine lv_aload_n hx hb dL_law_778 rfl (lv_at hl 3 rfl) ?_
  refine lv_iconst (v := 0) hx hb dL_law_779 (by decide) ?_
  refine va_lald hx hb hK hH.1 0 2 rfl rfl (by unfold vp_in; decide) dL_law_780 ?_
  rw [q_cl0, hg]
  refine lv_iload hx hb dL_law_781 (lv_at hl 0 rfl) ?_
  refine lv_i2l hx hb dL_law_783 rfl ?_
  refine W.lcmp hx hb dL_law_784 ?_
  rw [lg_cmp_self]
  exact lv_if_eq (tgt := 790) hx hb dL_law_785 (by decide) (fun _ => hend) (fun z => absurd rfl z)
end LOBY
