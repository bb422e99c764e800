/-! the law's own by: it catches -/
abbrev wO (cJ : ClassId) (a : Nat) (f : Nat → Int64) : va_W := [(a, .inl (cJ, 1, .inr (.inl f)))]
abbrev tyj (cI cZ cJ : ClassId) : List (ClassId × FieldType) := [(cI, .int), (cZ, .boolean), (cJ, .long)]
abbrev rmL : Room := { frames := 7, cells := 1, slots := 6, locals := 120 }
theorem Zz.to {A B : Nat → Prop} {s U : State} {H : Heap} {locs : List Loc} (h : Zz A s s.heap) (hS : va_S A s.heap H locs) (hAB : ∀ q, B q → A q) (hvm : s.vm.Alike U.vm) : Zz B U H :=
  ⟨(vx_Zq.moved hvm (h.1.kept hS.2.1)).narrow hAB, (vx_Zq.moved hvm (h.2.kept hS.2.1)).narrow hAB⟩
def CLb (l : Launch) (D : va_G) (cI cZ cJ : ClassId) (b : Nat → Nat) (a : Nat) (S : Sg) (x y : Int32) (o : Option Int32) (f : Nat → Int64) : Prop :=
  ∀ sz : Nat, Met l yL_by (.codeWith yL_by cL_by 5 (some .int) [(0, 10, 13, 13)] :: TX) rmL (va_Pc [.ref (b 0), .int x, .int y, .ref a] (fun U => U.heap.size = sz ∧ va_P D vwCl (wO cJ a f ++ wF cI cZ b S) U.heap ∧ va_K D vwCl (tyj cI cZ cJ) U ∧ va_D (fun _ => True) (wO cJ a f ++ wF cI cZ b S) ∧ XWs U ∧ Zz (va_A (wO cJ a f ++ wF cI cZ b S) sz) U U.heap))
    (va_Qi (fun (r9 : Int32) (g : Nat → Int64) => (o = none ∧ r9 = 1) ∨ ∃ v, o = some v ∧ r9 = 0 ∧ g 0 = v.toInt64) (fun g t => va_P D vwCl (wO cJ a g ++ wF cI cZ b S) t.heap ∧ va_D (va_A (wO cJ a f ++ wF cI cZ b S) sz) (wO cJ a g ++ wF cI cZ b S)) (va_A (wO cJ a f ++ wF cI cZ b S) sz)) 1 6 (va_A (wO cJ a f ++ wF cI cZ b S) sz)
theorem tw_cwL : Cond.codeWith yL_by cL_by 5 (some .int) [(0, 10, 13, 13)] ∈ TW := List.mem_of_getElem? (i := 655) (by decide +kernel)
theorem tw_kL13 : Cond.classLink RL 13 sNoE ∈ TW := List.mem_of_getElem? (i := 656) (by decide +kernel)
theorem mlL_7 : Cond.methodLink RL 7 yX7_by ∈ TW := List.mem_of_getElem? (i := 657) (by decide +kernel)
theorem tw_imby : Cond.instanceMethod yX7_by ∈ TW := List.mem_of_getElem? (i := 658) (by decide +kernel)
theorem tw_slby : Cond.selects RX7 yX7_by yX7_by ∈ TW := List.mem_of_getElem? (i := 659) (by decide +kernel)
theorem tw_iX7 : Cond.initialized RX7 ∈ TW := List.mem_of_getElem? (i := 2) (by decide +kernel)
theorem tw_cdby : Cond.code yX7_by cX7_by 3 (some .int) ∈ TW := List.mem_of_getElem? (i := 660) (by decide +kernel)
theorem fb_goodX {w0 : Cond} (h : w0 ∈ TW) : GoodIn TX (w0 :: TX) := fun w hw => by
  rcases List.mem_cons.mp hw with rfl | h1
  · exact ⟨List.mem_append_left _ h, TW_gd h⟩
  · exact ⟨h1, TX_gd h1⟩
theorem fb_blindX {D : va_G} {tys : List (ClassId × FieldType)} {av : List Value} {sz : Nat} {ws : va_W} {A : Nat → Prop} : FrameBlind (va_Pc av (fun U => U.heap.size = sz ∧ va_P D vwCl ws U.heap ∧ va_K D vwCl tys U ∧ va_D (fun _ => True) ws ∧ XWs U ∧ Zz A U U.heap)) := fun a U g mk q => by
  obtain ⟨q0, q1, qP, qK, qD, qX, qZ⟩ := q
  exact ⟨q0, q1, qP, va_K.moved (u := U) (U := U.calling g mk a) (Vm.Alike.refl U.vm) qK, qD, qX.calling, vx_Zq.moved (u := U) (U := U.calling g mk a) (Vm.Alike.refl U.vm) qZ.1, vx_Zq.moved (u := U) (U := U.calling g mk a) (Vm.Alike.refl U.vm) qZ.2⟩
theorem va_P.right {D : va_G} {w1 w2 : va_W} {H : Heap} (h : va_P D vwCl (w1 ++ w2) H) : va_P D vwCl w2 H := fun k x hx => h (w1.length + k) x (by rw [List.getElem?_append_right (by omega), Nat.add_sub_cancel_left]; exact hx)
theorem va_P.left {D : va_G} {w1 w2 : va_W} {H : Heap} (h : va_P D vwCl (w1 ++ w2) H) : va_P D vwCl w1 H := fun k x hx => h k x (by rw [List.getElem?_append_left (List.getElem?_eq_some_iff.mp hx).1]; exact hx)
theorem va_D.right {A : Nat → Prop} {w1 w2 : va_W} (h : va_D A (w1 ++ w2)) : va_D A w2 := by
  have hat : ∀ (k : Nat) (x : Nat × va_E), w2[k]? = some x → (w1 ++ w2)[w1.length + k]? = some x := fun k x hx => by
    rw [List.getElem?_append_right (by omega), Nat.add_sub_cancel_left]; exact hx
  refine ⟨fun i j x y hx hy hxy => ?_, fun k x hx => h.2 _ x (hat k x hx)⟩
  have := h.1 _ _ x y (hat i x hx) (hat j y hy) hxy
  omega
theorem va_D.left {A : Nat → Prop} {w1 w2 : va_W} (h : va_D A (w1 ++ w2)) : va_D A w1 := by
  have hat : ∀ (k : Nat) (x : Nat × va_E), w1[k]? = some x → (w1 ++ w2)[k]? = some x := fun k x hx => by
    rw [List.getElem?_append_left (List.getElem?_eq_some_iff.mp hx).1]; exact hx
  exact ⟨fun i j x y hx hy hxy => h.1 i j x y (hat i x hx) (hat j y hy) hxy, fun k x hx => h.2 k x (hat k x hx)⟩
theorem va_D.apart {A : Nat → Prop} {w1 w2 : va_W} (h : va_D A (w1 ++ w2)) : ∀ (i j : Nat) (x y : Nat × va_E), w1[i]? = some x → w2[j]? = some y → x.1 ≠ y.1 := by
  intro i j x y hx hy hxy
  have hi := (List.getElem?_eq_some_iff.mp hx).1
  have h1 : (w1 ++ w2)[i]? = some x := by rw [List.getElem?_append_left hi]; exact hx
  have h2 : (w1 ++ w2)[w1.length + j]? = some y := by rw [List.getElem?_append_right (by omega), Nat.add_sub_cancel_left]; exact hy
  have := h.1 _ _ x y h1 h2 hxy
  omega
theorem HB_swap {D : va_G} {w0 w1 w2 : va_W} {s : State} {H : Heap} {locs : List Loc} (h : HB D w0 (w1 ++ w2) s H locs) : HB D w0 (w2 ++ w1) s H locs :=
  ⟨va_P.app (va_P.right h.1) (va_P.left h.1), va_D.app (va_D.right h.2.1) (va_D.left h.2.1) (fun i j x y hx hy hxy => va_D.apart h.2.1 j i y x hy hx hxy.symm), h.2.2⟩
set_option maxHeartbeats 4000000 in
set_option maxRecDepth 100000 in
theorem clL_by {l : Launch} (hl0 : l.stackTraces = false) (D : va_G) (cI cZ cJ : ClassId) (b : Nat → Nat) (a : Nat) {S : Sg} {x y : Int32} {o : Option Int32} (hc : ByC S x y o) (f : Nat → Int64) : CLb l D cI cZ cJ b a S x y o f := by
  intro sz
  refine va_MetW (cc := cL_by) (maxL := 5) (ret := some .int) (hh := [(0, 10, 13, 13)]) (by decide) rfl ?_
  intro p e s m args below meth c s₁ B hml hv
  obtain ⟨rfl, hsz, hP, hK, hD0, hXW, hZ⟩ := hv
  subst hsz
  have hl := lv_entry [.ref (b 0), .int x, .int y, .ref a] (n := 5) (Nat.le_of_ble_eq_true rfl)
  rw [lg_entry_eq]
  have hts : ∀ w ∈ TX, w.before _ s = true := fun w hw => atoms_spec (ws := .codeWith yL_by cL_by 5 (some .int) [(0, 10, 13, 13)] :: TX) B.pre w (List.mem_cons_of_mem _ hw)
  have hK2 : va_K D vwCl (tyz cI cZ) s := hK.sub [0, 1] rfl
  have cx : Cx p s m #[Value.ref (b 0), .int x, .int y, .ref a] meth c cL_by 5 RL (some .int) D cI cZ := ⟨B.exec, B.bytes, hml, findClass_of_methodNamed B.named, fun w hw => hts w (List.mem_append_left _ hw), hK2, B.returns, B.notSynchronized⟩
  have htb : c.exceptionTable.toList = tableOf [(0, 10, 13, 13)] := vx_table (x := yL_by) B (hts _ (List.mem_append_left _ tw_cwL))
  have hH : HB D (wO cJ a f ++ wF cI cZ b S) (wO cJ a f ++ wF cI cZ b S) s s.heap [] := ⟨hP, hD0.self, va_S.rf⟩
  obtain ⟨hx, hb, -, hown, -, -, hrt, hlocks⟩ := id cx
  have hl : lv_has _ 5 [(0, .ref (b 0)), (1, .int x), (2, .int y), (3, .ref a)] := hl
  have hF := fb_freeR hH
  refine lv_aload_n hx hb dL_by_0 rfl (lv_at hl 3 rfl) ?_
  refine lv_iconst (v := 0) hx hb dL_by_1 (by decide) ?_
  refine lv_aload_n hx hb dL_by_2 rfl (lv_at hl 0 rfl) ?_
  refine lv_iload_n hx hb dL_by_3 rfl (lv_at hl 1 rfl) ?_
  refine lv_iload_n hx hb dL_by_4 rfl (lv_at hl 2 rfl) ?_
  refine vx_calli (vx_runV (As := [.int x, .int y]) (rest := [.int 0, .ref a]) (Ts := TX) ⟨hx, hb, hml, hown, hts⟩ (cbX7_by hl0 D cI cZ b hc s.heap.size) ⟨callB_of 2 hts (fb_goodX tw_cdby) rfl rfl rfl (hts _ (List.mem_append_left _ tw_iX7)) (hts _ (List.mem_append_left _ mlL_7)) ⟨by decide, by decide, by decide⟩ (by decide), hts _ (List.mem_append_left _ tw_imby), hts _ (List.mem_append_left _ tw_slby)⟩ ⟨fb_blindX, F_rc0 (w0 := wF cI cZ b S) (locs := []) cx ⟨va_P.right hP, (va_D.right hD0).self, va_S.rf⟩, fun U hU hW => ⟨rfl, by rw [hU], by rw [hU]; exact va_P.right hP, va_K.moved hW.alike hK2, va_D.right hD0, hXW.warm hW, by rw [hU]; exact hZ.to hH.2.2 hF hW.alike⟩⟩ rfl rfl hl.1 rfl (lv_room (Nat.le_of_ble_eq_true rfl)) dL_by_5 (by decide)) hH.2.2 (fun q _ h => hF q h) hF (fun q _ h => hF q h) ?_ ?_
  · intro E ce q9 u t H1 locs1 ht hvm ho hB hz hk hS hce hcv hcl
    obtain ⟨rfl, hP1, hD1⟩ := hB
    rw [ht] at hP1
    obtain ⟨hP2, hD2⟩ := fb_split hH.1 hH.2.1 hk hF hP1 hD1
    refine cy_catch (own := RL) (name := sNoE) (E := sNoE) hown { startPc := 0, endPc := 10, handlerPc := 13, catchType := 13 } htb (by decide) (by decide) (hts _ (List.mem_append_left _ tw_kL13)) (hXW.2.2.2.use rfl) hce hcv hcl ?_
    refine lv_astore (lv' := [(4, .ref q9), (0, .ref (b 0)), (1, .int x), (2, .int y), (3, .ref a)]) hx hb dL_by_13 hl (by decide) rfl (fun ls hl => ?_)
    refine lv_iconst (v := 1) hx hb dL_by_15 (by decide) ?_
    exact W.iret hx hb hrt (fun t ht hW => ⟨⟨1, f, rfl, Or.inl ⟨ho, rfl⟩, by rw [ht]; exact hP2, hD2⟩, hS.F ht⟩) hS.2.2 dL_by_16 hlocks
  · intro r u t H1 locs1 ht hvm hp hB hz hk hS
    obtain ⟨ho, rfl⟩ := hp
    rw [ht] at hB
    obtain ⟨hP2, hD2⟩ := fb_split hH.1 hH.2.1 hk hF hB.1 hB.2.2
    refine lv_i2l hx hb dL_by_8 rfl ?_
    refine va_last hx hb hK hP2 hD2 hS 0 2 rfl rfl (by unfold vp_in; decide) dL_by_9 (fun H2 locs2 hP3 hD3 hS3 => ?_)
    refine lv_goto (tgt := 17) hx hb dL_by_10 (by decide) ?_
    refine lv_iconst (v := 0) hx hb dL_by_17 (by decide) ?_
    exact W.iret hx hb hrt (fun t ht hW => ⟨⟨0, vp_updL f (0 : Int32).toNatClampNeg r.toInt64, rfl, Or.inr ⟨r, ho, rfl, by simp [vp_updL]⟩, by rw [ht]; exact hP3, hD3⟩, hS3.F ht⟩) hS3.2.2 dL_by_18 hlocks
