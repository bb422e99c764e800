/-! the class's by: it answers, or it throws -/
abbrev sNoE : String := "java/util/NoSuchElementException"
abbrev atN : List Cond := vx_at0 RX7 232 "java/util/NoSuchElementException" ["java/lang/RuntimeException", "java/lang/Exception"]
abbrev TX : List Cond := TW ++ atN.filter goodWord
theorem TX_gd {w : Cond} (h : w ∈ TX) : (w.onTables && w.keeps) = true ∨ ∃ ty, w = .arrayClass ty := by
  rcases List.mem_append.mp h with h | h
  · exact TW_gd h
  · exact good_of_word (List.mem_filter.mp h).2
abbrev xw4 : List Cond := [.declares ⟨"java/lang/RuntimeException", "<init>", "()V"⟩, .declares ⟨"java/lang/Exception", "<init>", "()V"⟩, .declares ⟨"java/lang/Throwable", "<init>", "()V"⟩, .castable sNoE sNoE]
def XWs (U : State) : Prop := va_Nw (.declares ⟨"java/lang/RuntimeException", "<init>", "()V"⟩) U ∧ va_Nw (.declares ⟨"java/lang/Exception", "<init>", "()V"⟩) U ∧ va_Nw (.declares ⟨"java/lang/Throwable", "<init>", "()V"⟩) U ∧ va_Nw (.castable sNoE sNoE) U
theorem XWs.warm {s U : State} (hW : s.WarmedH U.vm) (h : XWs s) : XWs U := ⟨h.1.warmD hW, h.2.1.warmD hW, h.2.2.1.warmD hW, h.2.2.2.warmC hW⟩
theorem XWs.calling {U : State} {g : JFrame} {mk : MethodId} {a : Array Value} (h : XWs U) : XWs (U.calling g mk a) := ⟨h.1.same rfl rfl, h.2.1.same rfl rfl, h.2.2.1.same rfl rfl, h.2.2.2.same rfl rfl⟩
theorem XWs.ok {U : State} {args : Array Value} (h : XWs U) : ∀ w ∈ xw4, w.before args U = true := vx_c (h.1.use rfl) (vx_c (h.2.1.use rfl) (vx_c (h.2.2.1.use rfl) (vx_c (h.2.2.2.use rfl) vx_n)))
theorem atN_no : ∀ w ∈ atN.filter (fun w => !goodWord w), w ∈ xw4 := by decide +kernel
theorem atN_ot : ∀ w ∈ Cond.classLink RX7 230 sNoE :: Cond.initialized sNoE :: atN, vx_ot w = true := by decide +kernel
theorem tw_k230 : Cond.classLink RX7 230 sNoE ∈ TW := List.mem_of_getElem? (i := 661) (by decide +kernel)
theorem tw_iNoE : Cond.initialized sNoE ∈ TW := List.mem_of_getElem? (i := 662) (by decide +kernel)
theorem mlX7_233 : Cond.methodLink RX7 233 yX5_takenAt ∈ TW := List.mem_of_getElem? (i := 663) (by decide +kernel)
theorem mwX5_takenAt : MWv yX5_takenAt cX5_takenAt 3 (some .int) RX5 2 := ⟨List.mem_of_getElem? (i := 666) (by decide +kernel), List.mem_of_getElem? (i := 664) (by decide +kernel), List.mem_of_getElem? (i := 665) (by decide +kernel), List.mem_of_getElem? (i := 37) (by decide +kernel), rfl, ⟨by decide, by decide⟩, by decide⟩
def Zz (A : Nat → Prop) (U : State) (H : Heap) : Prop := vx_Zq Bundle.tN "UNASSIGNED_STACK" Bundle.steD A U H ∧ vx_Zq Bundle.tN "SUPPRESSED_SENTINEL" Bundle.listD A U H
abbrev rmB : Room := { frames := 6, cells := 1, slots := 6, locals := 90 }
def ByC (S : Sg) (x y : Int32) (o : Option Int32) : Prop := (o = none ∧ (hsb x (S.1 14) = 0 ∨ (vp_in x 40 ∧ ¬ hsb x (S.1 14) = 0 ∧ (y < 0 ∨ (¬ y < 0 ∧ S.2 35 x.toNatClampNeg ≤ y))))) ∨ ∃ r, o = some r ∧ ¬ hsb x (S.1 14) = 0 ∧ vp_in x 40 ∧ ¬ y < 0 ∧ ¬ S.2 35 x.toNatClampNeg ≤ y ∧ pX5_takenAt S x y = some r
def CB (l : Launch) (D : va_G) (cI cZ : ClassId) (b : Nat → Nat) (S : Sg) (x y : Int32) (o : Option Int32) : Prop :=
  ∀ sz : Nat, vx_Met l yX7_by (.code yX7_by cX7_by 3 (some .int) :: TX) rmB (va_Pc [.ref (b 0), .int x, .int y] (fun U => U.heap.size = sz ∧ va_P D vwCl (wF cI cZ b S) U.heap ∧ va_K D vwCl (tyz cI cZ) U ∧ va_D (fun _ => True) (wF cI cZ b S) ∧ XWs U ∧ Zz (va_A (wF cI cZ b S) sz) U U.heap))
    (va_Qi (fun (r9 : Int32) (u : Sg) => o = some r9 ∧ u = S) (fun u t => va_P D vwCl (wF cI cZ b u) t.heap ∧ va_K D vwCl (tyz cI cZ) t ∧ va_D (va_A (wF cI cZ b S) sz) (wF cI cZ b u)) (va_A (wF cI cZ b S) sz))
    (vx_X (fun _ : Unit => o = none) (fun E _ t => E = sNoE ∧ va_P D vwCl (wF cI cZ b S) t.heap ∧ va_D (va_A (wF cI cZ b S) sz) (wF cI cZ b S)) (va_A (wF cI cZ b S) sz)) 1 6 (va_A (wF cI cZ b S) sz)
set_option maxHeartbeats 4000000 in
set_option maxRecDepth 100000 in
theorem cbX7_by {l : Launch} (hl0 : l.stackTraces = false) (D : va_G) (cI cZ : ClassId) (b : Nat → Nat) {S : Sg} {x y : Int32} {o : Option Int32} (hc : ByC S x y o) : CB l D cI cZ b S x y o := by
  intro sz
  refine vx_ofW (cc := cX7_by) (maxL := 3) (ret := some .int) (by decide) rfl ?_
  intro p e s m args below meth c s₁ B hml htab hv
  obtain ⟨rfl, hsz, hP, hK, hD0, hXW, hZ⟩ := hv
  subst hsz
  have hl := lv_entry [.ref (b 0), .int x, .int y] (n := 3) (Nat.le_of_ble_eq_true rfl)
  rw [lg_entry_eq]
  have hts : ∀ w ∈ TX, w.before _ s = true := fun w hw => atoms_spec (ws := .code yX7_by cX7_by 3 (some .int) :: TX) B.pre w (List.mem_cons_of_mem _ hw)
  have cx : Cx p s m _ meth c cX7_by 3 RX7 (some .int) D cI cZ := ⟨B.exec, B.bytes, hml, findClass_of_methodNamed B.named, fun w hw => hts w (List.mem_append_left _ hw), hK, B.returns, B.notSynchronized⟩
  have hH : HB D (wF cI cZ b S) (wF cI cZ b S) s s.heap [] := ⟨hP, hD0.self, va_S.rf⟩
  obtain ⟨hx, hb, -⟩ := id cx
  have hl : lv_has _ 3 [(0, .ref (b 0)), (1, .int x), (2, .int y)] := hl
  have thr : ∀ (H : Heap) (locs : List Loc) (ls : Array Slot), o = none → HB D (wF cI cZ b S) (wF cI cZ b S) s H locs → ls.size = 3 → W p l e (headSpec (.code yX7_by cX7_by 3 (some .int) :: TX) rmB).room s m #[Value.ref (b 0), Value.int x, Value.int y] below meth c H locs 0 0 (vx_MQ below (va_Qi (fun (r9 : Int32) (u : Sg) => o = some r9 ∧ u = S) (fun u t => va_P D vwCl (wF cI cZ b u) t.heap ∧ va_K D vwCl (tyz cI cZ) t ∧ va_D (va_A (wF cI cZ b S) s.heap.size) (wF cI cZ b u)) (va_A (wF cI cZ b S) s.heap.size)) (vx_X (fun _ : Unit => o = none) (fun E _ t => E = sNoE ∧ va_P D vwCl (wF cI cZ b S) t.heap ∧ va_D (va_A (wF cI cZ b S) s.heap.size) (wF cI cZ b S)) (va_A (wF cI cZ b S) s.heap.size)) #[Value.ref (b 0), Value.int x, Value.int y] s 1 6 (va_A (wF cI cZ b S) s.heap.size)) (F0 m 28 ls []) := by
    intro H locs ls ho hH hls
    refine vx_throw0 (own := RX7) (cls := sNoE) (names := ["java/lang/RuntimeException", "java/lang/Exception"]) (ik := 230) (ic := 232) (A := va_A (wF cI cZ b S) s.heap.size) hx hb hl0 cx.2.2.2.1 (by decide +kernel) (by decide +kernel) (cx.2.2.2.2.1 _ tw_k230) (cx.2.2.2.2.1 _ tw_iNoE) ?_ atN_ot hZ.1 hZ.2 hH.2.2 (hls.trans hml.symm) dX7_by_28 dX7_by_31 dX7_by_32 dX7_by_35 (fun z hz => (htab z hz).elim) (by decide) (by decide) (by decide) (by decide) cx.2.2.2.2.2.2.2 ?_ hH.2.2.2.2 (by decide) (by decide)
    · exact vx_hat (B := xw4) (fun w hw => hts w (List.mem_append_right _ hw)) atN_no hXW.ok
    · intro t hvm hz hq
      refine ⟨(), ho, ⟨rfl, hH.1.kept (fun k q hk => hq q.1 ((hH.1 k q hk).lt)), hH.2.1⟩, Nat.le_trans hH.2.2.1 hz, fun q h1 h2 => ?_⟩
      rw [hq q (Nat.lt_of_lt_of_le h1 hH.2.2.1)]
      exact hH.2.2.2.1 q h1 h2
  refine lv_aload_n hx hb dX7_by_0 rfl (lv_at hl 0 rfl) ?_
  refine F_ro0_6 cx hH lkX7_52 dX7_by_1 ?_
  refine lv_iload_n hx hb dX7_by_4 rfl (lv_at hl 1 rfl) ?_
  refine fb_vi (wd := wF cI cZ b) (As := [.int x]) (rest := []) cx hH mwX5_has (ctX5_has l D cI cZ b (r_has5 S x)) (F_rc7 cx hH) mlX7_208 (by decide) rfl hl.1 (Nat.le_of_ble_eq_true rfl) rfl dX7_by_5 (fun H locs hH => ?_)
  refine lv_if_eq (tgt := 28) hx hb dX7_by_8 (by decide) (fun c_1 => ?_) (fun c_1 => ?_)
  · refine thr H locs _ ?_ hH hl.1
    rcases hc with ⟨h1, -⟩ | ⟨r, -, h1, -⟩
    · exact h1
    · exact absurd c_1 h1
  · refine lv_iload_n hx hb dX7_by_11 rfl (lv_at hl 2 rfl) ?_
    refine lv_if_lt (tgt := 28) hx hb dX7_by_12 (by decide) (fun c_2 => ?_) (fun c_2 => ?_)
    · refine thr H locs _ ?_ hH hl.1
      rcases hc with ⟨h1, -⟩ | ⟨r, -, -, -, h1, -⟩
      · exact h1
      · exact absurd c_2 h1
    · have hin : vp_in x 40 := by
        rcases hc with ⟨-, h1 | ⟨h1, -⟩⟩ | ⟨r, -, -, h1, -⟩
        · exact absurd h1 c_1
        · exact h1
        · exact h1
      refine lv_iload_n hx hb dX7_by_15 rfl (lv_at hl 2 rfl) ?_
      refine lv_aload_n hx hb dX7_by_16 rfl (lv_at hl 0 rfl) ?_
      refine F_ro0_6 cx hH lkX7_52 dX7_by_17 ?_
      refine F_ra35 cx hH lkX7_227 dX7_by_20 ?_
      refine lv_iload_n hx hb dX7_by_23 rfl (lv_at hl 1 rfl) ?_
      refine F_l35 cx hH hin dX7_by_24 ?_
      refine lv_icmp_lt (tgt := 36) hx hb dX7_by_25 (by decide) (fun c_3 => ?_) (fun c_3 => ?_)
      · have hr : ∃ r, o = some r ∧ pX5_takenAt S x y = some r := by
          rcases hc with ⟨-, h1 | ⟨-, -, h1 | ⟨-, h1⟩⟩⟩ | ⟨r, h1, -, -, -, -, h2⟩
          · exact absurd h1 c_1
          · exact absurd h1 c_2
          · exact absurd c_3 (Int32.not_lt.mpr h1)
          · exact ⟨r, h1, h2⟩
        obtain ⟨r, ho, ht⟩ := hr
        refine lv_aload_n hx hb dX7_by_36 rfl (lv_at hl 0 rfl) ?_
        refine F_ro0_6 cx hH lkX7_52 dX7_by_37 ?_
        refine lv_iload_n hx hb dX7_by_40 rfl (lv_at hl 1 rfl) ?_
        refine lv_iload_n hx hb dX7_by_41 rfl (lv_at hl 2 rfl) ?_
        refine fb_vi (wd := wF cI cZ b) (As := [.int x, .int y]) (rest := []) cx hH mwX5_takenAt (ctX5_takenAt l D cI cZ b ht) (F_rc7 cx hH) mlX7_233 (by decide) rfl hl.1 (Nat.le_of_ble_eq_true rfl) rfl dX7_by_42 (fun H locs hH => ?_)
        refine W.widen (k := 1) (n := 6) (by decide) (by decide) (vx_ret ?_)
        obtain ⟨-, -, -, -, -, -, hrt, hlocks⟩ := id cx
        exact W.iret hx hb hrt (fun t ht hW => ⟨⟨r, S, rfl, ⟨ho, rfl⟩, by rw [ht]; exact hH.1, va_K.moved hW.alike hK, hH.2.1⟩, hH.2.2.F ht⟩) hH.2.2.2.2 dX7_by_45 hlocks
      · refine thr H locs _ ?_ hH hl.1
        rcases hc with ⟨h1, -⟩ | ⟨r, -, -, -, -, h1, -⟩
        · exact h1
        · exact absurd (Int32.not_lt.mp c_3) h1
