/-! the law from its entry -/
theorem atN_tbl : ∀ w ∈ atN.filter goodWord, w ∈ lw_tbl := lw_pl [53, 674, 683, 685, 688, 690, 675, 676, 63, 64, 677, 682, 686, 702, 664, 703, 666, 704, 668, 678, 680, 670, 692, 693, 694, 695, 695, 696, 697, 698, 698, 699, 700, 675, 691, 653, 661, 662, 663, 665, 667, 669, 673, 672, 671] (by decide +kernel)
theorem xn_tbl : ∀ w ∈ xw4 ++ [Cond.methodLinkNest RX7 18 yX1_init "FoamBlocks", .methodLinkNest RX1 11 yX4_init "FoamBlocks", .methodLinkNest RX7 30 yX0_init "FoamBlocks", .methodLinkNest RX7 44 yX2_init "FoamBlocks", .methodLinkNest RX7 51 yX5_init "FoamBlocks", .laysStatic Bundle.tN "UNASSIGNED_STACK" Bundle.steD, .laysStatic Bundle.tN "SUPPRESSED_SENTINEL" Bundle.listD, .initialized Bundle.tN], w ∈ lw_tbl := lw_pl [655, 657, 659, 654, 93, 99, 139, 222, 244, 679, 681, 53] (by decide +kernel)
theorem tw_k8 : Cond.classLink RL 8 RX7 ∈ TW := List.mem_of_getElem? (i := 0) (by decide +kernel)
theorem tw_n7 : Cond.instantiable RX7 9 ∈ TW := List.mem_of_getElem? (i := 1) (by decide +kernel)
theorem tw_k16 : Cond.classLink RL 16 RX8 ∈ TW := List.mem_of_getElem? (i := 3) (by decide +kernel)
theorem tw_n8 : Cond.instantiable RX8 40 ∈ TW := List.mem_of_getElem? (i := 4) (by decide +kernel)
theorem tw_iX8 : Cond.initialized RX8 ∈ TW := List.mem_of_getElem? (i := 5) (by decide +kernel)
theorem tw_aJ : Cond.arrayClass (newarray.typeOf .long) ∈ TW := List.mem_of_getElem? (i := 6) (by decide +kernel)
theorem tw_im7 : Cond.instanceMethod yX7_init ∈ TW := List.mem_of_getElem? (i := 8) (by decide +kernel)
theorem tw_cd7 : Cond.code yX7_init cX7_init 1 none ∈ TW := List.mem_of_getElem? (i := 9) (by decide +kernel)
theorem tw_im8 : Cond.instanceMethod yX8_init ∈ TW := List.mem_of_getElem? (i := 108) (by decide +kernel)
theorem tw_cd8 : Cond.code yX8_init cX8_init 2 none ∈ TW := List.mem_of_getElem? (i := 109) (by decide +kernel)
theorem isU : Cond.isRef (.static Bundle.tN "UNASSIGNED_STACK" Bundle.steD) ∈ flatC (Jvm.Cond.and given_1 narrow_1) := by decide +kernel
theorem isN : Cond.isRef (.static Bundle.tN "SUPPRESSED_SENTINEL" Bundle.listD) ∈ flatC (Jvm.Cond.and given_1 narrow_1) := by decide +kernel
set_option maxHeartbeats 4000000 in
set_option maxRecDepth 100000 in
theorem whole_start {p : Program} {e : Env} {s : State} {m : MethodId} {below : List Frame} {meth : Method} {c : Code} (l : Launch) (hl0 : l.stackTraces = false) {b L : Nat} {xs : Nat → Int32} (hL : L ≤ 3072) (C0 : lw_At p s m meth c b L xs) : W p l e room_1 s m #[Value.ref b] below meth c s.heap [] 0 0 (lw_Z below #[Value.ref b] s) (entryFrame m ([Value.ref b] : List Value).toArray 7) := by
  obtain ⟨hx, hb, hrt, hml, hown, hts, hX, hsc, hlocks, hgv⟩ := C0
  have htw : ∀ w ∈ TW, w.before #[Value.ref b] s = true := fun w hw => hts w (TW_tbl w hw)
  have hTX : ∀ w ∈ TX, w.before #[Value.ref b] s = true := fun w hw => (List.mem_append.mp hw).elim (htw w) (fun h => hts w (atN_tbl w h))
  obtain ⟨D, cI, cZ, cJ, hK⟩ := fl_D htw
  have hq : ∀ (i : Nat) (w : Cond), (xw4 ++ [Cond.methodLinkNest RX7 18 yX1_init "FoamBlocks", .methodLinkNest RX1 11 yX4_init "FoamBlocks", .methodLinkNest RX7 30 yX0_init "FoamBlocks", .methodLinkNest RX7 44 yX2_init "FoamBlocks", .methodLinkNest RX7 51 yX5_init "FoamBlocks", .laysStatic Bundle.tN "UNASSIGNED_STACK" Bundle.steD, .laysStatic Bundle.tN "SUPPRESSED_SENTINEL" Bundle.listD, .initialized Bundle.tN])[i]? = some w → w.before #[Value.ref b] s = true := fun i w h => hts w (xn_tbl w (List.mem_of_getElem? h))
  have hXW : XWs s := ⟨va_Nw.of rfl (hq 0 _ rfl), va_Nw.of rfl (hq 1 _ rfl), va_Nw.of rfl (hq 2 _ rfl), va_Nw.of rfl (hq 3 _ rfl)⟩
  have hN : NWs s := ⟨va_Nw.of rfl (hq 4 _ rfl), va_Nw.of rfl (hq 5 _ rfl), va_Nw.of rfl (hq 6 _ rfl), va_Nw.of rfl (hq 7 _ rfl), va_Nw.of rfl (hq 8 _ rfl)⟩
  have hfl := flat_of_before _ hgv
  have hZ : Zz (va_A [] s.heap.size) s s.heap := ⟨vx_Zqof (hq 9 _ rfl) (hq 11 _ rfl) (hfl _ isU) (fun a h => fl_noA h), vx_Zqof (hq 10 _ rfl) (hq 11 _ rfl) (hfl _ isN) (fun a h => fl_noA h)⟩
  have cx : Cx p s m #[Value.ref b] meth c cL_law 7 RL (some .boolean) D cI cZ := ⟨hx, hb, hml, hown, htw, hK.sub [0, 1] rfl, hrt, hlocks⟩
  have hH : HB D [] [] s s.heap [] := ⟨fun k q hq => (by cases hq), ⟨fun i j x y hx => (by cases hx), fun k q hq => (by cases hq)⟩, va_S.rf⟩
  have hl := lv_entry [.ref b] (n := 7) (Nat.le_of_ble_eq_true rfl)
  rw [lg_entry_eq]
  have hl : lv_has _ 7 [(0, .ref b)] := hl
  refine fb_nw (ci := 7) (fs := [.null, .null, .null, .null, .null, .null, .null, .int 0, .int 0]) tyX7 tyX7_ok i_X7 cx hH tw_k8 tw_n7 tw_iX7 rfl (fun j hj => by rcases (show j = 0 ∨ j = 1 ∨ j = 2 ∨ j = 3 ∨ j = 4 ∨ j = 5 ∨ j = 6 ∨ j = 7 ∨ j = 8 by omega) with rfl | rfl | rfl | rfl | rfl | rfl | rfl | rfl | rfl <;> rfl) (Nat.le_of_ble_eq_true rfl) (Nat.le_of_ble_eq_true rfl) dL_law_0 (fun q1 H hH => ?_)
  refine lv_dup hx hb dL_law_3 rfl ?_
  refine fb_ini (ws := []) (w1 := fun u => wF cI cZ (bA q1 u) S0F) cx hN hH (ciX7 l D cI cZ q1) tw_cd7 tw_iX7 tw_im7 rfl ⟨by decide, by decide⟩ (by decide) mlw_15 (by decide) hl.1 (Nat.le_of_ble_eq_true rfl) dL_law_4 ⟨Nat.le_of_ble_eq_true rfl, Nat.le_of_ble_eq_true rfl⟩ (fun u1 H locs hH => ?_)
  have hH : HB D [] (wF cI cZ (bA q1 u1) S0F) s H locs := hH
  refine lv_astore_n (lv' := [(1, .ref q1), (0, .ref b)]) hx hb dL_law_7 rfl hl (by decide) rfl (fun ls hl => ?_)
  refine fb_nw (ci := 8) (fs := [.int 0, .int 0, .int 0, .int 0, .int 0, .int 0, .int 0, .int 0, .null, .null, .null, .null, .null, .int 0, .int 0, .null, .null, .null, .null, .null, .int 0, .null, .null, .null, .null, .null, .null, .null, .null, .int 0, .null, .null, .null, .null, .null, .null, .null, .null, .null, .null]) tyX8 tyX8_ok i_X8 cx hH tw_k16 tw_n8 tw_iX8 rfl (fun j hj => by rcases (show j = 0 ∨ j = 1 ∨ j = 2 ∨ j = 3 ∨ j = 4 ∨ j = 5 ∨ j = 6 ∨ j = 7 ∨ j = 8 ∨ j = 9 ∨ j = 10 ∨ j = 11 ∨ j = 12 ∨ j = 13 ∨ j = 14 ∨ j = 15 ∨ j = 16 ∨ j = 17 ∨ j = 18 ∨ j = 19 ∨ j = 20 ∨ j = 21 ∨ j = 22 ∨ j = 23 ∨ j = 24 ∨ j = 25 ∨ j = 26 ∨ j = 27 ∨ j = 28 ∨ j = 29 ∨ j = 30 ∨ j = 31 ∨ j = 32 ∨ j = 33 ∨ j = 34 ∨ j = 35 ∨ j = 36 ∨ j = 37 ∨ j = 38 ∨ j = 39 by omega) with rfl | rfl | rfl | rfl | rfl | rfl | rfl | rfl | rfl | rfl | rfl | rfl | rfl | rfl | rfl | rfl | rfl | rfl | rfl | rfl | rfl | rfl | rfl | rfl | rfl | rfl | rfl | rfl | rfl | rfl | rfl | rfl | rfl | rfl | rfl | rfl | rfl | rfl | rfl | rfl <;> rfl) (Nat.le_of_ble_eq_true rfl) (Nat.le_of_ble_eq_true rfl) dL_law_8 (fun q2 H hH => ?_)
  refine lv_dup hx hb dL_law_11 rfl ?_
  refine fb_ini (ws := wF cI cZ (bA q1 u1) S0F) (w1 := fun u => wM cI cZ (bA q2 u) S0M) cx hN hH (ciX8 l D cI cZ q2) tw_cd8 tw_iX8 tw_im8 rfl ⟨by decide, by decide⟩ (by decide) mlw_18 (by decide) hl.1 (Nat.le_of_ble_eq_true rfl) dL_law_12 ⟨Nat.le_of_ble_eq_true rfl, Nat.le_of_ble_eq_true rfl⟩ (fun u2 H locs hH => ?_)
  have hH : HB D [] (wF cI cZ (bA q1 u1) S0F ++ wM cI cZ (bA q2 u2) S0M) s H locs := hH
  refine lv_astore_n (lv' := [(2, .ref q2), (1, .ref q1), (0, .ref b)]) hx hb dL_law_15 rfl hl (by decide) rfl (fun ls hl => ?_)
  refine lv_iconst (v := 1) hx hb dL_law_16 (by decide) ?_
  refine va_newa (a0 := (1, .inr (.inl (fun _ => 0)))) (atype := .long) (ty := .long) hx hb (htw _ tw_aJ) rfl hK hH.1 hH.2.1 hH.2.2 (fun _ h => Or.inr h) (fun _ => rfl) (by decide) (by decide) (Nat.le_of_ble_eq_true rfl) (Nat.le_of_ble_eq_true rfl) (Nat.le_of_ble_eq_true rfl) dL_law_17 (fun q3 cA H hK2 hP hD hS => ?_)
  have e9 : cA = cJ := Option.some.inj ((hK2.2 3 _ rfl).2.symm.trans (hK.2 2 _ rfl).2)
  subst e9
  have hH : HB D [] ((wF cI cZ (bA q1 u1) S0F ++ wM cI cZ (bA q2 u2) S0M) ++ wO cA q3 (fun _ => 0)) s H locs := ⟨hP, hD, hS⟩
  have hH := HB_R (HB_R hH)
  refine lv_astore_n (lv' := [(3, .ref q3), (2, .ref q2), (1, .ref q1), (0, .ref b)]) hx hb dL_law_19 rfl hl (by decide) rfl (fun ls hl => ?_)
  refine lv_iconst (v := 0) hx hb dL_law_20 (by decide) ?_
  refine lv_istore (lv' := [(4, .int 0), (3, .ref q3), (2, .ref q2), (1, .ref q1), (0, .ref b)]) hx hb dL_law_21 hl (by decide) rfl (fun ls hl => ?_)
  exact lw_loop (a := bA q2 u2) (b := bA q1 u1) (o := q3) hl0 hTX hXW hZ cx hK hX hsc hL 512 0 S0F S0M (fun _ => 0) H locs ls rfl rel0 hH hl
