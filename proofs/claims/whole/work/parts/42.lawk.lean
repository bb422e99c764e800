/-! the law: what its calls stand on -/
theorem HB_R {D : va_G} {w0 A B C : va_W} {s : State} {H : Heap} {locs : List Loc} (h : HB D w0 ((A ++ B) ++ C) s H locs) : HB D w0 ((C ++ A) ++ B) s H locs := by
  have h2 := HB_swap h
  rw [← List.append_assoc] at h2
  exact h2
theorem HB_right {D : va_G} {w0 A B : va_W} {s : State} {H : Heap} {locs : List Loc} (h : HB D w0 (A ++ B) s H locs) : HB D w0 B s H locs := ⟨va_P.right h.1, va_D.right h.2.1, h.2.2⟩
theorem nI_lt3 {a b : Nat} (h1 : a < 4096) (h2 : b < 4096) (h : ¬ (nI b - 6) < nI a) : a + 6 ≤ b := by
  have h6 : (6 : Int32) = nI 6 := rfl
  by_cases hb : 6 ≤ b
  · obtain ⟨d, rfl⟩ : ∃ d, b = d + 6 := ⟨b - 6, by omega⟩
    rw [← nI_add, h6, Int32.add_sub_cancel] at h
    have h9 : ¬ d < a := fun q => h ((nI_ltI (show d < 2 ^ 31 by omega) (show a < 2 ^ 31 by omega)).mpr q)
    omega
  · exfalso
    refine h ?_
    have : ∀ b : Nat, b < 6 → nI b - 6 < 0 := by decide
    exact Int32.lt_of_lt_of_le (this b (by omega)) (nI_pos' (by omega))
section LAWK
variable {p : Program} {l : Launch} {e : Env} {R : Room} {s : State} {m : MethodId} {args : Array Value} {below : List Frame} {meth : Method} {c : Code} {H : Heap} {locs : List Loc} {Q : State → Prop} {cells slots : Nat}
variable {cc : ByteArray} {nL index : Nat} {own : String} {ret : Option FieldType} {D : va_G} {cI cZ : ClassId} {w0 ws : va_W} {pc : Nat} {ls : Array Slot} {rest : List Value} {wd : Sg → va_W} {S S2 : Sg} {r : Int32}
theorem fl_vi {y : MethodName} {cy : ByteArray} {n np k index a : Nat} {rt : Option FieldType} {C : String} {As : List Value} (cx : Cx p s m args meth c cc nL own ret D cI cZ) (hH : HB D w0 (ws ++ wd S) s H locs) (mw : MWv y cy n rt C np) (ct : CTi l D cI cZ wd y cy n rt k (.ref a :: As) S r S2)
    (hrc : ∃ cell : Cell, H[a]? = some cell ∧ cell.vm.isStatics = false ∧ s.vm.findClass C = some cell.cls) (hlk : Cond.methodLink own index y ∈ TW) (hR : k + 1 ≤ R.frames ∧ 8 + (n + 11) + 30 * k ≤ R.locals) (hce : cells ≤ R.cells ∧ slots ≤ R.slots) (hn : As.length = np) (hls : ls.size = nL) (hrm : (rest.map fun v => v.category).sum ≤ 8) {st0 : List Value} (hst : st0 = As.reverse ++ .ref a :: rest) (hdg : decode cc pc = .ok (.invokevirtual index, 3))
    (kk : ∀ (H : Heap) (locs : List Loc), HB D w0 (ws ++ wd S2) s H locs → W p l e R s m args below meth c H locs cells slots Q (F0 m (pc + 3) ls (.int r :: rest))) : W p l e R s m args below meth c H locs cells slots Q (F0 m pc ls st0) := by
  obtain ⟨w1, w2, w3, w4, w5, w6, w7⟩ := mw
  subst w5
  have hF := fb_freeR hH
  refine va_calli (va_runV (As := As) (rest := rest) (Ts := TW) ⟨cx.1, cx.2.1, cx.2.2.1, cx.2.2.2.1, cx.2.2.2.2.1⟩ (ct H.size) ⟨fb_callB cx w1 w4 w6 w7 hlk hR, cx.2.2.2.2.1 _ w2, cx.2.2.2.2.1 _ w3⟩ ⟨fb_blind, hrc, fun U hU hW => ⟨rfl, by rw [hU], by rw [hU]; exact va_P.right hH.1, va_K.moved hW.alike cx.2.2.2.2.2.1, (va_D.right hH.2.1).weaken (fun _ _ _ _ => trivial)⟩⟩ rfl hn hls hst (lv_room hrm) hdg hce) hH.2.2 (fun q _ h => hF q h) hF (fun r9 u t H1 locs1 ht hvm hw hB hz1 hk1 hS => ?_)
  obtain ⟨rfl, rfl⟩ := hw
  rw [ht] at hB
  obtain ⟨hP, hD⟩ := fb_split hH.1 hH.2.1 hk1 hF hB.1 hB.2.2
  exact kk H1 locs1 ⟨hP, hD, hS⟩
/-- the law's context: the script at the cell sc, six ints of it from 6k on -/
def LC (p : Program) (s : State) (m : MethodId) (args : Array Value) (meth : Method) (c : Code) (sc L : Nat) (xs : Nat → Int32) (D : va_G) (cI cZ cJ : ClassId) (k : Nat) : Prop :=
  Cx p s m args meth c cL_law 7 RL (some .boolean) D cI cZ ∧ va_K D vwCl (tyj cI cZ cJ) s ∧ va_X sc L xs s s.heap ∧ sc < s.heap.size ∧ L ≤ 3072 ∧ 6 * k + 6 ≤ L
theorem fl_noA {s : State} {q : Nat} (h : q < s.heap.size) : ¬ va_A [] s.heap.size q := fun z => by
  rcases z with ⟨k, e, z⟩ | z
  · cases z
  · omega
theorem fl_arg {sc L : Nat} {xs : Nat → Int32} {cJ : ClassId} {k : Nat} {w : va_W} {lv : List (Nat × Value)} (j : Nat) (hj : j < 6) {n : Int} {v : Int32} (hv : Int32.ofInt n = v) (hvj : v = nI j) (C : LC p s m args meth c sc L xs D cI cZ cJ k) (hH : HB D [] w s H locs) (h4 : ls[4]? = some (.val (.int (nI (6 * k))))) (h0 : ls[0]? = some (.val (.ref sc)))
    (d0 : decode cL_law pc = .ok (.aload_n 0, 1)) (d1 : decode cL_law (pc + 1) = .ok (.iload 4, 2)) (d3 : decode cL_law (pc + 3) = .ok (.iconst n, 1)) (d4 : decode cL_law (pc + 4) = .ok (.iadd, 1)) (d5 : decode cL_law (pc + 5) = .ok (.iaload, 1))
    (kk : W p l e R s m args below meth c H locs cells slots Q (F0 m (pc + 6) ls (.int (xs (6 * k + j)) :: rest))) : W p l e R s m args below meth c H locs cells slots Q (F0 m pc ls rest) := by
  obtain ⟨cx, hK, hX, hsc, hL, hk⟩ := C
  obtain ⟨hx, hb, -⟩ := id cx
  refine lv_aload_n hx hb d0 rfl h0 ?_
  refine lv_iload hx hb d1 h4 ?_
  refine lv_iconst (v := v) hx hb d3 hv ?_
  refine lv_iadd hx hb d4 ?_
  have e1 : nI (6 * k) + v = nI (6 * k + j) := by rw [hvj, nI_add]
  rw [e1]
  refine va_sld hx hb hX hsc (fl_noA hsc) hH.2.2 (vp_in_nI (show 6 * k + j < L by omega) (by omega)) d5 ?_
  rw [q_cl (show 6 * k + j < 2 ^ 31 by omega)]
  exact kk
end LAWK
theorem fl_D {s : State} {args : Array Value} (hts : ∀ w ∈ TW, w.before args s = true) : ∃ (D : va_G) (cI cZ cJ : ClassId), va_K D vwCl (tyj cI cZ cJ) s := by
  obtain ⟨c0, i0, h0⟩ := u_known (C := RX0) (T := TX0) (N := 6) (n := 6) hts i_X0 (hts _ insX0)
  obtain ⟨c1, i1, h1⟩ := u_known (C := RX1) (T := TX1) (N := 5) (n := 5) hts i_X1 (hts _ insX1)
  obtain ⟨c2, i2, h2⟩ := u_known (C := RX2) (T := TX2) (N := 4) (n := 4) hts i_X2 (hts _ insX2)
  obtain ⟨c3, i3, h3⟩ := u_known (C := RX3) (T := TX3) (N := 4) (n := 4) hts i_X3 (hts _ insX3)
  obtain ⟨c4, i4, h4⟩ := u_known (C := RX4) (T := TX4) (N := 3) (n := 3) hts i_X4 (hts _ insX4)
  obtain ⟨c5, i5, h5⟩ := u_known (C := RX5) (T := TX5) (N := 11) (n := 11) hts i_X5 (hts _ insX5)
  obtain ⟨c6, i6, h6⟩ := u_known (C := RX6) (T := TX6) (N := 12) (n := 12) hts i_X6 (hts _ insX6)
  obtain ⟨c7, i7, h7⟩ := u_known (C := RX7) (T := TX7) (N := 9) (n := 9) hts i_X7 (hts _ (List.mem_of_getElem? (i := 1) (by decide +kernel)))
  obtain ⟨c8, i8, h8⟩ := u_known (C := RX8) (T := TX8) (N := 40) (n := 40) hts i_X8 (hts _ (List.mem_of_getElem? (i := 4) (by decide +kernel)))
  obtain ⟨cI, kI, pI, a1, a2, a3⟩ := Cond.arrayClass_spec (hts _ tw_aI)
  obtain ⟨cZ, kZ, pZ, b1, b2, b3⟩ := Cond.arrayClass_spec (hts _ tw_aZ)
  obtain ⟨cJ, kJ, pJ, j1, j2, j3⟩ := Cond.arrayClass_spec (type := .long) (hts _ (List.mem_of_getElem? (i := 6) (by decide +kernel)))
  refine ⟨(fun k => [c0, c1, c2, c3, c4, c5, c6, c7, c8].getD k 0, fun k => [i0, i1, i2, i3, i4, i5, i6, i7, i8].getD k (fun _ => 0)), cI, cZ, cJ, fun k q hq => ?_, fun k q hq => ?_⟩
  · have hk : k < 9 := (List.getElem?_eq_some_iff.mp hq).1
    rcases (show k = 0 ∨ k = 1 ∨ k = 2 ∨ k = 3 ∨ k = 4 ∨ k = 5 ∨ k = 6 ∨ k = 7 ∨ k = 8 by omega) with rfl | rfl | rfl | rfl | rfl | rfl | rfl | rfl | rfl <;> obtain rfl := Option.some.inj hq
    · exact h0
    · exact h1
    · exact h2
    · exact h3
    · exact h4
    · exact h5
    · exact h6
    · exact h7
    · exact h8
  · have hk : k < 3 := (List.getElem?_eq_some_iff.mp hq).1
    rcases (show k = 0 ∨ k = 1 ∨ k = 2 by omega) with rfl | rfl | rfl <;> obtain rfl := Option.some.inj hq
    · exact ⟨fun n z => ⟨fun k h => (by cases h), kI, a2, pI, a3⟩, a1⟩
    · exact ⟨fun n z => ⟨fun k h => (by cases h), kZ, b2, pZ, b3⟩, b1⟩
    · exact ⟨fun n z => ⟨fun k h => (by cases h), kJ, j2, pJ, j3⟩, j1⟩
