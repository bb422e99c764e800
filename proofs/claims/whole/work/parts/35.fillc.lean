theorem set_same {α : Type} : ∀ {l : List α} {k : Nat} {x : α}, l[k]? = some x → l.set k x = l
  | [], _, _, h => by simp at h
  | y :: l, 0, x, h => by simp at h; rw [h]; rfl
  | y :: l, k + 1, x, h => by
    simp at h
    rw [List.set_cons_succ, set_same (by simpa using h)]
def flf (i : Nat) (v : Int32) (f : Nat → Int32) : Nat → Int32 := fun j => if j < i then v else f j
theorem flf_step (i : Nat) (v : Int32) (f : Nat → Int32) : upd (flf i v f) i v = flf (i + 1) v f := by
  funext j
  unfold flf
  by_cases c : j = i
  · rw [c, pk_us, if_pos (by omega)]
  · rw [pk_un c]
    by_cases d : j < i
    · rw [if_pos d, if_pos (by omega)]
    · rw [if_neg d, if_neg (by omega)]
theorem flf_0 (v : Int32) (f : Nat → Int32) : flf 0 v f = f := by
  funext j
  unfold flf
  rw [if_neg (by omega)]
abbrev QF (D : va_G) (cI cZ : ClassId) (ws : va_W) (k a N : Nat) (v : Int32) (f : Nat → Int32) (sz : Nat) : Array Value → State → Outcome → State → Prop := va_Qv (fun _ : Nat → Nat => True) (fun _ t => va_P D vwCl (ws.set k (a, .inl (cI, N, .inl (flf N v f)))) t.heap ∧ va_K D vwCl (tyz cI cZ) t ∧ va_D (va_A ws sz) (ws.set k (a, .inl (cI, N, .inl (flf N v f))))) (va_A ws sz)
set_option maxHeartbeats 4000000 in
set_option maxRecDepth 100000 in
theorem ct_fill (l : Launch) (D : va_G) (cI cZ : ClassId) {ws : va_W} {k a N : Nat} {f : Nat → Int32} {v : Int32} (hk : ws[k]? = some (a, .inl (cI, N, .inl f))) (hN : N < 2 ^ 31) (sz : Nat) : Met l yJ7_fill_53178 (.code yJ7_fill_53178 cJ7_fill_53178 4 none :: TW) (rmk 0) (va_Pc [.ref a, .int v] (fun U => U.heap.size = sz ∧ va_P D vwCl ws U.heap ∧ va_K D vwCl (tyz cI cZ) U ∧ va_D (fun _ => True) ws)) (QF D cI cZ ws k a N v f sz) 0 0 (va_A ws sz) := by
  refine Met.ofW (cc := cJ7_fill_53178) (maxL := 4) (ret := none) (by decide) rfl ?_
  intro p e s m args below meth c s₁ B hml hv
  obtain ⟨rfl, hsz, hP, hK, hD0⟩ := hv
  subst hsz
  have hlocks := B.notSynchronized
  have hx := B.exec
  have hb := B.bytes
  have hr := B.returns
  have hl := lv_entry [.ref a, .int v] (n := 4) (Nat.le_of_ble_eq_true rfl)
  rw [lg_entry_eq]
  generalize (lg_sl [.ref a, .int v] ++ List.replicate (4 - (lg_sl [.ref a, .int v]).length) Slot.unset).toArray = ls at hl ⊢
  have hl : lv_has ls 4 [(0, .ref a), (1, .int v)] := hl
  have hH : HB D ws ws s s.heap [] := ⟨hP, hD0.self, va_S.rf⟩
  have hkl : k < ws.length := (List.getElem?_eq_some_iff.mp hk).1
  have L : ∀ (d i : Nat) (H : Heap) (locs : List Loc) (ls : Array Slot), i + d = N → HB D ws (ws.set k (a, .inl (cI, N, .inl (flf i v f)))) s H locs → lv_has ls 4 [(0, .ref a), (1, .int v), (2, .int (nI i)), (3, .int (nI N))] → W p l e (rmk 0) s m [Value.ref a, Value.int v].toArray below meth c H locs 0 0 (MQ below (QF D cI cZ ws k a N v f s.heap.size) [Value.ref a, Value.int v].toArray s 0 0 (va_A ws s.heap.size)) (F0 m 5 ls []) := by
    intro d
    induction d with
    | zero =>
      intro i H locs ls hi hH hl
      obtain rfl : i = N := by omega
      refine lv_iload_n hx hb dJ7_fill_53178_5 rfl (lv_at hl 2 rfl) ?_
      refine lv_iload_n hx hb dJ7_fill_53178_6 rfl (lv_at hl 3 rfl) ?_
      refine lv_icmp_ge (tgt := 20) hx hb dJ7_fill_53178_7 (by decide) (fun c_1 => ?_) (fun c_1 => ?_)
      · exact W.vret hx hb hr (fun t ht hW => ⟨⟨fun _ => 0, rfl, trivial, by rw [ht]; exact hH.1, va_K.moved hW.alike hK, hH.2.1⟩, hH.2.2.F ht⟩) hH.2.2.2.2 dJ7_fill_53178_20 hlocks
      · exact absurd (nI_le (Nat.le_refl _) hN) c_1
    | succ d ih =>
      intro i H locs ls hi hH hl
      refine lv_iload_n hx hb dJ7_fill_53178_5 rfl (lv_at hl 2 rfl) ?_
      refine lv_iload_n hx hb dJ7_fill_53178_6 rfl (lv_at hl 3 rfl) ?_
      refine lv_icmp_ge (tgt := 20) hx hb dJ7_fill_53178_7 (by decide) (fun c_1 => ?_) (fun c_1 => ?_)
      · exact absurd c_1 (nI_ge (by omega) hN)
      · refine lv_aload_n hx hb dJ7_fill_53178_10 rfl (lv_at hl 0 rfl) ?_
        refine lv_iload_n hx hb dJ7_fill_53178_11 rfl (lv_at hl 2 rfl) ?_
        refine lv_iload_n hx hb dJ7_fill_53178_12 rfl (lv_at hl 1 rfl) ?_
        refine va_iast hx hb hK hH.1 hH.2.1 hH.2.2 k 0 (List.getElem?_set_self hkl) rfl (vp_in_nI (show i < N by omega) hN) dJ7_fill_53178_13 (fun H1 locs1 hP hD hS => ?_)
        rw [List.set_set, q_cl (by omega), flf_step] at hP hD
        refine lv_iinc (v := nI (i + 1)) (lv' := [(2, .int (nI (i + 1))), (0, .ref a), (1, .int v), (3, .int (nI N))]) hx hb dJ7_fill_53178_14 hl (k := 2) rfl (nI_1 i) (by decide) rfl (fun ls hl => ?_)
        refine lv_goto (tgt := 5) hx hb dJ7_fill_53178_17 (by decide) ?_
        exact ih (i + 1) H1 locs1 ls (by omega) ⟨hP, hD, hS⟩ (lv_sub hl [1, 2, 0, 3] rfl)
  refine lv_iconst (v := 0) hx hb dJ7_fill_53178_0 (by decide) ?_
  refine lv_istore_n (lv' := [(2, .int 0), (0, .ref a), (1, .int v)]) hx hb dJ7_fill_53178_1 rfl hl (by decide) rfl (fun ls hl => ?_)
  refine lv_aload_n hx hb dJ7_fill_53178_2 rfl (lv_at hl 1 rfl) ?_
  refine va_alen (v := nI N) hx hb hK hH.1 k 0 hk (ty := .int) rfl rfl dJ7_fill_53178_3 ?_
  refine lv_istore_n (lv' := [(3, .int (nI N)), (2, .int 0), (0, .ref a), (1, .int v)]) hx hb dJ7_fill_53178_4 rfl hl (by decide) rfl (fun ls hl => ?_)
  refine L N 0 s.heap [] ls (by omega) ?_ (lv_sub hl [2, 3, 1, 0] rfl)
  rw [flf_0, set_same hk]
  exact hH
section FLC
variable {p : Program} {l : Launch} {e : Env} {R : Room} {s : State} {m : MethodId} {args : Array Value} {below : List Frame} {meth : Method} {c : Code} {H : Heap} {locs : List Loc} {Q : State → Prop} {cells slots : Nat}
variable {cc : ByteArray} {nL index : Nat} {own : String} {ret : Option FieldType} {D : va_G} {cI cZ : ClassId} {w0 ws : va_W} {pc : Nat} {ls : Array Slot} {rest : List Value}
theorem tw_fl : Cond.code yJ7_fill_53178 cJ7_fill_53178 4 none ∈ TW ∧ Cond.static yJ7_fill_53178 ∈ TW ∧ Cond.initialized yJ7_fill_53178.cls ∈ TW := ⟨by decide +kernel, by decide +kernel, by decide +kernel⟩
theorem fb_fillc {k a N : Nat} {f : Nat → Int32} {v : Int32} (cx : Cx p s m args meth c cc nL own ret D cI cZ) (hH : HB D w0 ws s H locs) (hk : ws[k]? = some (a, .inl (cI, N, .inl f))) (hN : N < 2 ^ 31) (hlk : Cond.methodLink own index yJ7_fill_53178 ∈ TW) (hR : 0 + 1 ≤ R.frames ∧ 8 + (4 + 11) + 30 * 0 ≤ R.locals) (hf : cells ≤ R.cells ∧ slots ≤ R.slots) (hls : ls.size = nL) (hrm : (rest.map fun v => v.category).sum ≤ 8) (hdg : decode cc pc = .ok (.invokestatic index, 3))
    (kk : ∀ (H : Heap) (locs : List Loc), HB D w0 (ws.set k (a, .inl (cI, N, .inl (flf N v f)))) s H locs → W p l e R s m args below meth c H locs cells slots Q (F0 m (pc + 3) ls rest)) : W p l e R s m args below meth c H locs cells slots Q (F0 m pc ls (.int v :: .ref a :: rest)) := by
  have hF := fb_free hH
  refine va_callv (va_runS (As := [.ref a, .int v]) (rest := rest) (Ts := TW) ⟨cx.1, cx.2.1, cx.2.2.1, cx.2.2.2.1, cx.2.2.2.2.1⟩ (ct_fill l D cI cZ hk hN H.size) ⟨fb_callB cx tw_fl.1 tw_fl.2.2 (by decide) rfl hlk hR, cx.2.2.2.2.1 _ tw_fl.2.1⟩ ⟨fb_blind, fun U hU hW => ⟨rfl, by rw [hU], by rw [hU]; exact hH.1, va_K.moved hW.alike cx.2.2.2.2.2.1, hH.2.1.weaken (fun _ _ _ _ => trivial)⟩⟩ rfl rfl hls rfl (lv_room hrm) hdg hf) hH.2.2 (fun q _ h => hF q h) hF (fun u t H1 locs1 ht hvm hw hB hz1 hk1 hS => ?_)
  rw [ht] at hB
  exact kk H1 locs1 ⟨hB.1, hB.2.2.weaken (fun _ q _ h => hF q.1 h), hS⟩
end FLC
