/-! constructors -/
theorem tw_aI : Cond.arrayClass (newarray.typeOf .int) ∈ TW := by decide +kernel
theorem tw_aZ : Cond.arrayClass (newarray.typeOf .boolean) ∈ TW := by decide +kernel
theorem tw_oi : Cond.instanceMethod objectInit ∈ TW := by decide +kernel
theorem tw_oc : Cond.code objectInit ⟨#[0xb1]⟩ 1 none ∈ TW := by decide +kernel
def NWs (U : State) : Prop := va_Nw (.methodLinkNest RX7 18 yX1_init "FoamBlocks") U ∧ va_Nw (.methodLinkNest RX1 11 yX4_init "FoamBlocks") U ∧ va_Nw (.methodLinkNest RX7 30 yX0_init "FoamBlocks") U ∧ va_Nw (.methodLinkNest RX7 44 yX2_init "FoamBlocks") U ∧ va_Nw (.methodLinkNest RX7 51 yX5_init "FoamBlocks") U
theorem NWs.warm {s U : State} (hW : s.WarmedH U.vm) (h : NWs s) : NWs U := ⟨h.1.warmM hW, h.2.1.warmM hW, h.2.2.1.warmM hW, h.2.2.2.1.warmM hW, h.2.2.2.2.warmM hW⟩
theorem NWs.calling {U : State} {g : JFrame} {mk : MethodId} {a : Array Value} (h : NWs U) : NWs (U.calling g mk a) := ⟨h.1.same rfl rfl, h.2.1.same rfl rfl, h.2.2.1.same rfl rfl, h.2.2.2.1.same rfl rfl, h.2.2.2.2.same rfl rfl⟩
abbrev rmi (k mc ms : Nat) : Room := { frames := k, cells := mc, slots := ms, locals := 30 * k }
def CI (l : Launch) (D : va_G) (cI cZ : ClassId) (y : MethodName) (cc : ByteArray) (n k mc ms h0 : Nat) (e0 : va_E) (w1 : (Nat → Nat) → va_W) : Prop :=
  ∀ sz : Nat, Met l y (.code y cc n none :: TW) (rmi k mc ms) (va_Pc [.ref h0] (fun U => U.heap.size = sz ∧ va_P D vwCl [(h0, e0)] U.heap ∧ va_K D vwCl (tyz cI cZ) U ∧ va_D (fun _ => True) [(h0, e0)] ∧ NWs U)) (va_Qv (fun _ : Nat → Nat => True) (fun u t => va_P D vwCl (w1 u) t.heap ∧ va_K D vwCl (tyz cI cZ) t ∧ va_D (va_A [(h0, e0)] sz) (w1 u)) (va_A [(h0, e0)] sz)) mc ms (va_A [(h0, e0)] sz)
abbrev EI (D : va_G) (cI cZ : ClassId) (mc ms h0 : Nat) (e0 : va_E) (w1 : (Nat → Nat) → va_W) (below : List Frame) (args : Array Value) (s : State) : State → Prop := MQ below (va_Qv (fun _ : Nat → Nat => True) (fun u t => va_P D vwCl (w1 u) t.heap ∧ va_K D vwCl (tyz cI cZ) t ∧ va_D (va_A [(h0, e0)] s.heap.size) (w1 u)) (va_A [(h0, e0)] s.heap.size)) args s mc ms (va_A [(h0, e0)] s.heap.size)
theorem fb_startI {l : Launch} {D : va_G} {cI cZ : ClassId} {y : MethodName} {cc : ByteArray} {n k mc ms h0 : Nat} {e0 : va_E} {w1 : (Nat → Nat) → va_W} (hy : plainName y.cls = true) (hy2 : y.name = "<init>") (hlen : (lg_sl [.ref h0]).length ≤ n)
    (body : ∀ (p : Program) (e : Env) (s : State) (m : MethodId) (args : Array Value) (below : List Frame) (meth : Method) (c : Code) (ls : Array Slot), Cx p s m args meth c cc n y.cls none D cI cZ → meth.name = "<init>" → NWs s → HB D [(h0, e0)] [(h0, e0)] s s.heap [] → lv_has ls n (lv_args 0 [.ref h0]) → W p l e (rmi k mc ms) s m args below meth c s.heap [] 0 0 (EI D cI cZ mc ms h0 e0 w1 below args s) (F0 m 0 ls [])) : CI l D cI cZ y cc n k mc ms h0 e0 w1 := by
  intro sz
  refine Met.ofW (cc := cc) (maxL := n) (ret := none) hy rfl ?_
  intro p e s m args below meth c s₁ B hml hv
  obtain ⟨rfl, hsz, hP, hK, hD0, hN⟩ := hv
  subst hsz
  have hl := lv_entry [.ref h0] (n := n) hlen
  rw [lg_entry_eq]
  exact body p e s m _ below meth c _ ⟨B.exec, B.bytes, hml, findClass_of_methodNamed B.named, fun w hw => atoms_spec (ws := .code y cc n none :: TW) B.pre w (List.mem_cons_of_mem _ hw), hK, B.returns, B.notSynchronized⟩ ((name_of_methodNamed B.named B.method).1.trans hy2) hN ⟨hP, hD0.self, va_S.rf⟩ hl
section INI
variable {p : Program} {l : Launch} {e : Env} {R : Room} {s : State} {m : MethodId} {args : Array Value} {below : List Frame} {meth : Method} {c : Code} {H : Heap} {locs : List Loc} {Q : State → Prop} {cells slots : Nat}
variable {cc : ByteArray} {nL index : Nat} {own : String} {ret : Option FieldType} {D : va_G} {cI cZ : ClassId} {w0 ws : va_W} {pc : Nat} {ls : Array Slot} {rest : List Value}
theorem fb_iniret {h0 : Nat} {e0 : va_E} {w1 : (Nat → Nat) → va_W} (u : Nat → Nat) (cx : Cx p s m args meth c cc nL own none D cI cZ) (hH : HB D [(h0, e0)] (w1 u) s H locs) (hdg : decode cc pc = .ok (.return_, 1)) : W p l e R s m args below meth c H locs cells slots (EI D cI cZ cells slots h0 e0 w1 below args s) (F0 m pc ls []) := by
  obtain ⟨hx, hb, hml, hown, hts, hK, hrt, hlocks⟩ := cx
  exact W.vret hx hb hrt (fun t ht hW => ⟨⟨u, rfl, trivial, by rw [ht]; exact hH.1, va_K.moved hW.alike hK, hH.2.1⟩, hH.2.2.F ht⟩) hH.2.2.2.2 hdg hlocks
theorem fb_obj {a : Nat} (cx : Cx p s m args meth c cc nL own ret D cI cZ) (hl : Cond.methodLink own index objectInit ∈ TW) (hls : ls.size = nL) (hdg : decode cc pc = .ok (.invokespecial index, 3)) (hR : 1 ≤ R.frames ∧ 20 ≤ R.locals)
    (kk : W p l e R s m args below meth c H locs cells slots Q (F0 m (pc + 3) ls [])) : W p l e R s m args below meth c H locs cells slots Q (F0 m pc ls [.ref a]) := by
  obtain ⟨hx, hb, hml, hown, hts, hK, hrt, hlocks⟩ := cx
  refine W.objInit hx hb hown (hts _ hl) (hts _ tw_oi) (hts _ tw_oc) rfl (by rw [hml]; exact hls) rfl hdg hR.1 ?_ ?_
  · exact Nat.le_trans (Nat.le_of_ble_eq_true rfl) hR.2
  · exact W.eq (g2 := F0 m (pc + 3) ls []) rfl kk
theorem fb_cls (hK : va_K D vwCl (tyz cI cZ) s) {cA : ClassId} (hK2 : va_K D vwCl (tyz cI cZ ++ [(cA, .int)]) s) : cA = cI := by
  have h1 := (hK.2 0 _ rfl).2
  have h2 := (hK2.2 2 _ rfl).2
  exact Option.some.inj (h2.symm.trans h1)
theorem fb_clsZ (hK : va_K D vwCl (tyz cI cZ) s) {cA : ClassId} (hK2 : va_K D vwCl (tyz cI cZ ++ [(cA, .boolean)]) s) : cA = cZ := by
  have h1 := (hK.2 1 _ rfl).2
  have h2 := (hK2.2 2 _ rfl).2
  exact Option.some.inj (h2.symm.trans h1)
theorem fb_newI {n : Int32} {N : Nat} (cx : Cx p s m args meth c cc nL own ret D cI cZ) (hH : HB D w0 ws s H locs) (hn : ¬ n < 0) (hN : n.toNatClampNeg = N) (hby : N * componentBytes .int ≤ 536870912) (hc : cells + 1 ≤ R.cells) (hs : slots + N ≤ R.slots) (hdg : decode cc pc = .ok (.newarray .int, 2))
    (kk : ∀ (q : Nat) (H : Heap), HB D w0 (ws ++ [(q, .inl (cI, N, .inl (fun _ => 0)))]) s H locs → W p l e R s m args below meth c H locs (cells + 1) (slots + N) Q (F0 m (pc + 2) ls (.ref q :: rest))) : W p l e R s m args below meth c H locs cells slots Q (F0 m pc ls (.int n :: rest)) := by
  refine va_newa (a0 := (N, .inl (fun _ => 0))) (atype := .int) (ty := .int) cx.1 cx.2.1 (cx.2.2.2.2.1 _ tw_aI) rfl cx.2.2.2.2.2.1 hH.1 hH.2.1 hH.2.2 (fun _ h => Or.inr h) (fun _ => rfl) hn hN hby hc hs hdg (fun q cA H1 hK hP hD hS => ?_)
  obtain rfl := fb_cls cx.2.2.2.2.2.1 hK
  exact kk q H1 ⟨hP, hD, hS⟩
theorem fb_newZ {n : Int32} {N : Nat} (cx : Cx p s m args meth c cc nL own ret D cI cZ) (hH : HB D w0 ws s H locs) (hn : ¬ n < 0) (hN : n.toNatClampNeg = N) (hby : N * componentBytes .boolean ≤ 536870912) (hc : cells + 1 ≤ R.cells) (hs : slots + N ≤ R.slots) (hdg : decode cc pc = .ok (.newarray .boolean, 2))
    (kk : ∀ (q : Nat) (H : Heap), HB D w0 (ws ++ [(q, .inl (cZ, N, .inl (fun _ => 0)))]) s H locs → W p l e R s m args below meth c H locs (cells + 1) (slots + N) Q (F0 m (pc + 2) ls (.ref q :: rest))) : W p l e R s m args below meth c H locs cells slots Q (F0 m pc ls (.int n :: rest)) := by
  refine va_newa (a0 := (N, .inl (fun _ => 0))) (atype := .boolean) (ty := .boolean) cx.1 cx.2.1 (cx.2.2.2.2.1 _ tw_aZ) rfl cx.2.2.2.2.2.1 hH.1 hH.2.1 hH.2.2 (fun _ h => Or.inr h) (fun _ => rfl) hn hN hby hc hs hdg (fun q cA H1 hK hP hD hS => ?_)
  obtain rfl := fb_clsZ cx.2.2.2.2.2.1 hK
  exact kk q H1 ⟨hP, hD, hS⟩
theorem fb_pF {C : String} {T : u_T} {N ci a : Nat} {fs : List Value} (ty0 : Nat → FieldType) (hty : ∀ k, k < N → parseFieldDescriptor (T k).2.2.1 = some (ty0 k)) (hnm : ∀ a, a < N → ∀ b, b < N → a ≠ b → (T a).2.1 ≠ (T b).2.1) (hinT : ∀ w ∈ u_ws C T N, w ∈ TW) (cx : Cx p s m args meth c cc nL own ret D cI cZ) (hin : meth.name = "<init>") (hH : HB D w0 ws s H locs) (q0 : Nat) (he : ws[q0]? = some (a, .inr (ci, fs))) (hc : vwCl[ci]? = some (C, T, N)) (k : Nat) (hk : k < N) (hl : Cond.fieldLink own index (T k).1 (T k).2.1 (T k).2.2.1 ∈ TW) (hfin : (T k).2.2.2 = true) (hdecl : (T k).1 = own) {ty : FieldType} {v : Value} (hd : parseFieldDescriptor (T k).2.2.1 = some ty) (hn : narrow ty v = v) (hfit : fits ty v = true) (hlen : k < fs.length) (hdg : decode cc pc = .ok (.putfield index, 3))
    (kk : ∀ (H : Heap) (locs : List Loc), HB D w0 (ws.set q0 (a, .inr (ci, fs.set k v))) s H locs → W p l e R s m args below meth c H locs cells slots Q (F0 m (pc + 3) ls rest)) : W p l e R s m args below meth c H locs cells slots Q (F0 m pc ls (v :: .ref a :: rest)) :=
  va_putF (D := D) cx.1 cx.2.1 cx.2.2.2.2.1 hinT ty0 hty hnm cx.2.2.2.1 cx.2.2.2.2.2.1 hH.1 hH.2.1 hH.2.2 q0 he hc k hk (cx.2.2.2.2.1 _ hl) (fun _ h9 => h9) hfin hin hdecl hd hn hfit hlen hdg (fun H1 locs1 hP hD hS => kk H1 locs1 ⟨hP, hD, hS⟩)
theorem fb_pN {C : String} {T : u_T} {N ci a : Nat} {fs : List Value} (ty0 : Nat → FieldType) (hty : ∀ k, k < N → parseFieldDescriptor (T k).2.2.1 = some (ty0 k)) (hnm : ∀ a, a < N → ∀ b, b < N → a ≠ b → (T a).2.1 ≠ (T b).2.1) (hinT : ∀ w ∈ u_ws C T N, w ∈ TW) (cx : Cx p s m args meth c cc nL own ret D cI cZ) (hH : HB D w0 ws s H locs) (q0 : Nat) (he : ws[q0]? = some (a, .inr (ci, fs))) (hc : vwCl[ci]? = some (C, T, N)) (k : Nat) (hk : k < N) (hl : Cond.fieldLink own index (T k).1 (T k).2.1 (T k).2.2.1 ∈ TW) (hfin : (T k).2.2.2 = false) {ty : FieldType} {v : Value} (hd : parseFieldDescriptor (T k).2.2.1 = some ty) (hn : narrow ty v = v) (hfit : fits ty v = true) (hlen : k < fs.length) (hdg : decode cc pc = .ok (.putfield index, 3))
    (kk : ∀ (H : Heap) (locs : List Loc), HB D w0 (ws.set q0 (a, .inr (ci, fs.set k v))) s H locs → W p l e R s m args below meth c H locs cells slots Q (F0 m (pc + 3) ls rest)) : W p l e R s m args below meth c H locs cells slots Q (F0 m pc ls (v :: .ref a :: rest)) :=
  va_put (D := D) cx.1 cx.2.1 cx.2.2.2.2.1 hinT ty0 hty hnm cx.2.2.2.1 cx.2.2.2.2.2.1 hH.1 hH.2.1 hH.2.2 q0 he hc k hk (cx.2.2.2.2.1 _ hl) (fun _ h9 => h9) hfin hd hn hfit hlen hdg (fun H1 locs1 hP hD hS => kk H1 locs1 ⟨hP, hD, hS⟩)
theorem fb_gt {C : String} {T : u_T} {N ci a : Nat} {fs : List Value} (hinT : ∀ w ∈ u_ws C T N, w ∈ TW) (cx : Cx p s m args meth c cc nL own ret D cI cZ) (hH : HB D w0 ws s H locs) (q0 : Nat) (he : ws[q0]? = some (a, .inr (ci, fs))) (hc : vwCl[ci]? = some (C, T, N)) (k : Nat) (hk : k < N) (hl : Cond.fieldLink own index (T k).1 (T k).2.1 (T k).2.2.1 ∈ TW) {v : Value} (hv : fs[k]? = some v) (hdg : decode cc pc = .ok (.getfield index, 3))
    (kk : W p l e R s m args below meth c H locs cells slots Q (F0 m (pc + 3) ls (v :: rest))) : W p l e R s m args below meth c H locs cells slots Q (F0 m pc ls (.ref a :: rest)) :=
  va_get (D := D) cx.1 cx.2.1 cx.2.2.2.2.1 hinT cx.2.2.2.1 cx.2.2.2.2.2.1 hH.1 q0 he hc k hk (cx.2.2.2.2.1 _ hl) (fun _ h9 => h9) hv hdg kk
theorem fb_nw {C : String} {T : u_T} {N ci : Nat} {fs : List Value} (ty0 : Nat → FieldType) (hty : ∀ k, k < N → parseFieldDescriptor (T k).2.2.1 = some (ty0 k)) (hinT : ∀ w ∈ u_ws C T N, w ∈ TW) (cx : Cx p s m args meth c cc nL own ret D cI cZ) (hH : HB D w0 ws s H locs) (hcl : Cond.classLink own index C ∈ TW) (hin : Cond.instantiable C N ∈ TW) (hini : Cond.initialized C ∈ TW) (hc : vwCl[ci]? = some (C, T, N)) (hfs : ∀ j, j < N → defaultValue (ty0 j) = vp_V fs j) (hcells : cells + 1 ≤ R.cells) (hslots : slots + N ≤ R.slots) (hdg : decode cc pc = .ok (.new index, 3))
    (kk : ∀ (q : Nat) (H : Heap), HB D w0 (ws ++ [(q, .inr (ci, fs))]) s H locs → W p l e R s m args below meth c H locs (cells + 1) (slots + N) Q (F0 m (pc + 3) ls (.ref q :: rest))) : W p l e R s m args below meth c H locs cells slots Q (F0 m pc ls rest) :=
  va_new cx.1 cx.2.1 cx.2.2.2.2.1 hinT ty0 hty cx.2.2.2.1 (cx.2.2.2.2.1 _ hcl) (cx.2.2.2.2.1 _ hin) (cx.2.2.2.2.1 _ hini) cx.2.2.2.2.2.1 hH.1 hH.2.1 hH.2.2 (fun _ h => Or.inr h) hc hfs hcells hslots hdg (fun q H1 hP hD hS => kk q H1 ⟨hP, hD, hS⟩)
/-- cells that a callee can't reach stay as they were -/
theorem fb_split {A0 : Nat → Prop} {w1 w2 : va_W} {H1 : Heap} (hP : va_P D vwCl (ws ++ w1) H) (hD : va_D A0 (ws ++ w1)) (hk : ∀ q : Nat, q < H.size → ¬ va_A w1 H.size q → H1[q]? = H[q]?) (hF : ∀ q, va_A w1 H.size q → A0 q) (hP1 : va_P D vwCl w2 H1) (hD1 : va_D (va_A w1 H.size) w2) : va_P D vwCl (ws ++ w2) H1 ∧ va_D A0 (ws ++ w2) := by
  have hat : ∀ (k : Nat) (q : Nat × va_E), ws[k]? = some q → (ws ++ w1)[k]? = some q := fun k q hq => by
    rw [List.getElem?_append_left (List.getElem?_eq_some_iff.mp hq).1]; exact hq
  have hap : ∀ (k : Nat) (q : Nat × va_E), ws[k]? = some q → q.1 < H.size ∧ ¬ va_A w1 H.size q.1 := by
    intro k q hq
    have hl := (hP k q (hat k q hq)).lt
    refine ⟨hl, fun h => ?_⟩
    rcases h with ⟨j, e2, h⟩ | h
    · have h4 : (ws ++ w1)[ws.length + j]? = some (q.1, e2) := by
        rw [List.getElem?_append_right (by omega), Nat.add_sub_cancel_left]; exact h
      have := hD.1 k (ws.length + j) q (q.1, e2) (hat k q hq) h4 rfl
      have := (List.getElem?_eq_some_iff.mp hq).1
      omega
    · omega
  refine ⟨va_P.app (fun k q hq => ?_) hP1, va_D.app ⟨fun i j x y hx hy => hD.1 i j x y (hat i x hx) (hat j y hy), fun k q hq => hD.2 k q (hat k q hq)⟩ (hD1.weaken (fun k q _ h => hF q.1 h)) (fun i j x y hx hy hxy => ?_)⟩
  · obtain ⟨g1, g2⟩ := hap k q hq
    exact (hP k q (hat k q hq)).kept (hk q.1 g1 g2)
  · exact (hap i x hx).2 (by rw [hxy]; exact hD1.2 j y hy)
theorem fb_freeR {w1 : va_W} (hH : HB D w0 (ws ++ w1) s H locs) : ∀ q, va_A w1 H.size q → va_A w0 s.heap.size q := by
  intro q h
  rcases h with ⟨j, e2, h⟩ | h
  · exact hH.2.1.2 (ws.length + j) (q, e2) (by rw [List.getElem?_append_right (by omega), Nat.add_sub_cancel_left]; exact h)
  · exact Or.inr (Nat.le_trans hH.2.2.1 h)
theorem fb_blindI {av : List Value} {sz : Nat} : FrameBlind (va_Pc av (fun U => U.heap.size = sz ∧ va_P D vwCl ws U.heap ∧ va_K D vwCl (tyz cI cZ) U ∧ va_D (fun _ => True) ws ∧ NWs U)) := fun a U g mk q => by
  obtain ⟨q0, q1, qP, qK, qD, qN⟩ := q
  exact ⟨q0, q1, qP, va_K.moved (u := U) (U := U.calling g mk a) (Vm.Alike.refl U.vm) qK, qD, qN.calling⟩
theorem fb_callBI {y : MethodName} {cy : ByteArray} {n k mc ms : Nat} {rt : Option FieldType} (cx : Cx p s m args meth c cc nL own ret D cI cZ) (hcd : Cond.code y cy n rt ∈ TW) (hini : Cond.initialized y.cls ∈ TW) (hd : y.cls ≠ "java/lang/invoke/MethodHandle" ∧ y.cls ≠ "java/lang/invoke/VarHandle") {np : Nat} (hnp : (parseMethodDescriptor y.desc).map (fun d => d.parameters.length) = some np) (hlk : Cond.methodLink own index y ∈ TW) (hR : k + 1 ≤ R.frames ∧ 8 + (n + 11) + 30 * k ≤ R.locals) :
    CallB R s args own index y cy n rt (Cond.code y cy n rt :: TW) (rmi k mc ms) mc ms np :=
  callB_of np cx.2.2.2.2.1 (fb_good hcd) rfl rfl rfl (cx.2.2.2.2.1 _ hini) (cx.2.2.2.2.1 _ hlk) ⟨hd.1, hd.2, hnp⟩ hR
/-- a constructor of an object that is new: the last cell -/
theorem fb_ini {y : MethodName} {cy : ByteArray} {n k mc ms q : Nat} {e0 : va_E} {w1 : (Nat → Nat) → va_W} (cx : Cx p s m args meth c cc nL own ret D cI cZ) (hN : NWs s) (hH : HB D w0 (ws ++ [(q, e0)]) s H locs) (ct : CI l D cI cZ y cy n k mc ms q e0 w1) (hcd : Cond.code y cy n none ∈ TW) (hini : Cond.initialized y.cls ∈ TW) (him : Cond.instanceMethod y ∈ TW) (hy : y.name = "<init>") (hd : y.cls ≠ "java/lang/invoke/MethodHandle" ∧ y.cls ≠ "java/lang/invoke/VarHandle") (hnp : (parseMethodDescriptor y.desc).map (fun d => d.parameters.length) = some 0) (hlk : Cond.methodLink own index y ∈ TW) (hR : k + 1 ≤ R.frames ∧ 8 + (n + 11) + 30 * k ≤ R.locals) (hls : ls.size = nL) (hrm : (rest.map fun v => v.category).sum ≤ 8) (hdg : decode cc pc = .ok (.invokespecial index, 3)) (hf : cells + mc ≤ R.cells ∧ slots + ms ≤ R.slots)
    (kk : ∀ (u : Nat → Nat) (H : Heap) (locs : List Loc), HB D w0 (ws ++ w1 u) s H locs → W p l e R s m args below meth c H locs (cells + mc) (slots + ms) Q (F0 m (pc + 3) ls rest)) : W p l e R s m args below meth c H locs cells slots Q (F0 m pc ls (.ref q :: rest)) := by
  have hF := fb_freeR hH
  have hPc : va_P D vwCl [(q, e0)] H := fun k x hx => hH.1 (ws.length + k) x (by rw [List.getElem?_append_right (by omega), Nat.add_sub_cancel_left]; exact hx)
  have hDc : va_D (fun _ => True) [(q, e0)] := ⟨fun i j x y hx hy _ => by
    have h1 := (List.getElem?_eq_some_iff.mp hx).1
    have h2 := (List.getElem?_eq_some_iff.mp hy).1
    simp at h1 h2
    omega, fun _ _ _ => trivial⟩
  refine va_callv (va_runI (As := []) (rest := rest) (Ts := TW) ⟨cx.1, cx.2.1, cx.2.2.1, cx.2.2.2.1, cx.2.2.2.2.1⟩ (ct H.size) ⟨fb_callBI cx hcd hini hd hnp hlk hR, hy, cx.2.2.2.2.1 _ him⟩ ⟨fb_blindI, fun U hU hW => ⟨rfl, by rw [hU], by rw [hU]; exact hPc, va_K.moved hW.alike cx.2.2.2.2.2.1, hDc, hN.warm hW⟩⟩ rfl rfl hls rfl (lv_room hrm) hdg hf) hH.2.2 (fun q _ h => hF q h) hF (fun u t H1 locs1 ht hvm hw hB hz1 hk1 hS => ?_)
  rw [ht] at hB
  obtain ⟨hP, hD⟩ := fb_split hH.1 hH.2.1 hk1 hF hB.1 hB.2.2
  exact kk u H1 locs1 ⟨hP, hD, hS⟩
/-- the same of a private constructor -/
theorem fb_iniN {y : MethodName} {cy : ByteArray} {n k mc ms q : Nat} {host : String} {e0 : va_E} {w1 : (Nat → Nat) → va_W} (cx : Cx p s m args meth c cc nL own ret D cI cZ) (hN : NWs s) (hH : HB D w0 (ws ++ [(q, e0)]) s H locs) (ct : CI l D cI cZ y cy n k mc ms q e0 w1) (hcd : Cond.code y cy n none ∈ TW) (hini : Cond.initialized y.cls ∈ TW) (him : Cond.instanceMethod y ∈ TW) (hy : y.name = "<init>") (hd : y.cls ≠ "java/lang/invoke/MethodHandle" ∧ y.cls ≠ "java/lang/invoke/VarHandle") (hnp : (parseMethodDescriptor y.desc).map (fun d => d.parameters.length) = some 0) (hlk : va_Nw (.methodLinkNest own index y host) s) (hR : k + 1 ≤ R.frames ∧ 8 + (n + 11) + 30 * k ≤ R.locals) (hls : ls.size = nL) (hrm : (rest.map fun v => v.category).sum ≤ 8) (hdg : decode cc pc = .ok (.invokespecial index, 3)) (hf : cells + mc ≤ R.cells ∧ slots + ms ≤ R.slots)
    (kk : ∀ (u : Nat → Nat) (H : Heap) (locs : List Loc), HB D w0 (ws ++ w1 u) s H locs → W p l e R s m args below meth c H locs (cells + mc) (slots + ms) Q (F0 m (pc + 3) ls rest)) : W p l e R s m args below meth c H locs cells slots Q (F0 m pc ls (.ref q :: rest)) := by
  have hF := fb_freeR hH
  have hPc : va_P D vwCl [(q, e0)] H := fun k x hx => hH.1 (ws.length + k) x (by rw [List.getElem?_append_right (by omega), Nat.add_sub_cancel_left]; exact hx)
  have hDc : va_D (fun _ => True) [(q, e0)] := ⟨fun i j x y hx hy _ => by
    have h1 := (List.getElem?_eq_some_iff.mp hx).1
    have h2 := (List.getElem?_eq_some_iff.mp hy).1
    simp at h1 h2
    omega, fun _ _ _ => trivial⟩
  refine va_callv (va_runIN (As := []) (rest := rest) (Ts := TW) (host := host) ⟨cx.1, cx.2.1, cx.2.2.1, cx.2.2.2.1, cx.2.2.2.2.1⟩ (ct H.size) ⟨va_cnB 0 cx.2.2.2.2.1 (fb_good hcd) rfl rfl rfl hlk (cx.2.2.2.2.1 _ hini) ⟨hd.1, hd.2, hnp⟩ hR, hy, cx.2.2.2.2.1 _ him⟩ ⟨fb_blindI, fun U hU hW => ⟨rfl, by rw [hU], by rw [hU]; exact hPc, va_K.moved hW.alike cx.2.2.2.2.2.1, hDc, hN.warm hW⟩⟩ rfl rfl hls rfl (lv_room hrm) hdg hf) hH.2.2 (fun q _ h => hF q h) hF (fun u t H1 locs1 ht hvm hw hB hz1 hk1 hS => ?_)
  rw [ht] at hB
  obtain ⟨hP, hD⟩ := fb_split hH.1 hH.2.1 hk1 hF hB.1 hB.2.2
  exact kk u H1 locs1 ⟨hP, hD, hS⟩
end INI
