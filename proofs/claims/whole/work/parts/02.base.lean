/-! a state of one side: its numbers and its rows, by place -/
abbrev Sg : Type := (Nat → Int32) × (Nat → Nat → Int32)
def sS (S : Sg) (k : Nat) (x : Int32) : Sg := (upd S.1 k x, S.2)
def sA (S : Sg) (k : Nat) (i x : Int32) : Sg := (S.1, va_up S.2 k (upd (S.2 k) i.toNatClampNeg x))
def sC (S : Sg) (k : Nat) (sp dp n : Int32) : Sg := (S.1, va_up S.2 k (va_cpy (S.2 k) (S.2 k) sp.toNatClampNeg dp.toNatClampNeg n.toNatClampNeg))
/-! the programs as functions that may fail (a wrong index, no more fuel) -/
def fb_ck {α : Type} (i : Int32) (n : Nat) (x : Option α) : Option α := if i < 0 ∨ n ≤ i.toNatClampNeg then none else x
def fb_c0 {α : Type} (y : Int32) (x : Option α) : Option α := if y = 0 then none else x
def fb_cb {α : Type} (y : Int32) (x : Option α) : Option α := if y = 0 ∨ y = 1 then x else none
def fb_cc {α : Type} (sp dp n : Int32) (k : Nat) (x : Option α) : Option α := if sp < 0 ∨ dp < 0 ∨ n < 0 ∨ k < sp.toNatClampNeg + n.toNatClampNeg ∨ k < dp.toNatClampNeg + n.toNatClampNeg then none else x
def fb_vl {α : Type} (e : Int32) (k : Int32 → Option α) : Option α := k e
def fb_st {α : Type} (S : Sg) (k : Sg → Option α) : Option α := k S
def fb_bd {α β : Type} (o : Option α) (k : α → Option β) : Option β := o.bind k
def fb_b2 {α β γ : Type} (o : Option (α × γ)) (k : α → γ → Option β) : Option β := o.bind (fun q => k q.1 q.2)
theorem fb_ck_s {α : Type} {i : Int32} {n : Nat} {x : Option α} {y : α} (h : fb_ck i n x = some y) : vp_in i n ∧ x = some y := by
  unfold fb_ck at h
  split at h
  · cases h
  · rename_i q; exact ⟨q, h⟩
theorem fb_c0_s {α : Type} {i : Int32} {x : Option α} {y : α} (h : fb_c0 i x = some y) : (¬ i = 0) ∧ x = some y := by
  unfold fb_c0 at h
  split at h
  · cases h
  · rename_i q; exact ⟨q, h⟩
theorem fb_cb_s {α : Type} {i : Int32} {x : Option α} {y : α} (h : fb_cb i x = some y) : (narrow .boolean (.int i) = .int i) ∧ x = some y := by
  unfold fb_cb at h
  split at h
  · rename_i q; exact ⟨by rcases q with rfl | rfl <;> decide, h⟩
  · cases h
theorem fb_cc_s {α : Type} {sp dp n : Int32} {k : Nat} {x : Option α} {y : α} (h : fb_cc sp dp n k x = some y) : ((¬ sp < 0) ∧ (¬ dp < 0) ∧ (¬ n < 0) ∧ sp.toNatClampNeg + n.toNatClampNeg ≤ k ∧ dp.toNatClampNeg + n.toNatClampNeg ≤ k) ∧ x = some y := by
  unfold fb_cc at h
  split at h
  · cases h
  · rename_i q
    refine ⟨⟨fun a => q (Or.inl a), fun a => q (Or.inr (Or.inl a)), fun a => q (Or.inr (Or.inr (Or.inl a))), ?_, ?_⟩, h⟩
    · exact Nat.not_lt.mp fun a => q (Or.inr (Or.inr (Or.inr (Or.inl a))))
    · exact Nat.not_lt.mp fun a => q (Or.inr (Or.inr (Or.inr (Or.inr a))))
theorem fb_vl_s {α : Type} {e : Int32} {k : Int32 → Option α} {y : α} (h : fb_vl e k = some y) : ∃ x, x = e ∧ k x = some y := ⟨e, rfl, h⟩
theorem fb_st_s {α : Type} {S : Sg} {k : Sg → Option α} {y : α} (h : fb_st S k = some y) : ∃ x, x = S ∧ k x = some y := ⟨S, rfl, h⟩
theorem fb_bd_s {α β : Type} {o : Option α} {k : α → Option β} {y : β} (h : fb_bd o k = some y) : ∃ x, o = some x ∧ k x = some y := by
  cases o with
  | none => cases h
  | some x => exact ⟨x, rfl, h⟩
theorem fb_bd2_s {α β γ : Type} {o : Option (α × γ)} {k : α → γ → Option β} {y : β} (h : fb_b2 o k = some y) : ∃ (x : α) (z : γ), o = some (x, z) ∧ k x z = some y := by
  cases o with
  | none => cases h
  | some x => exact ⟨x.1, x.2, rfl, h⟩
theorem fb_ip {α : Type} {c : Prop} [Decidable c] {a b r : α} (hc : c) (h : (if c then a else b) = r) : a = r := by rw [if_pos hc] at h; exact h
theorem fb_in {α : Type} {c : Prop} [Decidable c] {a b r : α} (hc : ¬ c) (h : (if c then a else b) = r) : b = r := by rw [if_neg hc] at h; exact h
theorem fb_nn {α : Type} {c : Prop} [Decidable c] {a b r : α} (hc : c) (h : (if ¬ c then a else b) = r) : b = r := by rw [if_neg (fun q => q hc)] at h; exact h
/-! the words -/
abbrev TW : List Cond := wsL_law0
theorem TW_good : wsL_law0.all goodWord = true := by decide +kernel
theorem TW_gd {w : Cond} (h : w ∈ TW) : (w.onTables && w.keeps) = true ∨ ∃ ty, w = .arrayClass ty := good_of_word (List.all_eq_true.mp TW_good w h)
abbrev tyz (cI cZ : ClassId) : List (ClassId × FieldType) := [(cI, .int), (cZ, .boolean)]
abbrev rmk (k : Nat) : Room := { frames := k, cells := 0, slots := 0, locals := 30 * k }
/-- what a method stands on -/
def Cx (p : Program) (s : State) (m : MethodId) (args : Array Value) (meth : Method) (c : Code) (cc : ByteArray) (nL : Nat) (own : String) (ret : Option FieldType) (D : va_G) (cI cZ : ClassId) : Prop :=
  p.tables.exec = Jvm.exec ∧ c.code = cc ∧ c.maxLocals = nL ∧ s.vm.findClass own = some m.cls ∧ (∀ w ∈ TW, w.before args s = true) ∧ va_K D vwCl (tyz cI cZ) s ∧ meth.sig.returnType = ret ∧ meth.locks = false
/-- the heap of a method that began with the cells w0: it holds ws now -/
def HB (D : va_G) (w0 ws : va_W) (s : State) (H : Heap) (locs : List Loc) : Prop := va_P D vwCl ws H ∧ va_D (va_A w0 s.heap.size) ws ∧ va_S (va_A w0 s.heap.size) s.heap H locs
/-- contracts: from the state S the method answers r and leaves S2 -/
def CTi (l : Launch) (D : va_G) (cI cZ : ClassId) (wd : Sg → va_W) (y : MethodName) (cc : ByteArray) (n : Nat) (ret : Option FieldType) (k : Nat) (av : List Value) (S : Sg) (r : Int32) (S2 : Sg) : Prop :=
  ∀ sz : Nat, Met l y (.code y cc n ret :: TW) (rmk k) (va_Pc av (fun U => U.heap.size = sz ∧ va_P D vwCl (wd S) U.heap ∧ va_K D vwCl (tyz cI cZ) U ∧ va_D (fun _ => True) (wd S))) (va_Qi (fun (r9 : Int32) (u : Sg) => r9 = r ∧ u = S2) (fun u t => va_P D vwCl (wd u) t.heap ∧ va_K D vwCl (tyz cI cZ) t ∧ va_D (va_A (wd S) sz) (wd u)) (va_A (wd S) sz)) 0 0 (va_A (wd S) sz)
def CTv (l : Launch) (D : va_G) (cI cZ : ClassId) (wd : Sg → va_W) (y : MethodName) (cc : ByteArray) (n : Nat) (k : Nat) (av : List Value) (S S2 : Sg) : Prop :=
  ∀ sz : Nat, Met l y (.code y cc n none :: TW) (rmk k) (va_Pc av (fun U => U.heap.size = sz ∧ va_P D vwCl (wd S) U.heap ∧ va_K D vwCl (tyz cI cZ) U ∧ va_D (fun _ => True) (wd S))) (va_Qv (fun (u : Sg) => u = S2) (fun u t => va_P D vwCl (wd u) t.heap ∧ va_K D vwCl (tyz cI cZ) t ∧ va_D (va_A (wd S) sz) (wd u)) (va_A (wd S) sz)) 0 0 (va_A (wd S) sz)
/-- the end that a body must come to -/
abbrev Ei (D : va_G) (cI cZ : ClassId) (wd : Sg → va_W) (S : Sg) (r : Int32) (S2 : Sg) (below : List Frame) (args : Array Value) (s : State) : State → Prop := MQ below (va_Qi (fun (r9 : Int32) (u : Sg) => r9 = r ∧ u = S2) (fun u t => va_P D vwCl (wd u) t.heap ∧ va_K D vwCl (tyz cI cZ) t ∧ va_D (va_A (wd S) s.heap.size) (wd u)) (va_A (wd S) s.heap.size)) args s 0 0 (va_A (wd S) s.heap.size)
abbrev Ev (D : va_G) (cI cZ : ClassId) (wd : Sg → va_W) (S S2 : Sg) (below : List Frame) (args : Array Value) (s : State) : State → Prop := MQ below (va_Qv (fun (u : Sg) => u = S2) (fun u t => va_P D vwCl (wd u) t.heap ∧ va_K D vwCl (tyz cI cZ) t ∧ va_D (va_A (wd S) s.heap.size) (wd u)) (va_A (wd S) s.heap.size)) args s 0 0 (va_A (wd S) s.heap.size)
theorem fb_starti {l : Launch} {D : va_G} {cI cZ : ClassId} {wd : Sg → va_W} {y : MethodName} {cc : ByteArray} {n : Nat} {ret : Option FieldType} {k : Nat} {av : List Value} {S : Sg} {r : Int32} {S2 : Sg} (hy : plainName y.cls = true) (hlen : (lg_sl av).length ≤ n)
    (body : ∀ (p : Program) (e : Env) (s : State) (m : MethodId) (args : Array Value) (below : List Frame) (meth : Method) (c : Code) (ls : Array Slot), Cx p s m args meth c cc n y.cls ret D cI cZ → HB D (wd S) (wd S) s s.heap [] → lv_has ls n (lv_args 0 av) → W p l e (rmk k) s m args below meth c s.heap [] 0 0 (Ei D cI cZ wd S r S2 below args s) (F0 m 0 ls [])) : CTi l D cI cZ wd y cc n ret k av S r S2 := by
  intro sz
  refine Met.ofW (cc := cc) (maxL := n) (ret := ret) hy rfl ?_
  intro p e s m args below meth c s₁ B hml hv
  obtain ⟨rfl, hsz, hP, hK, hD0⟩ := hv
  subst hsz
  have hl := lv_entry av (n := n) hlen
  rw [lg_entry_eq]
  exact body p e s m _ below meth c _ ⟨B.exec, B.bytes, hml, findClass_of_methodNamed B.named, fun w hw => atoms_spec (ws := .code y cc n ret :: TW) B.pre w (List.mem_cons_of_mem _ hw), hK, B.returns, B.notSynchronized⟩ ⟨hP, hD0.self, va_S.rf⟩ hl
theorem fb_startv {l : Launch} {D : va_G} {cI cZ : ClassId} {wd : Sg → va_W} {y : MethodName} {cc : ByteArray} {n : Nat} {k : Nat} {av : List Value} {S : Sg} {S2 : Sg} (hy : plainName y.cls = true) (hlen : (lg_sl av).length ≤ n)
    (body : ∀ (p : Program) (e : Env) (s : State) (m : MethodId) (args : Array Value) (below : List Frame) (meth : Method) (c : Code) (ls : Array Slot), Cx p s m args meth c cc n y.cls none D cI cZ → HB D (wd S) (wd S) s s.heap [] → lv_has ls n (lv_args 0 av) → W p l e (rmk k) s m args below meth c s.heap [] 0 0 (Ev D cI cZ wd S S2 below args s) (F0 m 0 ls [])) : CTv l D cI cZ wd y cc n k av S S2 := by
  intro sz
  refine Met.ofW (cc := cc) (maxL := n) (ret := none) hy rfl ?_
  intro p e s m args below meth c s₁ B hml hv
  obtain ⟨rfl, hsz, hP, hK, hD0⟩ := hv
  subst hsz
  have hl := lv_entry av (n := n) hlen
  rw [lg_entry_eq]
  exact body p e s m _ below meth c _ ⟨B.exec, B.bytes, hml, findClass_of_methodNamed B.named, fun w hw => atoms_spec (ws := .code y cc n none :: TW) B.pre w (List.mem_cons_of_mem _ hw), hK, B.returns, B.notSynchronized⟩ ⟨hP, hD0.self, va_S.rf⟩ hl
section FBR
variable {p : Program} {l : Launch} {e : Env} {R : Room} {s : State} {m : MethodId} {args : Array Value} {below : List Frame} {meth : Method} {c : Code} {H : Heap} {locs : List Loc} {Q : State → Prop}
variable {cc : ByteArray} {nL : Nat} {own : String} {ret : Option FieldType} {D : va_G} {cI cZ : ClassId} {wd : Sg → va_W} {S0 S S2 : Sg} {pc : Nat} {ls : Array Slot} {rest : List Value} {r : Int32}
theorem fb_iret (cx : Cx p s m args meth c cc nL own ret D cI cZ) (hr : ret = some .int) (hH : HB D (wd S) (wd S2) s H locs) (hdg : decode cc pc = .ok (.ireturn, 1)) : W p l e R s m args below meth c H locs 0 0 (Ei D cI cZ wd S r S2 below args s) (F0 m pc ls [.int r]) := by
  obtain ⟨hx, hb, hml, hown, hts, hK, hrt, hlocks⟩ := cx
  subst hr
  exact W.iret hx hb hrt (fun t ht hW => ⟨⟨r, S2, rfl, ⟨rfl, rfl⟩, by rw [ht]; exact hH.1, va_K.moved hW.alike hK, hH.2.1⟩, hH.2.2.F ht⟩) hH.2.2.2.2 hdg hlocks
theorem fb_zret (cx : Cx p s m args meth c cc nL own ret D cI cZ) (hr : ret = some .boolean) (hH : HB D (wd S) (wd S2) s H locs) (hn : narrow .boolean (.int r) = .int r) (hdg : decode cc pc = .ok (.ireturn, 1)) : W p l e R s m args below meth c H locs 0 0 (Ei D cI cZ wd S r S2 below args s) (F0 m pc ls [.int r]) := by
  obtain ⟨hx, hb, hml, hown, hts, hK, hrt, hlocks⟩ := cx
  subst hr
  exact W.zret hx hb hrt hn (fun t ht hW => ⟨⟨r, S2, rfl, ⟨rfl, rfl⟩, by rw [ht]; exact hH.1, va_K.moved hW.alike hK, hH.2.1⟩, hH.2.2.F ht⟩) hH.2.2.2.2 hdg hlocks
theorem fb_vret (cx : Cx p s m args meth c cc nL own none D cI cZ) (hH : HB D (wd S) (wd S2) s H locs) (hdg : decode cc pc = .ok (.return_, 1)) : W p l e R s m args below meth c H locs 0 0 (Ev D cI cZ wd S S2 below args s) (F0 m pc ls []) := by
  obtain ⟨hx, hb, hml, hown, hts, hK, hrt, hlocks⟩ := cx
  exact W.vret hx hb hrt (fun t ht hW => ⟨⟨S2, rfl, rfl, by rw [ht]; exact hH.1, va_K.moved hW.alike hK, hH.2.1⟩, hH.2.2.F ht⟩) hH.2.2.2.2 hdg hlocks
theorem fb_top {x y : Int32} (h : y = x) (k : W p l e R s m args below meth c H locs 0 0 Q (F0 m pc ls (.int y :: rest))) : W p l e R s m args below meth c H locs 0 0 Q (F0 m pc ls (.int x :: rest)) := by
  subst h
  exact k
/-- the words of a method that is called -/
def MWv (y : MethodName) (cc : ByteArray) (n : Nat) (ret : Option FieldType) (C : String) (np : Nat) : Prop :=
  Cond.code y cc n ret ∈ TW ∧ Cond.instanceMethod y ∈ TW ∧ Cond.selects C y y ∈ TW ∧ Cond.initialized C ∈ TW ∧ y.cls = C ∧ (y.cls ≠ "java/lang/invoke/MethodHandle" ∧ y.cls ≠ "java/lang/invoke/VarHandle") ∧ (parseMethodDescriptor y.desc).map (fun d => d.parameters.length) = some np
def MWs (y : MethodName) (cc : ByteArray) (n : Nat) (ret : Option FieldType) (np : Nat) : Prop :=
  Cond.code y cc n ret ∈ TW ∧ Cond.static y ∈ TW ∧ Cond.initialized y.cls ∈ TW ∧ (y.cls ≠ "java/lang/invoke/MethodHandle" ∧ y.cls ≠ "java/lang/invoke/VarHandle") ∧ (parseMethodDescriptor y.desc).map (fun d => d.parameters.length) = some np
theorem fb_all (w0 : va_W) : (List.range w0.length).map (fun i => w0[i]?) = w0.map some := by
  apply List.ext_getElem
  · simp
  · intro i h1 h2
    simp at h1 h2 ⊢
theorem fb_free {w0 ws : va_W} (hH : HB D w0 ws s H locs) : ∀ q, va_A ws H.size q → va_A w0 s.heap.size q :=
  va_free hH.2.1 hH.2.2 (fun _ h => Or.inr h) (List.range ws.length) (fb_all ws)
theorem fb_good {y : MethodName} {n : Nat} (h : Cond.code y cc n ret ∈ TW) : GoodIn TW (Cond.code y cc n ret :: TW) := fun w hw => by
  rcases List.mem_cons.mp hw with rfl | h1
  · exact ⟨h, TW_gd h⟩
  · exact ⟨h1, TW_gd h1⟩
theorem fb_callB {y : MethodName} {cy : ByteArray} {n np k index : Nat} {rt : Option FieldType} (cx : Cx p s m args meth c cc nL own ret D cI cZ) (hcd : Cond.code y cy n rt ∈ TW) (hini : Cond.initialized y.cls ∈ TW) (hd : y.cls ≠ "java/lang/invoke/MethodHandle" ∧ y.cls ≠ "java/lang/invoke/VarHandle") (hnp : (parseMethodDescriptor y.desc).map (fun d => d.parameters.length) = some np) (hlk : Cond.methodLink own index y ∈ TW) (hR : k + 1 ≤ R.frames ∧ 8 + (n + 11) + 30 * k ≤ R.locals) :
    CallB R s args own index y cy n rt (Cond.code y cy n rt :: TW) (rmk k) 0 0 np :=
  callB_of np cx.2.2.2.2.1 (fb_good hcd) rfl rfl rfl (cx.2.2.2.2.1 _ hini) (cx.2.2.2.2.1 _ hlk) ⟨hd.1, hd.2, hnp⟩ hR
theorem fb_blind {av : List Value} {sz : Nat} {ws : va_W} : FrameBlind (va_Pc av (fun U => U.heap.size = sz ∧ va_P D vwCl ws U.heap ∧ va_K D vwCl (tyz cI cZ) U ∧ va_D (fun _ => True) ws)) := fun a U g mk q => by
  obtain ⟨q0, q1, qP, qK, qD⟩ := q
  exact ⟨q0, q1, qP, va_K.moved (u := U) (U := U.calling g mk a) (Vm.Alike.refl U.vm) qK, qD⟩
theorem fb_vi {y : MethodName} {cy : ByteArray} {n np k index a : Nat} {rt : Option FieldType} {C : String} {As : List Value} (cx : Cx p s m args meth c cc nL own ret D cI cZ) (hH : HB D (wd S0) (wd S) s H locs) (mw : MWv y cy n rt C np) (ct : CTi l D cI cZ wd y cy n rt k (.ref a :: As) S r S2)
    (hrc : ∃ cell : Cell, H[a]? = some cell ∧ cell.vm.isStatics = false ∧ s.vm.findClass C = some cell.cls) (hlk : Cond.methodLink own index y ∈ TW) (hR : k + 1 ≤ R.frames ∧ 8 + (n + 11) + 30 * k ≤ R.locals) (hn : As.length = np) (hls : ls.size = nL) (hrm : (rest.map fun v => v.category).sum ≤ 8) {st0 : List Value} (hst : st0 = As.reverse ++ .ref a :: rest) (hdg : decode cc pc = .ok (.invokevirtual index, 3))
    (kk : ∀ (H : Heap) (locs : List Loc), HB D (wd S0) (wd S2) s H locs → W p l e R s m args below meth c H locs 0 0 Q (F0 m (pc + 3) ls (.int r :: rest))) : W p l e R s m args below meth c H locs 0 0 Q (F0 m pc ls st0) := by
  obtain ⟨w1, w2, w3, w4, w5, w6, w7⟩ := mw
  subst w5
  have hF := fb_free hH
  refine va_calli (va_runV (As := As) (rest := rest) (Ts := TW) ⟨cx.1, cx.2.1, cx.2.2.1, cx.2.2.2.1, cx.2.2.2.2.1⟩ (ct H.size) ⟨fb_callB cx w1 w4 w6 w7 hlk hR, cx.2.2.2.2.1 _ w2, cx.2.2.2.2.1 _ w3⟩ ⟨fb_blind, hrc, fun U hU hW => ⟨rfl, by rw [hU], by rw [hU]; exact hH.1, va_K.moved hW.alike cx.2.2.2.2.2.1, hH.2.1.weaken (fun _ _ _ _ => trivial)⟩⟩ rfl hn hls hst (lv_room hrm) hdg ⟨Nat.zero_le _, Nat.zero_le _⟩) hH.2.2 (fun q _ h => hF q h) hF (fun r9 u t H1 locs1 ht hvm hw hB hz1 hk1 hS => ?_)
  obtain ⟨rfl, rfl⟩ := hw
  rw [ht] at hB
  exact kk H1 locs1 ⟨hB.1, hB.2.2.weaken (fun _ q _ h => hF q.1 h), hS⟩
theorem fb_vv {y : MethodName} {cy : ByteArray} {n np k index a : Nat} {C : String} {As : List Value} (cx : Cx p s m args meth c cc nL own ret D cI cZ) (hH : HB D (wd S0) (wd S) s H locs) (mw : MWv y cy n none C np) (ct : CTv l D cI cZ wd y cy n k (.ref a :: As) S S2)
    (hrc : ∃ cell : Cell, H[a]? = some cell ∧ cell.vm.isStatics = false ∧ s.vm.findClass C = some cell.cls) (hlk : Cond.methodLink own index y ∈ TW) (hR : k + 1 ≤ R.frames ∧ 8 + (n + 11) + 30 * k ≤ R.locals) (hn : As.length = np) (hls : ls.size = nL) (hrm : (rest.map fun v => v.category).sum ≤ 8) {st0 : List Value} (hst : st0 = As.reverse ++ .ref a :: rest) (hdg : decode cc pc = .ok (.invokevirtual index, 3))
    (kk : ∀ (H : Heap) (locs : List Loc), HB D (wd S0) (wd S2) s H locs → W p l e R s m args below meth c H locs 0 0 Q (F0 m (pc + 3) ls rest)) : W p l e R s m args below meth c H locs 0 0 Q (F0 m pc ls st0) := by
  obtain ⟨w1, w2, w3, w4, w5, w6, w7⟩ := mw
  subst w5
  have hF := fb_free hH
  refine va_callv (va_runV (As := As) (rest := rest) (Ts := TW) ⟨cx.1, cx.2.1, cx.2.2.1, cx.2.2.2.1, cx.2.2.2.2.1⟩ (ct H.size) ⟨fb_callB cx w1 w4 w6 w7 hlk hR, cx.2.2.2.2.1 _ w2, cx.2.2.2.2.1 _ w3⟩ ⟨fb_blind, hrc, fun U hU hW => ⟨rfl, by rw [hU], by rw [hU]; exact hH.1, va_K.moved hW.alike cx.2.2.2.2.2.1, hH.2.1.weaken (fun _ _ _ _ => trivial)⟩⟩ rfl hn hls hst (lv_room hrm) hdg ⟨Nat.zero_le _, Nat.zero_le _⟩) hH.2.2 (fun q _ h => hF q h) hF (fun u t H1 locs1 ht hvm hw hB hz1 hk1 hS => ?_)
  obtain rfl := hw
  rw [ht] at hB
  exact kk H1 locs1 ⟨hB.1, hB.2.2.weaken (fun _ q _ h => hF q.1 h), hS⟩
theorem fb_si {y : MethodName} {cy : ByteArray} {n np k index : Nat} {rt : Option FieldType} {As : List Value} (cx : Cx p s m args meth c cc nL own ret D cI cZ) (hH : HB D (wd S0) (wd S) s H locs) (mw : MWs y cy n rt np) (ct : CTi l D cI cZ wd y cy n rt k As S r S2)
    (hlk : Cond.methodLink own index y ∈ TW) (hR : k + 1 ≤ R.frames ∧ 8 + (n + 11) + 30 * k ≤ R.locals) (hn : As.length = np) (hls : ls.size = nL) (hrm : (rest.map fun v => v.category).sum ≤ 8) {st0 : List Value} (hst : st0 = As.reverse ++ rest) (hdg : decode cc pc = .ok (.invokestatic index, 3))
    (kk : ∀ (H : Heap) (locs : List Loc), HB D (wd S0) (wd S2) s H locs → W p l e R s m args below meth c H locs 0 0 Q (F0 m (pc + 3) ls (.int r :: rest))) : W p l e R s m args below meth c H locs 0 0 Q (F0 m pc ls st0) := by
  obtain ⟨w1, w2, w4, w6, w7⟩ := mw
  have hF := fb_free hH
  refine va_calli (va_runS (As := As) (rest := rest) (Ts := TW) ⟨cx.1, cx.2.1, cx.2.2.1, cx.2.2.2.1, cx.2.2.2.2.1⟩ (ct H.size) ⟨fb_callB cx w1 w4 w6 w7 hlk hR, cx.2.2.2.2.1 _ w2⟩ ⟨fb_blind, fun U hU hW => ⟨rfl, by rw [hU], by rw [hU]; exact hH.1, va_K.moved hW.alike cx.2.2.2.2.2.1, hH.2.1.weaken (fun _ _ _ _ => trivial)⟩⟩ rfl hn hls hst (lv_room hrm) hdg ⟨Nat.zero_le _, Nat.zero_le _⟩) hH.2.2 (fun q _ h => hF q h) hF (fun r9 u t H1 locs1 ht hvm hw hB hz1 hk1 hS => ?_)
  obtain ⟨rfl, rfl⟩ := hw
  rw [ht] at hB
  exact kk H1 locs1 ⟨hB.1, hB.2.2.weaken (fun _ q _ h => hF q.1 h), hS⟩
theorem fb_max {index : Nat} {x y : Int32} (cx : Cx p s m args meth c cc nL own ret D cI cZ) (hls : ls.size = nL) (hlk : Cond.methodLink own index Lib.Math.max.name ∈ TW) (hR : 1 ≤ R.frames ∧ (rest.map fun v => v.category).sum + 13 ≤ R.locals) (hdg : decode cc pc = .ok (.invokestatic index, 3))
    (kk : W p l e R s m args below meth c H locs 0 0 Q (F0 m (pc + 3) ls (.int (if x < y then y else x) :: rest))) : W p l e R s m args below meth c H locs 0 0 Q (F0 m pc ls (.int y :: .int x :: rest)) :=
  va_mmax cx.1 cx.2.1 (cx.2.2.1.trans hls.symm) cx.2.2.2.1 (cx.2.2.2.2.1 _ hlk) (cx.2.2.2.2.1 _ (by decide +kernel)) (cx.2.2.2.2.1 _ (by decide +kernel)) (cx.2.2.2.2.1 _ (by decide +kernel)) hR.1 hR.2 (Nat.zero_le _) (Nat.zero_le _) hdg kk
theorem fb_min {index : Nat} {x y : Int32} (cx : Cx p s m args meth c cc nL own ret D cI cZ) (hls : ls.size = nL) (hlk : Cond.methodLink own index Lib.Math.min.name ∈ TW) (hR : 1 ≤ R.frames ∧ (rest.map fun v => v.category).sum + 13 ≤ R.locals) (hdg : decode cc pc = .ok (.invokestatic index, 3))
    (kk : W p l e R s m args below meth c H locs 0 0 Q (F0 m (pc + 3) ls (.int (if y < x then y else x) :: rest))) : W p l e R s m args below meth c H locs 0 0 Q (F0 m pc ls (.int y :: .int x :: rest)) :=
  va_mmin cx.1 cx.2.1 (cx.2.2.1.trans hls.symm) cx.2.2.2.1 (cx.2.2.2.2.1 _ hlk) (cx.2.2.2.2.1 _ (by decide +kernel)) (cx.2.2.2.2.1 _ (by decide +kernel)) (cx.2.2.2.2.1 _ (by decide +kernel)) hR.1 hR.2 (Nat.zero_le _) (Nat.zero_le _) hdg kk
end FBR
theorem fb_tout {x : Int32} {hi : Int} (h : ∀ k : Int, 0 ≤ k → k ≤ hi → ¬ x.toInt = k) : x.toInt < 0 ∨ hi < x.toInt := by
  rcases Int.lt_or_le x.toInt 0 with q | q
  · exact Or.inl q
  · rcases Int.lt_or_le hi x.toInt with q2 | q2
    · exact Or.inr q2
    · exact absurd rfl (h x.toInt q q2)
