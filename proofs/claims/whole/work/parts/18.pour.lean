/-! pour -/
theorem sm_congr {f g : Nat → Nat} : ∀ {n : Nat}, (∀ r, r < n → f r = g r) → sm f n = sm g n
  | 0, _ => rfl
  | n + 1, h => by
    unfold sm
    rw [sm_congr (fun r hr => h r (by omega)), h n (by omega)]
def RB0 (F15 F16 F17 : Nat → Int32) (f6 f7 : Int32) (M6 M7 M8 : Nat → Int32) (m8 : Int32) (nk nr t : Nat) : Prop :=
  (F15 = M6 ∧ F16 = M7 ∧ F17 = M8) ∧ (f6 = nI nr ∧ m8 = nI nr ∧ nr ≤ 60) ∧ ∃ sz : Nat → Nat, (∀ r, r < nr → M7 r = nI (sz r) ∧ 1 ≤ sz r) ∧ f7 = nI t ∧ t = sm sz nr ∧ t ≤ 2000 ∧ (∀ r, r < nr → M6 r = -2 ∨ ∃ k, k < nk ∧ M6 r = nI k)
theorem RB0_push {F15 F16 F17 M6 M7 M8 : Nat → Int32} {f6 f7 m8 : Int32} {nk nr t s : Nat} {kv lv : Int32} (h : RB0 F15 F16 F17 f6 f7 M6 M7 M8 m8 nk nr t) (hn : nr < 60) (hs : 1 ≤ s) (ht : t + s ≤ 2000) (hk : kv = -2 ∨ ∃ k, k < nk ∧ kv = nI k) : RB0 (upd F15 nr kv) (upd F16 nr (nI s)) (upd F17 nr lv) (nI (nr + 1)) (nI (t + s)) (upd M6 nr kv) (upd M7 nr (nI s)) (upd M8 nr lv) (nI (nr + 1)) nk (nr + 1) (t + s) := by
  obtain ⟨⟨e1, e2, e3⟩, ⟨f6, m8, hnr⟩, sz, h1, h2, h3, h4, h5⟩ := h
  refine ⟨⟨by rw [e1], by rw [e2], by rw [e3]⟩, ⟨rfl, rfl, by omega⟩, fun r => if r = nr then s else sz r, fun r hr => ?_, rfl, ?_, ht, fun r hr => ?_⟩
  · dsimp only
    by_cases c : r = nr
    · rw [if_pos c, c, pk_us]; exact ⟨rfl, hs⟩
    · rw [if_neg c, pk_un c]; exact h1 r (by omega)
  · unfold sm
    rw [if_pos rfl, h3, sm_congr (g := sz) (fun r hr => if_neg (by omega))]
  · by_cases c : r = nr
    · rw [c, pk_us]; exact hk
    · rw [pk_un c]; exact h5 r (by omega)
theorem sm_grow (sz : Nat → Nat) (v : Nat) : ∀ (n : Nat), sm (fun r => if r = n then sz r + v else sz r) (n + 1) = sm sz (n + 1) + v := by
  intro n
  unfold sm
  rw [if_pos rfl, sm_congr (g := sz) (fun r hr => if_neg (by omega))]
  omega
theorem RB0_grow {F15 F16 F17 M6 M7 M8 : Nat → Int32} {f6 f7 m8 : Int32} {nk n t v : Nat} (h : RB0 F15 F16 F17 f6 f7 M6 M7 M8 m8 nk (n + 1) t) (ht : t + v ≤ 2000) : RB0 F15 (upd F16 n (F16 n + nI v)) F17 f6 (nI (t + v)) M6 (upd M7 n (M7 n + nI v)) M8 m8 nk (n + 1) (t + v) := by
  obtain ⟨⟨e1, e2, e3⟩, ⟨f6, m8, hnr⟩, sz, h1, h2, h3, h4, h5⟩ := h
  refine ⟨⟨e1, by rw [e2], e3⟩, ⟨f6, m8, hnr⟩, fun r => if r = n then sz r + v else sz r, fun r hr => ?_, rfl, ?_, ht, h5⟩
  · dsimp only
    by_cases c : r = n
    · rw [if_pos c, c, pk_us, (h1 n (by omega)).1, nI_add]
      exact ⟨rfl, by have := (h1 n (by omega)).2; omega⟩
    · rw [if_neg c, pk_un c]; exact h1 r (by omega)
  · rw [sm_grow, h3]
abbrev RB0s (F M : Sg) (nk nr t : Nat) : Prop := RB0 (F.2 15) (F.2 16) (F.2 17) (F.1 6) (F.1 7) (M.2 6) (M.2 7) (M.2 8) (M.1 8) nk nr t
theorem RB_of0 {F M : Sg} {nk nr t : Nat} (h : RB0s F M nk nr t) (h8 : F.1 8 = M.1 9) (hl : ∀ r, r + 1 = nr → ∃ k, k < nk ∧ M.2 6 r = nI k) : RBs F M nk nr := by
  obtain ⟨⟨e1, e2, e3⟩, h2, sz, h3, h4, h5, h6, h7⟩ := h
  exact ⟨⟨e1, e2, e3, h8⟩, h2, sz, h3, by rw [← h5]; exact h4, by omega, h7, hl⟩
theorem RB_to0 {F M : Sg} {nk nr : Nat} (h : RBs F M nk nr) : ∃ t, RB0s F M nk nr t := by
  obtain ⟨⟨e1, e2, e3, h8⟩, h2, sz, h3, h4, h5, h6, h7⟩ := h
  exact ⟨sm sz nr, ⟨e1, e2, e3⟩, h2, sz, h3, h4, rfl, h5, h6⟩
/-- a run more, on both sides -/
theorem begin_F {F M : Sg} {nk nr t s : Nat} {kv lv : Int32} (h : RB0s F M nk nr t) (hn : nr < 60) (hs : 1 ≤ s) (ht : t + s ≤ 2000) (hk : kv = -2 ∨ ∃ k, k < nk ∧ kv = nI k) :
    ∃ F2 M2, pX0_begin F kv lv (nI s) = some F2 ∧ pX8_lays M kv (nI s) lv = some M2 ∧ RB0s F2 M2 nk (nr + 1) (t + s) ∧ M2.2 6 nr = kv ∧ F2 = sS (sS (sA (sA (sA F 15 (nI nr) kv) 17 (nI nr) lv) 16 (nI nr) (nI s)) 6 (nI (nr + 1))) 7 (nI (t + s)) ∧ M2 = sS (sA (sA (sA M 6 (nI nr) kv) 7 (nI nr) (nI s)) 8 (nI nr) lv) 8 (nI (nr + 1)) := by
  have f6 : F.1 6 = nI nr := h.2.1.1
  have m8 : M.1 8 = nI nr := h.2.1.2.1
  have f7 : F.1 7 = nI t := h.2.2.choose_spec.2.1
  refine ⟨_, _, ?_, ?_, ?_, ?_, rfl, rfl⟩
  · unfold pX0_begin
    simp only [q_st, sA_1, sS_1, Nat.reduceEqDiff, reduceIte, f6, f7, q_ckn hn (by decide), nI_1, nI_add]
  · unfold pX8_lays
    simp only [q_st, sA_1, sS_1, Nat.reduceEqDiff, reduceIte, m8, q_ckn hn (by decide), nI_1]
  · show RB0 (upd (F.2 15) (nI nr).toNatClampNeg kv) (upd (F.2 16) (nI nr).toNatClampNeg (nI s)) (upd (F.2 17) (nI nr).toNatClampNeg lv) (nI (nr + 1)) (nI (t + s)) (upd (M.2 6) (nI nr).toNatClampNeg kv) (upd (M.2 7) (nI nr).toNatClampNeg (nI s)) (upd (M.2 8) (nI nr).toNatClampNeg lv) (nI (nr + 1)) nk (nr + 1) (t + s)
    rw [q_cl (by omega)]
    exact RB0_push h hn hs ht hk
  · show upd (M.2 6) (nI nr).toNatClampNeg kv nr = kv
    rw [q_cl (by omega), pk_us]
theorem r_lastKind {F : Sg} {n : Nat} (f6 : F.1 6 = nI (n + 1)) (hn : n < 60) : pX0_lastKind F = some (F.2 15 n) := by
  unfold pX0_lastKind
  rw [f6, if_neg (nI_nle (by omega) (by omega)), nI_pred, q_ckn hn (by decide), q_cl (by omega)]
theorem r_lastKind0 {F : Sg} (f6 : F.1 6 = nI 0) : pX0_lastKind F = some (-1) := by
  unfold pX0_lastKind
  rw [f6, if_pos (by decide)]
/-- the end of pour: kind nI k, so much (v), on a belt that has room, behind the mixed foam -/
theorem pour_end {F M : Sg} {nk nl nr nb no k v : Nat} (hR : RKs F M nk nl ∧ RYs F M nk nb ∧ ROs F M nb no ∧ REs F M) {t : Nat} (h0 : RB0s F M nk nr t) (h8 : F.1 8 = M.1 9) (hk : k < nk) (hn : nr < 60) (hv : 1 ≤ v) (ht : t + v ≤ 2000) :
    Sim (fb_bd (pX0_begin F (nI k) (F.1 8) (nI v)) (fun S_6 => fb_st (sS S_6 8 ((S_6.1 8) + 1)) (fun S_7 => some S_7)) |>.bind (fun S => pX7_answered S (S.1 7))) (pX8_pour_j166 M (nI k) (nI v) 0) := by
  obtain ⟨F2, M2, b1, b2, b3, b4, b5, b6⟩ := begin_F (kv := nI k) (lv := F.1 8) h0 hn hv ht (Or.inr ⟨k, hk, rfl⟩)
  unfold pX8_pour_j166
  rw [if_pos (by decide), ← h8, b1, b2, q_bd, q_bd, q_st, q_st]
  have hB : RBs (sS F2 8 (F2.1 8 + 1)) (sS M2 9 (M2.1 9 + 1)) nk (nr + 1) := by
    refine RB_of0 (t := t + v) b3 ?_ (fun r hr => ?_)
    · show F2.1 8 + 1 = M2.1 9 + 1
      rw [b5, b6]
      show F.1 8 + 1 = M.1 9 + 1
      rw [h8]
    · have : r = nr := by omega
      subst this
      exact ⟨k, hk, b4⟩
  rw [r_belt hB, q_bd, r_ansM, q_b2]
  show Sim (some (_, _)) _
  refine ⟨_, _, _, rfl, rfl, Rel_tr 0 ⟨nk, nl, nr + 1, nb, no, ?_, hB, ?_, ?_, ?_⟩⟩
  · rw [b5, b6]; exact hR.1
  · rw [b5, b6]; exact hR.2.1
  · rw [b5, b6]; exact hR.2.2.1
  · rw [b5, b6]; exact hR.2.2.2
