theorem j116_eq {F M : Sg} {nk nr t c e k v : Nat} {x4 : Int32} (hB : RBs F M nk nr) (h7 : F.1 7 = nI t) (ht : t ≤ 2000) (hc : c ≤ 60) (he : e ≤ 2) (hv : v ≤ 400) : pX8_pour_j116 M (nI k) (nI v) x4 (nI c) (nI e) = if 2000 < t + c + v ∨ 60 < nr + e then some (-1, sS M 1 3) else if c = 0 then pX8_pour_j166 M (nI k) (nI v) x4 else fb_bd (pX8_lays M (-2) (nI c) (-2)) (fun S => pX8_pour_j166 S (nI k) (nI v) x4) := by
  have m8 : M.1 8 = nI nr := hB.2.1.2.1
  have hnr : nr ≤ 60 := hB.2.1.2.2
  unfold pX8_pour_j116
  rw [q_vl, r_belt hB, q_bd, h7, nI_add, nI_add, m8, nI_add]
  by_cases c1 : 2000 < t + c + v
  · rw [if_pos (show (2000 : Int32) < nI (t + c + v) from nI_lt (a := 2000) c1 (by omega)), if_pos (Or.inl c1)]
    rfl
  · rw [if_neg (show ¬ (2000 : Int32) < nI (t + c + v) from nI_nlt (a := 2000) (by omega) (by decide))]
    by_cases c2 : 60 < nr + e
    · rw [if_neg (show ¬ nI (nr + e) ≤ (60 : Int32) from nI_ge (a := 60) c2 (by omega)), if_pos (Or.inr c2)]
      rfl
    · rw [if_pos (show nI (nr + e) ≤ (60 : Int32) from nI_le (b := 60) (by omega) (by decide)), if_neg (show ¬ (2000 < t + c + v ∨ 60 < nr + e) by omega)]
      by_cases c3 : c = 0
      · rw [if_pos c3, if_pos (show nI c ≤ (0 : Int32) by rw [c3]; decide)]
      · rw [if_neg c3, if_neg (show ¬ nI c ≤ (0 : Int32) from nI_nle (by omega) (by omega))]
theorem room_eq {F : Sg} {nr t c v : Nat} {x last : Int32} (e : Nat) (f6 : F.1 6 = nI nr) (f7 : F.1 7 = nI t) (hnr : nr ≤ 60) (ht : t ≤ 2000) (hc : c ≤ 60) (hv : v ≤ 400) (hl : pX0_lastKind F = some last) (he : e = (if c = 0 then 0 else 1) + (if last = x then 0 else 1)) : pX0_hasRoom F x (nI c) (nI v) = some (if 2000 < t + c + v ∨ 60 < nr + e then 0 else 1) := by
  have key : ∀ e2 : Int32, e2 = nI e → (if 60 < nI nr + e2 then fb_cb 0 (some 0) else if 2000 < nI t + nI c + nI v then fb_cb 0 (some 0) else fb_cb 1 (some (1 : Int32))) = some (if 2000 < t + c + v ∨ 60 < nr + e then (0 : Int32) else 1) := by
    intro e2 h2
    have he2 : e ≤ 2 := by rw [he]; split <;> split <;> omega
    rw [h2, nI_add, nI_add, nI_add, q_cb0, q_cb1]
    by_cases c2 : 60 < nr + e
    · rw [if_pos (show (60 : Int32) < nI (nr + e) from nI_lt (a := 60) c2 (by omega)), if_pos (Or.inr c2)]
    · rw [if_neg (show ¬ (60 : Int32) < nI (nr + e) from nI_nlt (a := 60) (by omega) (by decide))]
      by_cases c1 : 2000 < t + c + v
      · rw [if_pos (show (2000 : Int32) < nI (t + c + v) from nI_lt (a := 2000) c1 (by omega)), if_pos (Or.inl c1)]
      · rw [if_neg (show ¬ (2000 : Int32) < nI (t + c + v) from nI_nlt (a := 2000) (by omega) (by decide)), if_neg (by omega)]
  unfold pX0_hasRoom
  rw [hl, q_bd, q_bd, f6, f7]
  simp only [q_vl]
  by_cases c3 : c = 0
  · rw [if_pos (show nI c ≤ (0 : Int32) by rw [c3]; decide)]
    rw [if_pos c3] at he
    by_cases c4 : last = x
    · rw [if_pos c4] at he ⊢
      exact key _ (by rw [he]; decide)
    · rw [if_neg c4] at he ⊢
      exact key _ (by rw [he]; decide)
  · rw [if_neg (show ¬ nI c ≤ (0 : Int32) from nI_nle (by omega) (by omega))]
    rw [if_neg c3] at he
    by_cases c4 : last = x
    · rw [if_pos c4] at he ⊢
      exact key _ (by rw [he]; decide)
    · rw [if_neg c4] at he ⊢
      exact key _ (by rw [he]; decide)
theorem tail_eq (o : Option Sg) : fb_bd o (fun S => some (S.1 7, sS S 1 0)) = o.bind (fun S => pX7_answered S (S.1 7)) := rfl
theorem bd_as {α β γ : Type} (o : Option α) (f : α → Option β) (g : β → Option γ) : (fb_bd o f).bind g = fb_bd o (fun x => (f x).bind g) := by
  cases o <;> rfl
set_option maxRecDepth 100000 in
theorem op_pour {F M : Sg} (h : Rel F M) (x y : Int32) : Sim (pX7_pour F x y) (pX8_pour M x y) := by
  have h0 := Rel_t 0 h
  obtain ⟨nk, nl, nr, nb, no, hK, hB, hY, hO, hE⟩ := id h
  have hB0 : RBs F (sS M 0 0) nk nr := hB
  obtain ⟨t, hT⟩ := RB_to0 hB0
  have f7 : F.1 7 = nI t := hT.2.2.choose_spec.2.1
  have ht : t ≤ 2000 := hT.2.2.choose_spec.2.2.2.1
  obtain ⟨⟨e8, e9, e10, e11⟩, hw, ⟨f2, m2, hk5, f3, m3, hl6⟩, hch, hln⟩ := id hK
  obtain ⟨⟨e15, e16, e17, f8⟩, ⟨f6, m8, hnr⟩, sz, -, -, -, -, hlast⟩ := id hB
  unfold pX7_pour pX8_pour
  simp only [q_st, r_has3, r_isKind, r_within, r_in, q_bd, r_refF, r_refM, q_b2, sS_1, Nat.reduceEqDiff, reduceIte, f2, m2, r_ansF]
  refine Sim_ite (fun _ => Sim_ref 1 h0) (fun c1 => Sim_ite (fun _ => Sim_ref 2 h0) (fun c2 => ?_))
  obtain ⟨k, hk, rfl⟩ := hsb_n (by omega) c1
  obtain ⟨v, hv1, hv2, rfl⟩ := inb_n (a := 1) (b := 400) c2 (by decide) (by decide)
  have hE0 : RKs F (sS M 0 0) nk nl ∧ RYs F (sS M 0 0) nk nb ∧ ROs F (sS M 0 0) nb no ∧ REs F (sS M 0 0) := ⟨hK, hY, hO, hE⟩
  rw [m8]
  match nr, hnr, f6, m8, hlast, hB, hB0, hT with
  | 0, hnr, f6, m8, hlast, hB, hB0, hT =>
    have hm : pX7_mixedAhead F (nI k) = some (nI 0) := by
      unfold pX7_mixedAhead
      rw [r_lastKind0 f6, q_bd, q_vl, r_has3, q_bd, if_pos (by unfold hsb; rw [if_pos (by decide)])]
      rfl
    have hne : ¬ (-1 : Int32) = nI k := fun q => q_m1 (by omega) q.symm
    rw [hm, q_bd, q_vl, room_eq (c := 0) (last := -1) 1 f6 f7 hnr ht (by omega) hv2 (r_lastKind0 f6) (by rw [if_pos rfl, if_neg hne]), q_bd, if_pos (show nI 0 = 0 from rfl)]
    unfold pX8_pour_j58
    rw [q_vl, if_neg hne]
    unfold pX8_pour_j69
    rw [q_vl, if_pos (show (-1 : Int32) = -1 from rfl)]
    unfold pX8_pour_j95
    rw [q_vl, if_pos (show (0 : Int32) = 0 from rfl)]
    have J := j116_eq (x4 := 0) (k := k) (c := 0) (e := 1) hB0 f7 ht (by omega) (by omega) hv2
    have J2 : pX8_pour_j116 (sS M 0 0) (nI k) (nI v) 0 0 1 = _ := J
    rw [if_pos (show (0 : Int32) ≤ 0 by decide), J2]
    by_cases c : 2000 < t + 0 + v ∨ 60 < 0 + 1
    · rw [if_pos c, if_pos c, if_pos rfl]
      exact Sim_ref 3 h0
    · rw [if_neg c, if_neg c, if_neg (by decide), if_pos rfl]
      unfold pX0_append
      rw [if_pos (show nI 0 ≤ (0 : Int32) by decide), r_lastKind0 f6, q_bd, if_neg hne, tail_eq]
      exact pour_end hE0 hT f8 hk (by omega) hv1 (by omega)
  | n + 1, hnr, f6, m8, hlast, hB, hB0, hT =>
    obtain ⟨l, hl, hlk⟩ := hlast n rfl
    have hlF : pX0_lastKind F = some (nI l) := by rw [r_lastKind f6 (by omega), e15, hlk]
    have hlt : l * 5 + k < 25 := by omega
    rw [if_neg (show ¬ nI (n + 1) = 0 from nI_ne0 (by omega) (by omega)), nI_pred, q_ckn (show n < 60 by omega) (by decide), q_cl (by omega)]
    have hlkM : (sS M 0 0).2 6 n = nI l := hlk
    rw [hlkM]
    unfold pX8_pour_j58
    rw [q_vl]
    by_cases cs : l = k
    · subst cs
      have hm : pX7_mixedAhead F (nI l) = some (nI 0) := by
        unfold pX7_mixedAhead
        rw [hlF, q_bd, q_vl, r_has3, q_bd, f2]
        unfold hsb
        rw [if_neg (nI_pos (by omega)), if_neg (nI_ge hl (by omega)), if_neg (by decide), if_pos rfl]
        rfl
      rw [hm, q_bd, q_vl, room_eq (c := 0) (last := nI l) 0 f6 f7 hnr ht (by omega) hv2 hlF (by rw [if_pos rfl, if_pos rfl]), q_bd, if_pos rfl]
      unfold pX8_pour_j69
      rw [q_vl, if_neg (q_m1 (by omega)), if_neg (show ¬ (1 : Int32) = 0 by decide)]
      unfold pX8_pour_j95
      rw [q_vl, if_neg (show ¬ (1 : Int32) = 0 by decide)]
      have J := j116_eq (x4 := 1) (k := l) (c := 0) (e := 0) hB0 f7 ht (by omega) (by omega) hv2
      have J2 : pX8_pour_j116 (sS M 0 0) (nI l) (nI v) 1 0 0 = _ := J
      rw [J2]
      by_cases c : 2000 < t + 0 + v ∨ 60 < n + 1 + 0
      · rw [if_pos c, if_pos c, if_pos rfl]
        exact Sim_ref 3 h0
      · rw [if_neg c, if_neg c, if_neg (by decide), if_pos rfl]
        unfold pX0_append pX8_pour_j166
        rw [if_pos (show nI 0 ≤ (0 : Int32) by decide), hlF, q_bd, if_pos rfl, if_neg (by decide), tail_eq]
        simp only [f6, sS_1, Nat.reduceEqDiff, reduceIte, m8, nI_pred, q_ckn (show n < 60 by omega) (by decide), q_cl (show n < 2 ^ 31 by omega), q_st, sA_1, f7, nI_add]
        have hB2 : RBs (sS (sA F 16 (nI n) (F.2 16 n + nI v)) 7 (nI (t + v))) (sA (sS M 0 0) 7 (nI n) ((sS M 0 0).2 7 n + nI v)) nk (n + 1) := by
          refine RB_of0 (t := t + v) ?_ f8 (fun r hr => ?_)
          · show RB0 (F.2 15) (upd (F.2 16) (nI n).toNatClampNeg (F.2 16 n + nI v)) (F.2 17) (F.1 6) (nI (t + v)) (M.2 6) (upd (M.2 7) (nI n).toNatClampNeg (M.2 7 n + nI v)) (M.2 8) (M.1 8) nk (n + 1) (t + v)
            rw [q_cl (by omega)]
            exact RB0_grow hT (by omega)
          · have : r = n := by omega
            subst this
            exact ⟨l, hl, hlk⟩
        rw [r_belt hB2, q_bd, r_ansM, q_b2]
        show Sim (some (_, _)) _
        exact ⟨_, _, _, rfl, rfl, Rel_tr 0 ⟨nk, nl, n + 1, nb, no, hK, hB2, hY, hO, hE⟩⟩
    · have hne : ¬ nI l = nI k := fun q => cs ((nI_eq (by omega) (by omega)).mp q)
      obtain ⟨c, hc, hce⟩ := hch (l * 5 + k) hlt
      have hm : pX7_mixedAhead F (nI k) = some (nI c) := by
        unfold pX7_mixedAhead
        rw [hlF, q_bd, q_vl, r_has3, q_bd, f2]
        unfold hsb
        rw [if_neg (nI_pos (by omega)), if_neg (nI_ge hl (by omega)), if_neg (by decide), if_neg hne]
        unfold pX3_mixedBetween
        rw [ix_a, q_ckn hlt (by decide), q_cl (by omega), e10, hce]
        rfl
      rw [hm, q_bd, q_vl, if_neg hne]
      unfold pX8_pour_j69
      rw [q_vl, if_neg (q_m1 (by omega)), if_pos (show (0 : Int32) = 0 from rfl), ix_b, q_ckn hlt (by decide), q_cl (by omega)]
      have hceM : (sS M 0 0).2 3 (l * 5 + k) = nI c := hce
      rw [hceM]
      unfold pX8_pour_j95
      rw [q_vl, if_pos (show (0 : Int32) = 0 from rfl)]
      by_cases c0 : c = 0
      · subst c0
        rw [room_eq (c := 0) (last := nI l) 1 f6 f7 hnr ht (by omega) hv2 hlF (by rw [if_pos rfl, if_neg hne]), q_bd, if_pos (show nI 0 ≤ (0 : Int32) by decide)]
        have J := j116_eq (x4 := 0) (k := k) (c := 0) (e := 1) hB0 f7 ht (by omega) (by omega) hv2
        have J2 : pX8_pour_j116 (sS M 0 0) (nI k) (nI v) 0 (nI 0) 1 = _ := J
        rw [J2]
        by_cases c : 2000 < t + 0 + v ∨ 60 < n + 1 + 1
        · rw [if_pos c, if_pos c, if_pos rfl]
          exact Sim_ref 3 h0
        · rw [if_neg c, if_neg c, if_neg (by decide), if_pos rfl]
          unfold pX0_append
          rw [if_pos (show nI 0 ≤ (0 : Int32) by decide), hlF, q_bd, if_neg hne, tail_eq]
          exact pour_end hE0 hT f8 hk (by omega) hv1 (by omega)
      · rw [room_eq (c := c) (last := nI l) 2 f6 f7 hnr ht (by omega) hv2 hlF (by rw [if_neg c0, if_neg hne]), q_bd, if_neg (show ¬ nI c ≤ (0 : Int32) from nI_nle (by omega) (by omega))]
        have J := j116_eq (x4 := 0) (k := k) (c := c) (e := 2) hB0 f7 ht (by omega) (by omega) hv2
        have J2 : pX8_pour_j116 (sS M 0 0) (nI k) (nI v) 0 (nI c) 2 = _ := J
        rw [J2]
        by_cases d : 2000 < t + c + v ∨ 60 < n + 1 + 2
        · rw [if_pos d, if_pos d, if_pos rfl]
          exact Sim_ref 3 h0
        · rw [if_neg d, if_neg d, if_neg (by decide), if_neg c0]
          unfold pX0_append
          rw [if_neg (show ¬ nI c ≤ (0 : Int32) from nI_nle (by omega) (by omega)), tail_eq]
          obtain ⟨F2, M2, b1, b2, b3, b4, b5, b6⟩ := begin_F (kv := -2) (lv := -2) hT (by omega) (show 1 ≤ c by omega) (by omega) (Or.inl rfl)
          rw [b1, b2, q_bd, q_bd]
          have f62 : F2.1 6 = nI (n + 1 + 1) := b3.2.1.1
          have hl2 : pX0_lastKind F2 = some (-2) := by
            rw [r_lastKind f62 (by omega), b3.1.1, b4]
          rw [hl2, q_bd, if_neg (fun q => q_m2 (n := k) (by omega) q.symm)]
          refine pour_end (nl := nl) (nb := nb) (no := no) ?_ b3 ?_ hk (by omega) hv1 (by omega)
          · rw [b5, b6]
            exact ⟨hK, hY, hO, hE⟩
          · rw [b5, b6]
            exact f8
