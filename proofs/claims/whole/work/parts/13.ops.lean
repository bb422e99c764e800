theorem lp_c {a b : Nat} (h : a < b) (hb : b < 2 ^ 31) : ¬ nI b ≤ nI a := nI_ge h hb
theorem i0 (x : Int32) : x + 0 = x := by
  rw [← Int32.toBitVec_inj]; simp
/-! length -/
theorem told_l {F M : Sg} {nl : Nat} (hl : nl ≤ 6) (f3 : F.1 3 = nI nl) (m3 : M.1 3 = nI nl) (e11 : F.2 11 = M.2 4) (x : Int32) : ∀ (d n m i : Nat), i + d = nl → d < n → d < m →
    (pX4_isTold_l2 F n x (nI i) = some 1 ∧ pX8_length_l23 m M x (nI i) = some (-1, sS M 1 4)) ∨ (pX4_isTold_l2 F n x (nI i) = some 0 ∧ pX8_length_l23 m M x (nI i) = pX8_length_l23 1 M x (nI nl)) := by
  intro d
  induction d with
  | zero =>
    intro n m i hi hn hm
    obtain ⟨n, rfl⟩ : ∃ k, n = k + 1 := ⟨n - 1, by omega⟩
    obtain ⟨m, rfl⟩ : ∃ k, m = k + 1 := ⟨m - 1, by omega⟩
    obtain rfl : i = nl := by omega
    refine Or.inr ⟨?_, ?_⟩
    · rw [pX4_isTold_l2, f3, if_pos (nI_le (Nat.le_refl _) (by omega)), q_cb0]
    · rw [pX8_length_l23, pX8_length_l23, m3, if_pos (nI_le (Nat.le_refl _) (by omega)), if_pos (nI_le (Nat.le_refl _) (by omega))]
  | succ d ih =>
    intro n m i hi hn hm
    obtain ⟨n, rfl⟩ : ∃ k, n = k + 1 := ⟨n - 1, by omega⟩
    obtain ⟨m, rfl⟩ : ∃ k, m = k + 1 := ⟨m - 1, by omega⟩
    rw [pX4_isTold_l2, pX8_length_l23, f3, m3, if_neg (lp_c (by omega) (by omega)), if_neg (lp_c (by omega) (by omega)), q_ckn (by omega) (by decide), q_ckn (by omega) (by decide), e11]
    by_cases c : M.2 4 (nI i).toNatClampNeg = x
    · rw [if_pos c, if_pos c, q_cb1]
      exact Or.inl ⟨rfl, rfl⟩
    · rw [if_neg c, if_neg c, q_vl, q_vl, nI_1]
      exact ih n m (i + 1) (by omega) (by omega) (by omega)
theorem op_length {F M : Sg} (h : Rel F M) (x : Int32) : Sim (pX7_length F x) (pX8_length M x) := by
  have h0 := Rel_t 0 h
  obtain ⟨nk, nl, nr, nb, no, hK, hB, hY, hO, hE⟩ := id h
  obtain ⟨⟨e8, e9, e10, e11⟩, hw, ⟨f2, m2, hk5, f3, m3, hl6⟩, hch, hln⟩ := id hK
  unfold pX7_length pX8_length
  simp only [q_st, r_within, r_in, q_bd, r_refF, r_refM, q_b2, q_vl]
  refine Sim_ite (fun _ => Sim_ref 2 h0) (fun c1 => ?_)
  unfold pX4_isTold
  have T := told_l (F := F) (M := sS M 0 0) hl6 f3 m3 e11 x nl 5000 5000 0 (by omega) (by omega) (by omega)
  rw [q_vl]
  rw [← q_0] at T
  rcases T with ⟨t1, t2⟩ | ⟨t1, t2⟩
  · rw [t1, t2, q_bd, if_neg (by decide)]
    exact Sim_ref 4 h0
  · rw [t1, t2, q_bd, if_pos (by decide), pX8_length_l23]
    have m3' : (sS M 0 0).1 3 = nI nl := m3
    rw [if_pos (show (sS M 0 0).1 3 ≤ nI nl by rw [m3']; exact nI_le (Nat.le_refl _) (by omega))]
    obtain ⟨v, hv1, hv2, rfl⟩ := inb_n (a := 5) (b := 80) c1 (by decide) (by decide)
    by_cases c : nl < 6
    · rw [if_pos (show F.1 3 < 6 by rw [f3]; exact nI_lt c (by decide)), if_neg (show ¬ (sS M 0 0).1 3 = 6 by rw [m3']; intro q; have := (nI_eq (a := nl) (b := 6) (by omega) (by decide)).mp q; omega)]
      unfold pX4_add
      simp only [q_st, sA_1, sS_1, reduceIte, Nat.reduceEqDiff, f3, m3, q_ckn c (by decide), q_b2, r_ansF, r_ansM]
      refine ⟨_, _, _, rfl, rfl, Rel_tr 0 ⟨nk, nl + 1, nr, nb, no, ⟨⟨e8, e9, e10, ?_⟩, hw, ⟨f2, m2, hk5, nI_1 nl, nI_1 nl, c⟩, hch, ?_⟩, hB, hY, hO, hE⟩⟩
      · show upd (F.2 11) _ _ = upd (M.2 4) _ _
        rw [e11]
      · intro i hi
        show ∃ c, 5 ≤ c ∧ c ≤ 80 ∧ upd (M.2 4) (nI nl).toNatClampNeg (nI v) i = nI c
        rw [q_cl (by omega)]
        by_cases hc : i = nl
        · exact ⟨v, hv1, hv2, by rw [hc, pk_us]⟩
        · rw [pk_un hc]
          exact hln i (by omega)
    · have hk : nl = 6 := by omega
      subst hk
      rw [if_neg (show ¬ F.1 3 < 6 by rw [f3]; exact nI_nlt (a := 6) (b := 6) (by omega) (by decide)), if_pos (show (sS M 0 0).1 3 = 6 by rw [m3']; rfl), r_refM, q_b2]
      exact Sim_ref 3 h0
/-! order -/
theorem op_order {F M : Sg} (h : Rel F M) (x y z u v : Int32) : Sim (pX7_order F x y z u v) (pX8_order M x y z u v) := by
  have h0 := Rel_t 0 h
  obtain ⟨nk, nl, nr, nb, no, hK, hB, hY, hO, hE⟩ := id h
  obtain ⟨⟨e8, e9, e10, e11⟩, hw, ⟨f2, m2, hk5, f3, m3, hl6⟩, hch, hln⟩ := id hK
  obtain ⟨⟨e30, e31, e32, e33, e34, e35⟩, ⟨f14, m11, hno⟩, f13, f15, hor, hfi⟩ := id hO
  unfold pX7_order pX8_order pX7_isEnd
  simp only [q_st, r_has3, r_has4, r_isKind, r_isLength, r_within, r_in, q_bd, r_refF, r_refM, q_b2, q_cb0, q_cb1, sS_1, Nat.reduceEqDiff, reduceIte, f2, m2, f3, m3]
  refine Sim_ite (fun _ => Sim_ref 1 h0) (fun c1 => Sim_ite (fun _ => Sim_ref 1 h0) (fun c2 => ?_))
  by_cases c3 : inb z 1 60 = 0
  · simp only [if_pos c3, q_bd, reduceIte]
    exact Sim_ref 2 h0
  · simp only [if_neg c3]
    by_cases c4 : inb u 1 60 = 0
    · simp only [if_pos c4, q_bd, reduceIte]
      exact Sim_ref 2 h0
    · simp only [if_neg c4, q_bd, if_neg (show ¬ (1 : Int32) = 0 by decide)]
      refine Sim_ite (fun _ => Sim_ref 2 h0) (fun c5 => ?_)
      obtain ⟨i, hi, rfl⟩ := hsb_n (by omega) c1
      obtain ⟨j, hj, rfl⟩ := hsb_n (by omega) c2
      obtain ⟨w, hw1, hw2, rfl⟩ := inb_n (a := 1) (b := 60) c3 (by decide) (by decide)
      obtain ⟨t, ht1, ht2, rfl⟩ := inb_n (a := 1) (b := 60) c4 (by decide) (by decide)
      obtain ⟨m, hm1, hm2, rfl⟩ := inb_n (a := 1) (b := 500) c5 (by decide) (by decide)
      by_cases c : no < 40
      · rw [if_pos (by rw [f14]; exact nI_lt c (by decide)), if_neg (by rw [m11]; intro q; have := (nI_eq (a := no) (b := 40) (by omega) (by decide)).mp q; omega)]
        unfold pX5_add
        simp only [q_st, sA_1, sS_1, reduceIte, Nat.reduceEqDiff, f14, m11, q_ckn c (by decide), q_ckn (show j < 6 by omega) (by decide), q_b2, r_ansF, r_ansM]
        refine ⟨_, _, _, rfl, rfl, Rel_tr 0 ⟨nk, nl, nr, nb, no + 1, hK, hB, hY, ⟨⟨?_, ?_, ?_, ?_, ?_, e35⟩, ⟨nI_1 no, nI_1 no, c⟩, f13, ?_, ?_, ?_⟩, hE⟩⟩
        · show upd (F.2 30) _ _ = upd (M.2 19) _ _
          rw [e30]
        · show upd (F.2 31) _ (F.2 11 _) = upd (M.2 20) _ (M.2 4 _)
          rw [e31, e11]
        · show upd (F.2 32) _ _ = upd (M.2 21) _ _
          rw [e32]
        · show upd (F.2 33) _ _ = upd (M.2 22) _ _
          rw [e33]
        · show upd (F.2 34) _ _ = upd (M.2 23) _ _
          rw [e34]
        · show F.1 15 = nI (ct (fun o => M.2 27 o = 1) (no + 1))
          rw [f15]
          have hz : M.2 27 no = 0 := by
            rcases hfi no c with q | q
            · exact q.1
            · omega
          simp [ct, hz]
        · intro o ho
          show ∃ w h c, 1 ≤ w ∧ w ≤ 60 ∧ 1 ≤ h ∧ h ≤ 60 ∧ 1 ≤ c ∧ c ≤ 500 ∧ upd (M.2 21) (nI no).toNatClampNeg (nI _) o = nI w ∧ upd (M.2 22) (nI no).toNatClampNeg (nI _) o = nI h ∧ upd (M.2 23) (nI no).toNatClampNeg (nI _) o = nI c
          rw [q_cl (by omega)]
          by_cases hc : o = no
          · exact ⟨w, t, m, hw1, hw2, ht1, ht2, hm1, hm2, by rw [hc, pk_us], by rw [hc, pk_us], by rw [hc, pk_us]⟩
          · rw [pk_un hc, pk_un hc, pk_un hc]
            exact hor o (by omega)
        · intro o ho
          rcases hfi o ho with q | ⟨q1, q2, q3⟩
          · exact Or.inl q
          · exact Or.inr ⟨q1, by omega, q3⟩
      · have hk : no = 40 := by omega
        subst hk
        rw [if_neg (by rw [f14]; exact nI_nlt (a := 40) (b := 40) (by omega) (by decide)), if_pos (by rw [m11]; rfl)]
        exact Sim_ref 3 h0
/-! led -/
theorem led_l {F M : Sg} {nb : Nat} (hn : nb ≤ 200) (f9 : F.1 9 = nI nb) (m10 : M.1 10 = nI nb) (e22 : F.2 22 = M.2 14) (e26 : F.2 26 = M.2 26) (x : Int32) : ∀ (d n m i : Nat) (a : Int32), i + d = nb → d < n → d < m →
    ∃ r, pX6_piecesOfLot_l4 F n x a (nI i) = some r ∧ pX8_led_l9 m M x a (nI i) = some (r, M) := by
  intro d
  induction d with
  | zero =>
    intro n m i a hi hn hm
    obtain ⟨n, rfl⟩ : ∃ k, n = k + 1 := ⟨n - 1, by omega⟩
    obtain ⟨m, rfl⟩ : ∃ k, m = k + 1 := ⟨m - 1, by omega⟩
    obtain rfl : i = nb := by omega
    refine ⟨a, ?_, ?_⟩
    · rw [pX6_piecesOfLot_l4, f9, if_pos (nI_le (Nat.le_refl _) (by omega))]
    · rw [pX8_led_l9, m10, if_pos (nI_le (Nat.le_refl _) (by omega))]
  | succ d ih =>
    intro n m i a hi hn hm
    obtain ⟨n, rfl⟩ : ∃ k, n = k + 1 := ⟨n - 1, by omega⟩
    obtain ⟨m, rfl⟩ : ∃ k, m = k + 1 := ⟨m - 1, by omega⟩
    rw [pX6_piecesOfLot_l4, pX8_led_l9, f9, m10, if_neg (lp_c (by omega) (by omega)), if_neg (lp_c (by omega) (by omega)), e22, e26]
    simp only [q_ckn (show i < 200 by omega) (by decide)]
    by_cases c : M.2 14 (nI i).toNatClampNeg = x
    · rw [if_pos c, if_pos c, q_vl, q_vl, q_vl, q_vl, nI_1]
      exact ih n m (i + 1) _ (by omega) (by omega) (by omega)
    · rw [if_neg c, if_neg c, q_vl, q_vl, q_vl, i0, nI_1]
      exact ih n m (i + 1) _ (by omega) (by omega) (by omega)
theorem op_led {F M : Sg} (h : Rel F M) (x : Int32) : SimP F (pX7_led F x) (pX8_led M x) := by
  obtain ⟨nk, nl, nr, nb, no, hK, hB, hY, hO, hE⟩ := id h
  obtain ⟨⟨e18, e21, e22, e23, e24, e27, e26⟩, ⟨f9, m10, hnb, f10⟩, -⟩ := id hY
  obtain ⟨r, h1, h2⟩ := led_l (F := F) (M := sS M 0 0) hnb f9 m10 e22 e26 x nb 5000 5000 0 0 (by omega) (by omega) (by omega)
  unfold pX7_led pX8_led pX6_piecesOfLot
  simp only [q_st, q_vl]
  rw [← q_0] at h1 h2
  rw [h1, h2, q_bd]
  exact ⟨_, _, rfl, rfl, Rel_t 0 h⟩
