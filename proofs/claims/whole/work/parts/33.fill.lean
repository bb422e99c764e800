theorem fill_no {F M : Sg} {nk nl nr nb no o m e : Nat} {g2 tk : Nat → Int32} (hR : RelN F M nk nl nr nb no) (ho : o < no) (h27 : M.2 27 o = 0) (hm1 : 1 ≤ m) (hm : m ≤ 500) (h23 : M.2 23 o = nI m) (he1 : 1 ≤ e) (he : e ≤ 3600) (htk : ∀ b, b < nb → tk b = 0) (hcnt : ct (candb M (M.2 19 o) (M.2 20 o)) nb * e < m) :
    ∃ N, pX8_fill_l94 5000 (sW (sW (sS M 0 0) 18 g2) 28 tk) (nI o) (nI e) 0 0 (bst (candb M (M.2 19 o) (M.2 20 o)) (M.2 16) nb) = some (-1, sS N 1 5) ∧ RelN F N nk nl nr nb no := by
  obtain ⟨hK, hB, hY, hO, hE⟩ := id hR
  have hk5 : nk ≤ 5 := hK.2.2.1.2.2.1
  have hnb : nb ≤ 200 := hY.2.1.2.2.1
  have hno := hO.2.1.2.2
  have ho40 : o < 40 := by omega
  have hcl := ct_le (candb M (M.2 19 o) (M.2 20 o)) nb
  obtain ⟨c, hc⟩ : ∃ c, c = ct (candb M (M.2 19 o) (M.2 20 o)) nb := ⟨_, rfl⟩
  rw [← hc] at hcnt hcl
  have hlt : ∀ i, i < c → i * e < m := by
    intro i hi
    have h1 : i * e ≤ c * e := Nat.mul_le_mul_right e (by omega)
    omega
  obtain ⟨pl, hpl⟩ := Pck_ex (hr := M.2 16) (nb := nb) (by omega) c (candb M (M.2 19 o) (M.2 20 o)) (by omega)
  have hYT : RYs F (sW (sS M 0 0) 18 g2) nk nb := hY
  obtain ⟨tk2, bf2, P2, s1, s2, s3, s4⟩ := sel_l (T := sW (sS M 0 0) 18 g2) (c := c) (m := m) hYT hk5 ho40 he hm h23 (by omega) hlt c 5000 0 (candb M (M.2 19 o) (M.2 20 o)) pl tk (M.2 25) (by omega) (by omega) hpl (fun b hb => by
    show (candb M (M.2 19 o) (M.2 20 o) b && decide (tk b = 0)) = _
    rw [htk b hb]
    simp)
  have eT : sT (sW (sS M 0 0) 18 g2) tk (M.2 25) = sW (sW (sS M 0 0) 18 g2) 28 tk := sW_id (sW (sW (sS M 0 0) 18 g2) 28 tk) 25
  rw [eT, Nat.zero_mul, ← q_0] at s2
  have s2' : pX8_fill_l94 5000 (sW (sW (sS M 0 0) 18 g2) 28 tk) (nI o) (nI e) 0 0 (bst (candb M (M.2 19 o) (M.2 20 o)) (M.2 16) nb) = _ := s2
  have hb : bst P2 ((sW (sS M 0 0) 18 g2).2 16) nb = -1 := bst_some (by omega)
  rw [s2', hb]
  obtain ⟨n, hn⟩ : ∃ k, 5000 - c = k + 1 := ⟨4999 - c, by omega⟩
  have h23T : (sT (sW (sS M 0 0) 18 g2) tk2 bf2).2 23 o = nI m := h23
  refine ⟨sT (sW (sS M 0 0) 18 g2) tk2 bf2, ?_, hK, hB, hY, RO_by hO hnb h27 (fun z hz => s4 z (by omega)), hE⟩
  rw [hn, pX8_fill_l94, q_ckn ho40 (by decide), q_cl (show o < 2 ^ 31 by omega), h23T, if_neg (nI_ge hcnt (by omega)), if_pos (show (-1 : Int32) = -1 from rfl), q_ckn ho40 (by decide), if_neg (nI_ge hcnt (by omega)), r_refM, q_b2]
theorem op_fill {F M : Sg} (h : Rel F M) (x : Int32) : Sim (pX7_fill F x) (pX8_fill M x) := by
  have h0 := Rel_t 0 h
  obtain ⟨nk, nl, nr, nb, no, hR⟩ := id h
  obtain ⟨hK, hB, hY, hO, hE⟩ := id hR
  have hk5 : nk ≤ 5 := hK.2.2.1.2.2.1
  have hnb : nb ≤ 200 := hY.2.1.2.2.1
  obtain ⟨⟨e30, e31, e32, e33, e34, e35⟩, ⟨f14, m11, hno⟩, f13, f15, hor, hfi⟩ := id hO
  obtain ⟨E1, E2, W, H, w1, w2, w3, w4, w5, w6, w7, w8, w9⟩ := id hE
  have m11' : (sS M 0 0).1 11 = nI no := m11
  unfold pX7_fill pX8_fill
  rw [q_st, r_has5, r_isOrder, q_bd, q_bd, f14, m11']
  by_cases c1 : hsb x (nI no) = 0
  · rw [if_pos c1, if_pos c1]
    exact Sim_ref 1 h0
  · rw [if_neg c1, if_neg c1]
    obtain ⟨o, ho, rfl⟩ := hsb_n (by omega) c1
    have ho40 : o < 40 := by omega
    unfold pX5_isFilled
    rw [q_ckn ho40 (by decide), q_ckn ho40 (by decide), q_cl (show o < 2 ^ 31 by omega), q_cb0, q_cb1, e35, show (sS M 0 0).2 27 o = M.2 27 o from rfl]
    have hct := ct_le (fun b => decide (M.2 11 b = 2)) nb
    rcases hfi o ho40 with ⟨h27, h24⟩ | ⟨h27, -, n, fs, hn1, h24, -, hfs, -⟩
    · rw [h24, if_pos (show (0 : Int32) ≤ 0 by decide), q_bd, if_pos (show (0 : Int32) = 0 from rfl), if_pos h27, q_ckn ho40 (by decide), q_ckn ho40 (by decide), q_ckn ho40 (by decide), q_ckn ho40 (by decide)]
      obtain ⟨w, hh, m, a1, a2, a3, a4, a5, a6, h21, h22, h23⟩ := hor o ho
      rw [show (sS M 0 0).2 21 o = M.2 21 o from rfl, show (sS M 0 0).2 22 o = M.2 22 o from rfl, e32, e33, h21, h22]
      obtain ⟨s, g, g1, g2⟩ := r_pcF (T := F) a1 a3 a2 a4 w2 w4 w5 w7 w9
      obtain ⟨g3, g4⟩ := r_pcM (M := sS M 0 0) a1 a3 a2 a4 w2 w4 w6 w8
      rw [g2, g4, q_b2, q_b2, q_vl, q_vl, q_vl, q_ckn ho40 (by decide), q_ckn ho40 (by decide)]
      have hQ : Qp w hh W H ≤ 3600 := Nat.le_trans (Q_xy a1 a3 W H) (xy_lt w2 w4)
      generalize Qp w hh W H = e at hQ
      have hYF : RYs (sW (sW F 29 s) 28 g) M nk nb := hY
      have b1 : (sW (sW F 29 s) 28 g).2 30 o = M.2 19 o := by
        show F.2 30 o = _
        rw [e30]
      have b2 : (sW (sW F 29 s) 28 g).2 31 o = M.2 20 o := by
        show F.2 31 o = _
        rw [e31]
      have b3 : (sW (sW F 29 s) 28 g).2 34 o = nI m := by
        show F.2 34 o = _
        rw [e34, h23]
      have hcl := ct_le (candb M (M.2 19 o) (M.2 20 o)) nb
      have hRF : RelN (sW (sW F 29 s) 28 g) M nk nl nr nb no := ⟨hK, hB, hY, hO, E1, E2, W, H, w1, w2, w3, w4, w5, w6, w7, w8, g1⟩
      rw [b1, b2, r_cured hYF hk5, q_bd, q_vl, q_ckn ho40 (by decide), b3, pk_mul]
      have m10T : (sW (sS M 0 0) 18 g3).1 10 = nI nb := hY.2.1.2.1
      obtain ⟨tk, t1, t2⟩ := clr_l (T := sW (sS M 0 0) 18 g3) hnb m10T (nI o) (nI e) nb 5000 0 (M.2 28) (by omega) (by omega) (fun b hb => by omega)
      rw [show sW (sW (sS M 0 0) 18 g3) 28 (M.2 28) = sW (sS M 0 0) 18 g3 from sW_id (sW (sS M 0 0) 18 g3) 28, ← q_0] at t1
      have m10T2 : (sW (sW (sS M 0 0) 18 g3) 28 tk).1 10 = nI nb := hY.2.1.2.1
      rw [t1, pX8_fill_l53, m10T2, if_pos (nI_le (Nat.le_refl _) (by omega)), q_vl, q_vl]
      have hbig : ct (candb M (M.2 19 o) (M.2 20 o)) nb * e < 2 ^ 31 := by
        have := Nat.mul_le_mul (show ct (candb M (M.2 19 o) (M.2 20 o)) nb ≤ 200 by omega) hQ
        omega
      by_cases ce : e = 0
      · subst ce
        rw [Nat.mul_zero, if_neg (show ¬ nI m ≤ nI 0 from nI_ge (by omega) (by omega)), if_pos (show nI 0 = (0 : Int32) from rfl), q_vl, r_refF, q_b2, pX8_fill_l94]
        have h23T : (sW (sW (sS M 0 0) 18 g3) 28 tk).2 23 o = nI m := h23
        rw [q_ckn ho40 (by decide), q_cl (show o < 2 ^ 31 by omega), h23T, if_neg (show ¬ nI m ≤ 0 from nI_nle (by omega) (by omega)), if_pos (show (-1 : Int32) = -1 from rfl), q_ckn ho40 (by decide), if_neg (show ¬ nI m ≤ 0 from nI_nle (by omega) (by omega)), r_refM, q_b2]
        exact ⟨_, _, _, rfl, rfl, Rel_tr 5 ⟨nk, nl, nr, nb, no, hRF⟩⟩
      · rw [if_neg (show ¬ nI e = (0 : Int32) from nI_ne0 (by omega) (by omega))]
        have hYT : RYs F (sW (sW (sS M 0 0) 18 g3) 28 tk) nk nb := hY
        have hN : pX8_nextFor (sW (sW (sS M 0 0) 18 g3) 28 tk) (nI o) = some (bst (candb M (M.2 19 o) (M.2 20 o)) (M.2 16) nb) := by
          rw [r_next hYT hk5 ho40]
          congr 1
          refine bst_congr nb (fun b hb => ?_)
          show (candb M (M.2 19 o) (M.2 20 o) b && decide (tk b = 0)) = _
          rw [t2 b hb]
          simp
        rw [hN, q_bd, q_vl]
        by_cases cm : m ≤ ct (candb M (M.2 19 o) (M.2 20 o)) nb * e
        · rw [if_pos (nI_le cm hbig)]
          exact fill_ok hR ho h27 h24 a5 a6 h21 h22 h23 (by omega) hQ g1 t2 cm
        · obtain ⟨N, n1, n2⟩ := fill_no (g2 := g3) (tk := tk) hRF ho h27 a5 a6 h23 (show 1 ≤ e by omega) hQ t2 (by omega)
          rw [if_neg (nI_ge (by omega) (by omega)), r_refF, q_b2, n1]
          exact ⟨_, _, _, rfl, rfl, Rel_tr 5 ⟨nk, nl, nr, nb, no, n2⟩⟩
    · rw [h24, if_neg (show ¬ nI n ≤ (0 : Int32) from nI_nle (by omega) (by omega)), q_bd, if_neg (by decide), if_neg (by rw [h27]; decide), q_ckn ho40 (by decide)]
      exact Sim_ref 4 h0
/-! by -/
theorem op_by {F M : Sg} (h : Rel F M) (x y : Int32) : ∃ r N, Rel F N ∧ pX8_by M x y = some (r, N) ∧ ((N.1 0 = 1 ∧ ((hsb x (F.1 14) = 0) ∨ (vp_in x 40 ∧ ¬ hsb x (F.1 14) = 0 ∧ (y < 0 ∨ (¬ y < 0 ∧ F.2 35 x.toNatClampNeg ≤ y))))) ∨ (N.1 0 = 0 ∧ ¬ hsb x (F.1 14) = 0 ∧ vp_in x 40 ∧ ¬ y < 0 ∧ ¬ F.2 35 x.toNatClampNeg ≤ y ∧ pX5_takenAt F x y = some r)) := by
  obtain ⟨nk, nl, nr, nb, no, hR⟩ := id h
  obtain ⟨hK, hB, hY, hO, hE⟩ := id hR
  have hnb : nb ≤ 200 := hY.2.1.2.2.1
  obtain ⟨⟨e30, e31, e32, e33, e34, e35⟩, ⟨f14, m11, hno⟩, f13, f15, hor, hfi⟩ := id hO
  have hct := ct_le (fun b => decide (M.2 11 b = 2)) nb
  unfold pX8_by
  rw [r_isOrder, q_bd, f14, m11]
  have h1 : ¬ (sS M 0 1).1 0 ≤ (0 : Int32) := show ¬ (1 : Int32) ≤ 0 by decide
  have h0 : (sS M 0 0).1 0 ≤ (0 : Int32) := show (0 : Int32) ≤ 0 by decide
  by_cases c1 : hsb x (nI no) = 0
  · rw [if_pos c1, q_st, if_neg h1]
    exact ⟨0, sS M 0 1, Rel_t 1 h, rfl, Or.inl ⟨rfl, Or.inl c1⟩⟩
  · rw [if_neg c1]
    obtain ⟨o, ho, rfl⟩ := hsb_n (by omega) c1
    have ho40 : o < 40 := by omega
    by_cases c2 : y < 0
    · rw [if_pos c2, q_st, if_neg h1]
      exact ⟨0, sS M 0 1, Rel_t 1 h, rfl, Or.inl ⟨rfl, Or.inr ⟨vp_in_nI ho40 (by decide), c1, Or.inl c2⟩⟩⟩
    · rw [if_neg c2, q_ckn ho40 (by decide), q_cl (show o < 2 ^ 31 by omega), e35]
      by_cases c3 : y < M.2 24 o
      · rw [if_pos c3, q_st, if_pos h0]
        rcases hfi o ho40 with ⟨h27, h24⟩ | ⟨h27, -, n, fs, hn1, h24, h36, hfs, h37⟩
        · rw [h24] at c3
          exact absurd c3 c2
        · obtain ⟨j, hj, rfl⟩ := nI_of c2
          rw [h24] at c3
          have hjn : j < n := (nI_ltI (by omega) (by omega)).mp c3
          rw [ix200, q_ckn (show 200 * o + j < 8000 by omega) (by decide), q_cl (show 200 * o + j < 2 ^ 31 by omega)]
          refine ⟨_, sS M 0 0, Rel_t 0 h, rfl, Or.inr ⟨rfl, c1, vp_in_nI ho40 (by decide), c2, ?_, ?_⟩⟩
          · rw [h24]
            exact Int32.not_le.mpr c3
          · unfold pX5_takenAt
            rw [q_ckn ho40 (by decide), q_cl (show o < 2 ^ 31 by omega), h36, nI_add, q_ckn (show fs + j < 200 by omega) (by decide), q_cl (show fs + j < 2 ^ 31 by omega), h37 j hjn]
            rfl
      · rw [if_neg c3, q_st, if_neg h1]
        exact ⟨0, sS M 0 1, Rel_t 1 h, rfl, Or.inl ⟨rfl, Or.inr ⟨vp_in_nI ho40 (by decide), c1, Or.inr ⟨c2, Int32.not_lt.mp c3⟩⟩⟩⟩
