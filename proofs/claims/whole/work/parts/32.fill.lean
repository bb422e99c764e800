theorem fill_ok {F M : Sg} {nk nl nr nb no o w hg m e : Nat} {s g1 g2 tk : Nat → Int32} (hR : RelN F M nk nl nr nb no) (ho : o < no) (h27 : M.2 27 o = 0) (h24 : M.2 24 o = 0) (hm1 : 1 ≤ m) (hm : m ≤ 500) (h21 : M.2 21 o = nI w) (h22 : M.2 22 o = nI hg) (h23 : M.2 23 o = nI m) (he1 : 1 ≤ e) (he : e ≤ 3600) (hz : ∀ i, i < 61 ∨ i % 61 = 0 → g1 i = 0) (htk : ∀ b, b < nb → tk b = 0) (hcnt : m ≤ ct (candb M (M.2 19 o) (M.2 20 o)) nb * e) :
    Sim (fb_bd (pX7_takeBlocks (sW (sW F 29 s) 28 g1) (nI o) (nI e)) (fun S_21 => fb_ck (nI o) 40 (fb_b2 (pX7_answered S_21 (S_21.2 35 o)) (fun r_24 S_25 => some (r_24, S_25))))) (pX8_fill_l94 5000 (sW (sW (sS M 0 0) 18 g2) 28 tk) (nI o) (nI e) 0 0 (bst (candb M (M.2 19 o) (M.2 20 o)) (M.2 16) nb)) := by
  obtain ⟨hK, hB, hY, hO, hE⟩ := id hR
  have hk5 : nk ≤ 5 := hK.2.2.1.2.2.1
  have hnb : nb ≤ 200 := hY.2.1.2.2.1
  obtain ⟨⟨e30, e31, e32, e33, e34, e35⟩, ⟨f14, m11, hno⟩, f13, f15, hor, hfi⟩ := id hO
  have ho40 : o < 40 := by omega
  have hcl := ct_le (candb M (M.2 19 o) (M.2 20 o)) nb
  have hdm := Nat.div_add_mod (m + e - 1) e
  have hml := Nat.mod_lt (m + e - 1) (show 0 < e by omega)
  obtain ⟨c, hc⟩ : ∃ c, c = (m + e - 1) / e := ⟨_, rfl⟩
  rw [← hc] at hdm
  have hce : m ≤ c * e := by rw [Nat.mul_comm]; omega
  have hlt : ∀ i, i < c → i * e < m := by
    intro i hi
    have h1 : (i + 1) * e ≤ c * e := Nat.mul_le_mul_right e (by omega)
    rw [Nat.add_mul, Nat.one_mul] at h1
    rw [Nat.mul_comm e c] at hdm
    omega
  have hc1 : 1 ≤ c := by
    rcases Nat.eq_zero_or_pos c with q | q
    · rw [q] at hce; omega
    · exact q
  have hcc : c ≤ ct (candb M (M.2 19 o) (M.2 20 o)) nb := by
    rcases Nat.lt_or_ge (ct (candb M (M.2 19 o) (M.2 20 o)) nb) c with q | q
    · have := hlt _ q
      omega
    · exact q
  obtain ⟨pl, hpl⟩ := Pck_ex (hr := M.2 16) (nb := nb) (by omega) c (candb M (M.2 19 o) (M.2 20 o)) hcc
  have hYT : RYs F (sW (sS M 0 0) 18 g2) nk nb := hY
  obtain ⟨tk2, bf2, P2, s1, s2, s3, s4⟩ := sel_l (T := sW (sS M 0 0) 18 g2) (c := c) (m := m) hYT hk5 ho40 he hm h23 (by omega) hlt c 5000 0 (candb M (M.2 19 o) (M.2 20 o)) pl tk (M.2 25) (by omega) (by omega) hpl (fun b hb => by
    show (candb M (M.2 19 o) (M.2 20 o) b && decide (tk b = 0)) = _
    rw [htk b hb]
    simp)
  have eT : sT (sW (sS M 0 0) 18 g2) tk (M.2 25) = sW (sW (sS M 0 0) 18 g2) 28 tk := sW_id (sW (sW (sS M 0 0) 18 g2) 28 tk) 25
  rw [eT, Nat.zero_mul, ← q_0] at s2
  have s2' : pX8_fill_l94 5000 (sW (sW (sS M 0 0) 18 g2) 28 tk) (nI o) (nI e) 0 0 (bst (candb M (M.2 19 o) (M.2 20 o)) (M.2 16) nb) = _ := s2
  rw [s2']
  obtain ⟨n, hn⟩ : ∃ k, 5000 - c = k + 1 := ⟨4999 - c, by omega⟩
  have h23T : (sT (sW (sS M 0 0) 18 g2) tk2 bf2).2 23 o = nI m := h23
  have h23T2 : (sA (sA (sT (sW (sS M 0 0) 18 g2) tk2 bf2) 27 (nI o) 1) 24 (nI o) (nI c)).2 23 o = nI m := h23
  rw [hn, pX8_fill_l94, q_ckn ho40 (by decide), q_cl (show o < 2 ^ 31 by omega), h23T, if_pos (nI_le hce (by
    have := Nat.mul_le_mul (show c ≤ 200 by omega) he
    omega)), q_ckn ho40 (by decide), if_pos (nI_le hce (by
    have := Nat.mul_le_mul (show c ≤ 200 by omega) he
    omega)), q_ckn ho40 (by decide), q_st, nar1, q_ckn ho40 (by decide), q_st, q_ckn ho40 (by decide), q_vl, q_vl, h23T2]
  have hct := ct_le (fun b => decide (M.2 11 b = 2)) nb
  have hRM : RM (sS (sA (sW (sW F 29 s) 28 g1) 36 (nI o) (F.1 13)) 15 (F.1 15 + 1)) (sA (sA (sT (sW (sS M 0 0) 18 g2) tk2 bf2) 27 (nI o) 1) 24 (nI o) (nI c)) nk nl nr nb no o c (ct (fun b => decide (M.2 11 b = 2)) nb) 0 pl := by
    refine ⟨hK, hB, hY, ⟨hE.1, hE.2.1, ?_⟩, ⟨e30, e31, e32, e33, e34⟩, ⟨f14, m11, hno⟩, ⟨f13, rfl⟩, ?_, hor, fun z hzo => ?_, fun z hz4 hzo => ?_, ⟨?_, ?_, fun j hj => by omega⟩, ?_, ?_, fun j hj => ?_⟩
    · obtain ⟨W, H, w1, w2, w3, w4, w5, w6, w7, w8, w9⟩ := hE.2.2
      exact ⟨W, H, w1, w2, w3, w4, w5, w6, w7, w8, hz⟩
    · show F.1 15 + 1 = nI (ct (fun z => decide (upd (M.2 27) (nI o).toNatClampNeg 1 z = 1)) no)
      rw [q_cl (by omega), ct_updv (by rw [h27]; decide) no ho, f15, nI_1]
    · show F.2 35 z = upd (M.2 24) (nI o).toNatClampNeg (nI c) z
      rw [q_cl (by omega), pk_un hzo, e35]
    · show (upd (M.2 27) (nI o).toNatClampNeg 1 z = 0 ∧ upd (M.2 24) (nI o).toNatClampNeg (nI c) z = 0) ∨ (upd (M.2 27) (nI o).toNatClampNeg 1 z = 1 ∧ z < no ∧ ∃ n fs, 1 ≤ n ∧ upd (M.2 24) (nI o).toNatClampNeg (nI c) z = nI n ∧ upd (F.2 36) (nI o).toNatClampNeg (F.1 13) z = nI fs ∧ fs + n ≤ ct (fun b => decide (M.2 11 b = 2)) nb ∧ ∀ j, j < n → F.2 37 (fs + j) = bf2 (200 * z + j))
      rw [q_cl (by omega), pk_un hzo, pk_un hzo, pk_un hzo]
      rcases hfi z hz4 with q | ⟨q1, q2, n, fs, q3, q4, q5, q6, q7⟩
      · exact Or.inl q
      · refine Or.inr ⟨q1, q2, n, fs, q3, q4, q5, q6, fun j hj => ?_⟩
        rw [s4 _ (by omega)]
        exact q7 j hj
    · show F.2 35 o = nI 0
      rw [e35, h24]
      rfl
    · show upd (F.2 36) (nI o).toNatClampNeg (F.1 13) o = _
      rw [q_cl (by omega), pk_us, f13]
    · show upd (M.2 27) (nI o).toNatClampNeg 1 o = 1
      rw [q_cl (by omega), pk_us]
    · show upd (M.2 24) (nI o).toNatClampNeg (nI c) o = nI c
      rw [q_cl (by omega), pk_us]
    · show bf2 (200 * o + j) = nI (pl j)
      have := s3 j hj
      rw [Nat.add_zero] at this
      exact this
  obtain ⟨F2, M2, v1, v2, v3⟩ := tk_l (ar := M.2 21 o * M.2 22 o) hk5 ho40 (show c ≤ 200 by omega) he1 he hm1 hm hlt hce c 5000 5000 0 _ _ (candb M (M.2 19 o) (M.2 20 o)) (by omega) (by omega) (by omega) hRM (by
    show Pck (M.2 16) nb c _ _
    have e : (fun j => pl (0 + j)) = pl := by funext j; rw [Nat.zero_add]
    rw [e]
    exact hpl) (fun b hb => rfl) rfl
  rw [Nat.zero_mul, Nat.sub_zero, ← q_0] at v1 v2
  rw [v2]
  unfold pX7_takeBlocks pX5_beginTaking
  rw [q_ckn ho40 (by decide), q_ckn ho40 (by decide), q_vl, q_ckn ho40 (by decide), q_vl, q_ckn ho40 (by decide), q_st, q_st, q_bd, q_vl, q_cl (show o < 2 ^ 31 by omega)]
  have a1 : (sW (sW F 29 s) 28 g1).2 32 o * (sW (sW F 29 s) 28 g1).2 33 o = M.2 21 o * M.2 22 o := by
    show F.2 32 o * F.2 33 o = _
    rw [e32, e33]
  have a2 : (sW (sW F 29 s) 28 g1).2 34 o = nI m := by
    show F.2 34 o = nI m
    rw [e34, h23]
  rw [a1, a2]
  have v1' : pX7_takeBlocks_l42 5000 (sS (sA (sW (sW F 29 s) 28 g1) 36 (nI o) ((sW (sW F 29 s) 28 g1).1 13)) 15 ((sA (sW (sW F 29 s) 28 g1) 36 (nI o) ((sW (sW F 29 s) 28 g1).1 13)).1 15 + 1)) (nI o) (nI e) (M.2 21 o * M.2 22 o) (nI m) 0 = some F2 := v1
  rw [v1', q_bd, q_ckn ho40 (by decide), r_ansF, q_b2]
  have h35 : F2.2 35 o = nI c := v3.2.2.2.2.2.2.2.2.2.2.2.1.1
  rw [h35]
  exact ⟨_, _, _, rfl, rfl, Rel_tr 0 ⟨nk, nl, nr, nb, no, v3.1, v3.2.1, v3.2.2.1, ROM_end ho hc1 v3.2.2.2.2, v3.2.2.2.1⟩⟩
