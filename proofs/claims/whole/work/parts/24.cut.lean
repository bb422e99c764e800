theorem q_bd_some {α β : Type} {o : Option α} {x : α} (h : o = some x) (k : α → Option β) : fb_bd o k = k x := by rw [h]; rfl
theorem op_cut {F M : Sg} (h : Rel F M) : Sim (pX7_cut F) (pX8_cut M) := by
  have h0 := Rel_t 0 h
  obtain ⟨nk, nl, nr, nb, no, hR⟩ := id h
  have hR0 : RelN F (sS M 0 0) nk nl nr nb no := hR
  have hR00 : ∀ {g1 g2 g3 g4 : Nat → Int32} {x y : Nat}, Rel (mkS (sW F 13 g1) g3 x y) (sW (sW (sS M 0 0) 9 g2) 10 g4) := ⟨nk, nl, nr, nb, no, hR⟩
  obtain ⟨hK, hB, hY, hO, hE⟩ := id hR
  obtain ⟨⟨e8, e9, e10, e11⟩, hw, ⟨f2, m2, hk5, f3, m3, hl6⟩, hch, hln⟩ := id hK
  obtain ⟨⟨e15, e16, e17, f8⟩, ⟨f6, m8, hnr⟩, sz, hs1, hs2, hs3, hs4, hs5⟩ := id hB
  have m8' : (sS M 0 0).1 8 = nI nr := m8
  obtain ⟨-, ⟨f9, m10, hnb, f10⟩, -⟩ := id hY
  unfold pX7_cut pX8_cut
  rw [q_st, f6, m8']
  match nr, hR, hR0, hB, f6, m8, hnr, hs1, hs2, hs3, hs4, hs5 with
  | 0, hR, hR0, hB, f6, m8, hnr, hs1, hs2, hs3, hs4, hs5 =>
    rw [if_pos (show nI 0 = 0 from rfl), if_pos (show nI 0 = 0 from rfl)]
    exact Sim_ref 4 h0
  | n + 1, hR, hR0, hB, f6, m8, hnr, hs1, hs2, hs3, hs4, hs5 =>
    rw [if_neg (nI_ne0 (by omega) (by omega)), if_neg (nI_ne0 (by omega) (by omega)), q_ck00 (by decide) (by decide), q_vl, q_ck00 (by decide) (by decide), q_vl, q_vl, q_ck00 (by decide) (by decide), q_vl, q_ck00 (by decide) (by decide), q_vl, q_vl, q_cl0]
    rw [show (sS M 0 0).2 6 0 = M.2 6 0 from rfl, show (sS M 0 0).2 7 0 = M.2 7 0 from rfl, e15, e16]
    have h70 := (hs1 0 (by omega)).1
    have hsm := sm_shift sz n
    have hz : sz 0 ≤ 2000 := by omega
    rw [h70]
    have m10' : (sS M 0 0).1 10 = nI nb := m10
    have hA : pX2_area F = some (F.1 11 * F.1 12) := rfl
    rcases hs4 0 (by omega) with hk | ⟨k, hk, hkk⟩
    · rw [hk, if_pos (show (-2 : Int32) = -2 from rfl), if_pos (show (-2 : Int32) = -2 from rfl), m10', i0, if_pos (show nI nb ≤ 200 from nI_le (b := 200) hnb (by decide)), q_vl, hA, q_bd, q_c0]
      have e : pX8_cut_l118 5000 (sS M 0 0) (-2) (nI (sz 0)) 0 0 = pX8_cut_l118 1 (sS M 0 0) (-2) (nI (sz 0)) (nI 0) (nI 0) := by
        rw [pX8_cut_l118, pX8_cut_l118, if_pos (by decide), if_pos (by decide)]
        rfl
      rw [e]
      exact cut_end (c := 0) (x1 := -2) hR0 hz
    · rw [hkk, if_neg (q_m2 (by omega)), if_neg (q_m2 (by omega))]
      have hL := len_ok hl6 hln
      have hF : FL F (M.2 4) (fun l => M.2 5 (6 * k + l)) nl k := ⟨hL, by omega, f3, e11, fun l hl => hw l k (by omega) (by omega)⟩
      have hM : ML (sS M 0 0) (M.2 4) (fun l => M.2 5 (6 * k + l)) nl k := ⟨hL, by omega, m3, rfl, fun l hl => rfl⟩
      obtain ⟨g1, a1, a2⟩ := r_mw hF hz
      obtain ⟨g2, b1, b2⟩ := r_rk hM hz
      have hg : ∀ u, u ≤ sz 0 → g1 u = g2 u := fun u hu => Tab_uniq hL a2 b2 u (by omega)
      have hM2 : ML (sW (sS M 0 0) 9 g2) (M.2 4) (fun l => M.2 5 (6 * k + l)) nl k := hM
      have hF2 : FL (sW F 13 g2) (M.2 4) (fun l => M.2 5 (6 * k + l)) nl k := hF
      have h9 : (sW (sS M 0 0) 9 g2).2 9 = g2 := rfl
      obtain ⟨c, pl, w, C1, C2, C3⟩ := Chn_ex hL (nx := fun v => lgn (M.2 4) (fun l => M.2 5 (6 * k + l)) g2 v nl) (fun v => lgn_in _ _ _ v nl (by omega)) (sz 0)
      have C1F : Chn (M.2 4) nl (fun v => lgn (M.2 4) (fun l => M.2 5 (6 * k + l)) g1 v nl) c (sz 0) pl w :=
        Chn_congr (fun u hu => (lgn_congr (fun z hz2 => hg z (by omega)) nl).symm) C1
      have hFm : FL (sW F 13 g1) (M.2 4) (fun l => M.2 5 (6 * k + l)) nl k := hF
      have L1 := makeF_l (room := 200 - nb) hFm (f := g1) rfl (by omega) c 5000 0 (sz 0) pl w (F.2 14) C1F (by omega) (by omega) hz
      have L2 := cutM_l hM2 h9 c 5000 0 (sz 0) pl w (M.2 10) C1 (by omega) (by omega) hz
      rw [show sW (sW (sS M 0 0) 9 g2) 10 (M.2 10) = sW (sS M 0 0) 9 g2 from sW_id (sW (sS M 0 0) 9 g2) 10, ← q_0, Nat.zero_add] at L2
      have eS : sS (sS (sW F 13 g1) 4 0) 5 (nI (sz 0)) = mkS (sW F 13 g1) (F.2 14) 0 (sz 0) := by
        unfold mkS
        rw [show sW (sW F 13 g1) 14 (F.2 14) = sW F 13 g1 from sW_id (sW F 13 g1) 14]
        rfl
      have e200 : (200 : Int32) - F.1 9 = nI (200 - nb) := by
        rw [f9, show (200 : Int32) = nI 200 from rfl, pk_sub hnb]
      rw [b1, q_bd, r_lgM hM2 hz, q_bd, q_vl, h9, L2, pX8_cut_l54, if_pos (show (-1 : Int32) = -1 from rfl)]
      rw [show (sW (sW (sS M 0 0) 9 g2) 10 (fun j => if 0 ≤ j ∧ j < c then nI (pl (j - 0)) else M.2 10 j)).1 10 = nI nb from m10, nI_add, e200]
      unfold pX1_make
      rw [a1, q_b2, q_st, q_st, q_vl, eS]
      rw [← q_0] at L1
      by_cases cc : nb + c ≤ 200
      · rw [L1.1 (by omega), q_b2, if_neg (show ¬ (1 : Int32) = 0 by decide), q_ck00 (by decide) (by decide), if_pos (show nI (nb + c) ≤ 200 from nI_le (b := 200) cc (by decide)), q_vl]
        have hA := addp_l (nk := nk) (nl := nl) (nr := n + 1) (no := no) (k := k) (c := c) (pl := pl) (x2 := nI w) (lot := M.2 8 0) hk c 5000 5000 0 nb (mkS (sW F 13 g1) (fun j => if 0 ≤ j ∧ j < 0 + c then nI (pl (j - 0)) else F.2 14 j) (0 + c) w) (sW (sW (sS M 0 0) 9 g2) 10 (fun j => if 0 ≤ j ∧ j < c then nI (pl (j - 0)) else M.2 10 j)) hR0 (by omega) cc (by omega) (by omega) (by omega) (by rw [Nat.zero_add]; rfl) (fun j hj => by
          show (if 0 ≤ j ∧ j < 0 + c then nI (pl (j - 0)) else F.2 14 j) = nI (pl j)
          rw [if_pos (by omega), Nat.sub_zero]) (fun j hj => by
          show (if 0 ≤ j ∧ j < c then nI (pl (j - 0)) else M.2 10 j) = nI (pl j)
          rw [if_pos (by omega), Nat.sub_zero]) rfl
        obtain ⟨F2, M2, t1, t2, t3, t4, t5⟩ := hA
        have eL : (mkS (sW F 13 g1) (fun j => if 0 ≤ j ∧ j < 0 + c then nI (pl (j - 0)) else F.2 14 j) (0 + c) w).2 17 0 = M.2 8 0 := by
          show F.2 17 0 = M.2 8 0
          rw [e17]
        have t5' : F2.1 5 = nI w := t5
        rw [← q_0] at t1 t2
        unfold pX7_addPlanned
        rw [eL, q_vl, t1, q_bd, q_vl, q_vl, t4, t5', t2]
        have hA2 : pX2_area F2 = some (F2.1 11 * F2.1 12) := rfl
        rw [hA2, q_bd, q_c0]
        exact cut_end (c := c) (w := w) t3 (by omega)
      · obtain ⟨g3, x, y, t⟩ := L1.2 (by omega)
        rw [t, q_b2, if_pos (show (0 : Int32) = 0 from rfl), if_neg (show ¬ nI (nb + c) ≤ 200 from nI_ge (a := 200) (by omega) (by omega)), r_refF, r_refM, q_b2, q_b2]
        exact Sim_ref 3 hR00
