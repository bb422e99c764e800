def RM (F M : Sg) (nk nl nr nb no o c t0 i : Nat) (pl : Nat → Nat) : Prop := RKs F M nk nl ∧ RBs F M nk nr ∧ RYs F M nk nb ∧ REs F M ∧ ROM F M nb no o c t0 i pl
/-- what stays as it was for the choice of blocks -/
def Kept (M N : Sg) : Prop := N.1 4 = M.1 4 ∧ N.1 5 = M.1 5 ∧ N.1 7 = M.1 7 ∧ N.1 6 = M.1 6 ∧ N.2 1 = M.2 1 ∧ N.2 2 = M.2 2 ∧ N.2 12 = M.2 12 ∧ N.2 13 = M.2 13 ∧ N.2 15 = M.2 15 ∧ N.2 16 = M.2 16 ∧ N.2 19 = M.2 19 ∧ N.2 20 = M.2 20 ∧ N.2 21 = M.2 21 ∧ N.2 22 = M.2 22 ∧ N.2 25 = M.2 25
theorem cand_kept {M N : Sg} (h : Kept M N) {p : Nat} (h11 : N.2 11 = upd (M.2 11) p 2) (kd ln : Int32) (b : Nat) : candb N kd ln b = (candb M kd ln b && (b != p)) := by
  obtain ⟨k4, k5, k7, k6, k1, k2, k12, k13, k15, k16, -⟩ := h
  have hh2 : hot N b = hot M b := by unfold hot cre; rw [k12, k1, k2, k6, k15]
  unfold candb cur
  rw [k12, k13, k16, hh2, h11]
  by_cases e : b = p
  · subst e
    rw [pk_us, if_pos rfl]
    simp
  · rw [pk_un e]
    have : (b != p) = true := bne_iff_ne.mpr e
    simp [this]
theorem take_F {F : Sg} {n o : Nat} {p : Int32} (h13 : F.1 13 = nI n) (hn : n < 200) (ho : o < 40) : pX5_take F (nI o) p = some (sA (sS (sA F 37 (nI n) p) 13 (nI (n + 1))) 35 (nI o) (F.2 35 o + 1)) := by
  unfold pX5_take
  rw [h13, if_neg (show ¬ (200 : Int32) ≤ nI n from nI_ge (b := 200) hn (by decide)), q_ckn hn (by decide), q_st, q_st, q_ckn ho (by decide), q_ckn ho (by decide), q_st, q_cl (show o < 2 ^ 31 by omega)]
  have e1 : (sA F 37 (nI n) p).1 13 = nI n := h13
  rw [e1, nI_1]
  rfl
theorem ROM_step {F M : Sg} {nb no o c t0 i p : Nat} {pl : Nat → Nat} (h : ROM F M nb no o c t0 i pl) (ho : o < 40) (hpi : pl i = p) (ht : t0 + i < 200) {F2 N : Sg} (hF : F2.2 30 = F.2 30 ∧ F2.2 31 = F.2 31 ∧ F2.2 32 = F.2 32 ∧ F2.2 33 = F.2 33 ∧ F2.2 34 = F.2 34 ∧ F2.2 35 = upd (F.2 35) o (F.2 35 o + 1) ∧ F2.2 36 = F.2 36 ∧ F2.2 37 = upd (F.2 37) (t0 + i) (nI p) ∧ F2.1 13 = nI (t0 + i + 1) ∧ F2.1 14 = F.1 14 ∧ F2.1 15 = F.1 15)
    (hN : N.2 19 = M.2 19 ∧ N.2 20 = M.2 20 ∧ N.2 21 = M.2 21 ∧ N.2 22 = M.2 22 ∧ N.2 23 = M.2 23 ∧ N.2 24 = M.2 24 ∧ N.2 25 = M.2 25 ∧ N.2 27 = M.2 27 ∧ N.1 11 = M.1 11) (hct : ct (fun b => decide (N.2 11 b = 2)) nb = ct (fun b => decide (M.2 11 b = 2)) nb + 1) : ROM F2 N nb no o c t0 (i + 1) pl := by
  obtain ⟨⟨e30, e31, e32, e33, e34⟩, ⟨h2, h2b, h2c⟩, ⟨h3, h4⟩, h5, h6, h7, h8, ⟨h9, h10, h11⟩, h12, h13, h14⟩ := h
  obtain ⟨a30, a31, a32, a33, a34, a35, a36, a37, a13, a14, a15⟩ := hF
  obtain ⟨n19, n20, n21, n22, n23, n24, n25, n27, n11⟩ := hN
  refine ⟨⟨by rw [a30, n19, e30], by rw [a31, n20, e31], by rw [a32, n21, e32], by rw [a33, n22, e33], by rw [a34, n23, e34]⟩, ⟨by rw [a14, h2], by rw [n11, h2b], h2c⟩, ⟨a13, by rw [hct, h4]; rfl⟩, by rw [a15, n27]; exact h5, ?_, fun z hz => ?_, fun z hz hzo => ?_, ⟨?_, by rw [a36]; exact h10, fun j hj => ?_⟩, by rw [n27]; exact h12, by rw [n24]; exact h13, by rw [n25]; exact h14⟩
  · rw [n21, n22, n23]; exact h6
  · rw [a35, n24, pk_un hz]; exact h7 z hz
  · rw [n27, n24]
    rcases h8 z hz hzo with q | ⟨q1, q2, n, fs, q3, q4, q5, q6, q7⟩
    · exact Or.inl q
    · refine Or.inr ⟨q1, q2, n, fs, q3, q4, by rw [a36]; exact q5, q6, fun j hj => ?_⟩
      rw [a37, n25, pk_un (by omega)]
      exact q7 j hj
  · rw [a35, pk_us, h9, nI_1]
  · rw [a37]
    by_cases e : j = i
    · rw [e, pk_us, hpi]
    · rw [pk_un (by omega)]
      exact h11 j (by omega)
theorem take_step {F M : Sg} {nk nl nr nb no o c t0 i p t : Nat} {pl : Nat → Nat} {ar : Int32} (h : RM F M nk nl nr nb no o c t0 i pl) (ho : o < 40) (hpi : pl i = p) (hp : p < nb) (h2 : M.2 11 p ≠ 2) (ht1 : 1 ≤ t) (ht2 : t ≤ 500) :
    ∃ F1 F2 N, pX6_use F (nI p) (nI t) = some F1 ∧ pX5_take F1 (nI o) (nI p) = some F2 ∧ pX8_takes M (nI p) (nI t) ar = some (sS N 7 (N.1 7 + (((N.1 4 * N.1 5) - (ar * nI t)) * N.2 13 p) / 100)) ∧ RM F2 N nk nl nr nb no o c t0 (i + 1) pl ∧ Kept M N ∧ N.2 11 = upd (M.2 11) p 2 ∧ N.2 23 = M.2 23 := by
  obtain ⟨hK, hB, hY, hE, hO⟩ := h
  have hnb : nb ≤ 200 := hY.2.1.2.2.1
  have hct := hO.2.2.1.2
  have h13 := hO.2.2.1.1
  have hlt : ct (fun b => decide (M.2 11 b = 2)) nb < nb := ct_lt (p := p) (by simp [h2]) nb hp
  have hcu := ct_upd (M11 := M.2 11) h2 nb hp
  rcases hY.2.2.2.2.2 p hp with ⟨a1, a2, a3⟩ | ⟨a1, a3, q, hq, a2, a4⟩ | ⟨a1, a2, a3⟩
  · have hY2 := RY_gone0 hY hp a1 a2 ht1 ht2
    have hu : pX6_use F (nI p) (nI t) = some (sA F 26 (nI p) (nI t)) := by
      unfold pX6_use pX6_takeOut
      rw [q_ckn (show p < 200 by omega) (by decide), q_cl (show p < 2 ^ 31 by omega), if_pos a2, q_bd, q_ckn (show p < 200 by omega) (by decide), q_st]
    have ht : pX8_takes M (nI p) (nI t) ar = some (sS (sA (sA M 11 (nI p) 2) 26 (nI p) (nI t)) 7 ((sA (sA M 11 (nI p) 2) 26 (nI p) (nI t)).1 7 + ((((sA (sA M 11 (nI p) 2) 26 (nI p) (nI t)).1 4 * (sA (sA M 11 (nI p) 2) 26 (nI p) (nI t)).1 5) - (ar * nI t)) * (sA (sA M 11 (nI p) 2) 26 (nI p) (nI t)).2 13 p) / 100)) := by
      unfold pX8_takes
      rw [q_ckn (show p < 200 by omega) (by decide), q_cl (show p < 2 ^ 31 by omega), if_neg (by rw [a1]; decide), q_ckn (show p < 200 by omega) (by decide), q_st, q_ckn (show p < 200 by omega) (by decide), q_st, q_ckn (show p < 200 by omega) (by decide), q_c0, q_st]
    refine ⟨_, _, _, hu, take_F (F := sA F 26 (nI p) (nI t)) (n := t0 + i) h13 (by omega) ho, ht, ⟨hK, hB, ?_, hE, ?_⟩, ⟨rfl, rfl, rfl, rfl, rfl, rfl, rfl, rfl, rfl, rfl, rfl, rfl, rfl, rfl, rfl⟩, ?_, rfl⟩
    · show RY (F.2 18) (F.2 19) (F.2 20) (F.2 21) (F.2 22) (F.2 23) (F.2 24) (F.2 25) (upd (F.2 26) (nI p).toNatClampNeg (nI t)) (F.2 27) (F.1 9) (F.1 10) (M.2 1) (M.2 2) (upd (M.2 11) (nI p).toNatClampNeg 2) (M.2 12) (M.2 13) (M.2 14) (M.2 15) (M.2 16) (M.2 17) (upd (M.2 26) (nI p).toNatClampNeg (nI t)) (M.1 10) (M.1 6) nk nb
      rw [q_cl (by omega)]
      exact hY2
    · refine ROM_step hO ho hpi (by omega) ⟨rfl, rfl, rfl, rfl, rfl, ?_, rfl, ?_, rfl, rfl, rfl⟩ ⟨rfl, rfl, rfl, rfl, rfl, rfl, rfl, rfl, rfl⟩ ?_
      · show upd (F.2 35) (nI o).toNatClampNeg _ = upd (F.2 35) o _
        rw [q_cl (by omega)]; rfl
      · show upd (F.2 37) (nI (t0 + i)).toNatClampNeg _ = upd (F.2 37) (t0 + i) _
        rw [q_cl (by omega)]
      · show ct (fun b => decide (upd (M.2 11) (nI p).toNatClampNeg 2 b = 2)) nb = _
        rw [q_cl (by omega)]
        exact hcu
    · show upd (M.2 11) (nI p).toNatClampNeg 2 = _
      rw [q_cl (by omega)]
  · have hY2 := RY_gone1 hY hp hq a1 a2 ht1 ht2
    have hu : pX6_use F (nI p) (nI t) = some (sA (sA (sA F 27 (nI q) (-2)) 25 (nI p) (-1)) 26 (nI p) (nI t)) := by
      unfold pX6_use pX6_takeOut
      rw [q_ckn (show p < 200 by omega) (by decide), q_cl (show p < 2 ^ 31 by omega), a2, if_neg (q_m1 (by omega)), q_ckn (show p < 200 by omega) (by decide), q_ckn hq (by decide), q_st, q_ckn (show p < 200 by omega) (by decide), q_st, q_bd, q_ckn (show p < 200 by omega) (by decide), q_st]
    have ht : pX8_takes M (nI p) (nI t) ar = some (sS (sA (sA (sA M 17 (nI q) (-2)) 11 (nI p) 2) 26 (nI p) (nI t)) 7 ((sA (sA (sA M 17 (nI q) (-2)) 11 (nI p) 2) 26 (nI p) (nI t)).1 7 + ((((sA (sA (sA M 17 (nI q) (-2)) 11 (nI p) 2) 26 (nI p) (nI t)).1 4 * (sA (sA (sA M 17 (nI q) (-2)) 11 (nI p) 2) 26 (nI p) (nI t)).1 5) - (ar * nI t)) * (sA (sA (sA M 17 (nI q) (-2)) 11 (nI p) 2) 26 (nI p) (nI t)).2 13 p) / 100)) := by
      unfold pX8_takes
      rw [q_ckn (show p < 200 by omega) (by decide), q_cl (show p < 2 ^ 31 by omega), if_pos a1, r_placeOf hY hp, q_bd, a2, q_ckn hq (by decide), q_st, q_ckn (show p < 200 by omega) (by decide), q_st, q_ckn (show p < 200 by omega) (by decide), q_st, q_ckn (show p < 200 by omega) (by decide), q_c0, q_st]
    refine ⟨_, _, _, hu, take_F (F := sA (sA (sA F 27 (nI q) (-2)) 25 (nI p) (-1)) 26 (nI p) (nI t)) (n := t0 + i) h13 (by omega) ho, ht, ⟨hK, hB, ?_, hE, ?_⟩, ⟨rfl, rfl, rfl, rfl, rfl, rfl, rfl, rfl, rfl, rfl, rfl, rfl, rfl, rfl, rfl⟩, ?_, rfl⟩
    · show RY (F.2 18) (F.2 19) (F.2 20) (F.2 21) (F.2 22) (F.2 23) (F.2 24) (upd (F.2 25) (nI p).toNatClampNeg (-1)) (upd (F.2 26) (nI p).toNatClampNeg (nI t)) (upd (F.2 27) (nI q).toNatClampNeg (-2)) (F.1 9) (F.1 10) (M.2 1) (M.2 2) (upd (M.2 11) (nI p).toNatClampNeg 2) (M.2 12) (M.2 13) (M.2 14) (M.2 15) (M.2 16) (upd (M.2 17) (nI q).toNatClampNeg (-2)) (upd (M.2 26) (nI p).toNatClampNeg (nI t)) (M.1 10) (M.1 6) nk nb
      rw [q_cl (show p < 2 ^ 31 by omega), q_cl (show q < 2 ^ 31 by omega)]
      exact hY2
    · refine ROM_step hO ho hpi (by omega) ⟨rfl, rfl, rfl, rfl, rfl, ?_, rfl, ?_, rfl, rfl, rfl⟩ ⟨rfl, rfl, rfl, rfl, rfl, rfl, rfl, rfl, rfl⟩ ?_
      · show upd (F.2 35) (nI o).toNatClampNeg _ = upd (F.2 35) o _
        rw [q_cl (by omega)]; rfl
      · show upd (F.2 37) (nI (t0 + i)).toNatClampNeg _ = upd (F.2 37) (t0 + i) _
        rw [q_cl (by omega)]
      · show ct (fun b => decide (upd (M.2 11) (nI p).toNatClampNeg 2 b = 2)) nb = _
        rw [q_cl (by omega)]
        exact hcu
    · show upd (M.2 11) (nI p).toNatClampNeg 2 = _
      rw [q_cl (by omega)]
  · exact absurd a1 h2
