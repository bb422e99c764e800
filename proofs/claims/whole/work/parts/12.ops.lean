theorem ix_a (i j : Nat) : nI i * 5 + nI j = nI (i * 5 + j) := by rw [show (5 : Int32) = nI 5 from rfl, pk_mul, nI_add]
theorem ix_b (i j : Nat) : 5 * nI i + nI j = nI (i * 5 + j) := by rw [show (5 : Int32) = nI 5 from rfl, pk_mul, nI_add, Nat.mul_comm]
theorem ix_c (i j : Nat) : 6 * nI i + nI j = nI (6 * i + j) := by rw [show (6 : Int32) = nI 6 from rfl, pk_mul, nI_add]
theorem op_change {F M : Sg} (h : Rel F M) (x y z : Int32) : Sim (pX7_change F x y z) (pX8_change M x y z) := by
  have h0 := Rel_t 0 h
  obtain ⟨nk, nl, nr, nb, no, hK, hB, hY, hO, hE⟩ := id h
  obtain ⟨⟨e8, e9, e10, e11⟩, hw, ⟨f2, m2, hk5, f3, m3, hl6⟩, hch, hln⟩ := id hK
  unfold pX7_change pX8_change
  simp only [q_st, r_has3, r_isKind, r_within, r_in, q_bd, r_denF, r_denM, q_b2, q_cb0, sS_1, Nat.reduceEqDiff, reduceIte, f2, m2]
  refine Sim_ite (fun _ => Sim_den 1 h0) (fun c1 => Sim_ite (fun _ => Sim_den 1 h0) (fun c2 => Sim_ite (fun _ => Sim_den 1 h0) (fun c3 => Sim_ite (fun _ => Sim_den 2 h0) (fun c4 => ?_))))
  obtain ⟨i, hi, rfl⟩ := hsb_n (by omega) c1
  obtain ⟨j, hj, rfl⟩ := hsb_n (by omega) c2
  obtain ⟨v, hv1, hv2, rfl⟩ := inb_n (a := 0) (b := 60) c4 (by decide) (by decide)
  unfold pX3_setMixed
  have hlt : i * 5 + j < 25 := by omega
  simp only [ix_a, ix_b, q_ckn hlt (by decide), q_st, q_bd, r_graF, r_graM, q_b2, q_cb1]
  refine ⟨_, _, _, rfl, rfl, Rel_tr 0 ⟨nk, nl, nr, nb, no, ⟨⟨e8, e9, ?_, e11⟩, hw, ⟨f2, m2, hk5, f3, m3, hl6⟩, ?_, hln⟩, hB, hY, hO, hE⟩⟩
  · show upd (F.2 10) _ _ = upd (M.2 3) _ _
    rw [e10]
  · intro q hq
    show ∃ c, c ≤ 60 ∧ upd (M.2 3) (nI (i * 5 + j)).toNatClampNeg (nI v) q = nI c
    rw [q_cl (by omega)]
    by_cases hc : q = i * 5 + j
    · exact ⟨v, hv2, by rw [hc, pk_us]⟩
    · rw [pk_un hc]
      exact hch q hq
theorem op_worth {F M : Sg} (h : Rel F M) (x y z : Int32) : Sim (pX7_worth F x y z) (pX8_worth M x y z) := by
  have h0 := Rel_t 0 h
  obtain ⟨nk, nl, nr, nb, no, hK, hB, hY, hO, hE⟩ := id h
  obtain ⟨⟨e8, e9, e10, e11⟩, hw, ⟨f2, m2, hk5, f3, m3, hl6⟩, hch, hln⟩ := id hK
  unfold pX7_worth pX8_worth
  simp only [q_st, r_has3, r_has4, r_isKind, r_isLength, r_within, r_in, q_bd, r_denF, r_denM, q_b2, q_cb0, sS_1, Nat.reduceEqDiff, reduceIte, f2, m2, f3, m3]
  refine Sim_ite (fun _ => Sim_den 1 h0) (fun c1 => Sim_ite (fun _ => Sim_den 1 h0) (fun c2 => Sim_ite (fun _ => Sim_den 2 h0) (fun c4 => ?_)))
  obtain ⟨i, hi, rfl⟩ := hsb_n (by omega) c1
  obtain ⟨j, hj, rfl⟩ := hsb_n (by omega) c2
  unfold pX4_setWorth
  simp only [ix_a, ix_c, q_ckn (show i * 5 + j < 30 by omega) (by decide), q_ckn (show 6 * j + i < 30 by omega) (by decide), q_st, q_bd, r_graF, r_graM, q_b2, q_cb1]
  refine ⟨_, _, _, rfl, rfl, Rel_tr 0 ⟨nk, nl, nr, nb, no, ⟨⟨e8, e9, e10, e11⟩, ?_, ⟨f2, m2, hk5, f3, m3, hl6⟩, hch, hln⟩, hB, hY, hO, hE⟩⟩
  intro l k hl hk
  show upd (F.2 12) (nI (i * 5 + j)).toNatClampNeg z (l * 5 + k) = upd (M.2 5) (nI (6 * j + i)).toNatClampNeg z (6 * k + l)
  rw [q_cl (by omega), q_cl (by omega)]
  by_cases hc : l = i ∧ k = j
  · obtain ⟨rfl, rfl⟩ := hc
    rw [pk_us, pk_us]
  · rw [pk_un (by omega), pk_un (by omega)]
    exact hw l k hl hk
theorem op_size {F M : Sg} (h : Rel F M) (x y : Int32) : Sim (pX7_size F x y) (pX8_size M x y) := by
  have h0 := Rel_t 0 h
  obtain ⟨nk, nl, nr, nb, no, hK, hB, hY, hO, hE⟩ := id h
  obtain ⟨hY1, ⟨f9, m10, hnb, f10⟩, hY2⟩ := id hY
  unfold pX7_size pX8_size pX7_isEnd
  simp only [q_st, r_within, r_in, q_bd, r_denF, r_denM, q_b2, q_cb0, q_cb1, sS_1, Nat.reduceEqDiff, reduceIte]
  by_cases c1 : inb x 1 60 = 0
  · simp only [if_pos c1, q_bd, reduceIte]
    exact Sim_den 2 h0
  · simp only [if_neg c1]
    by_cases c2 : inb y 1 60 = 0
    · simp only [if_pos c2, q_bd, reduceIte]
      exact Sim_den 2 h0
    · simp only [if_neg c2, q_bd, if_neg (show ¬ (1 : Int32) = 0 by decide), f9, m10]
      refine Sim_ite (fun _ => ?_) (fun _ => Sim_den 4 h0)
      obtain ⟨w, hw1, hw2, rfl⟩ := inb_n (a := 1) (b := 60) c1 (by decide) (by decide)
      obtain ⟨v, hv1, hv2, rfl⟩ := inb_n (a := 1) (b := 60) c2 (by decide) (by decide)
      simp only [r_graF, r_graM, q_b2, q_cb1]
      exact ⟨_, _, _, rfl, rfl, Rel_tr 0 ⟨nk, nl, nr, nb, no, hK, hB, hY, hO, hE.1, hE.2.1, w, v, hw1, hw2, hv1, hv2, rfl, rfl, rfl, rfl, hE.2.2.choose_spec.choose_spec.2.2.2.2.2.2.2.2⟩⟩
theorem op_shred {F M : Sg} (h : Rel F M) : Sim (pX7_shred F) (pX8_shred M) := by
  obtain ⟨nk, nl, nr, nb, no, hK, hB, hY, hO, hE⟩ := id h
  unfold pX7_shred pX8_shred
  simp only [q_st, q_vl, sS_1, Nat.reduceEqDiff, reduceIte]
  refine ⟨F.1 0, sS F 0 0, sS (sS M 0 0) 7 0, rfl, ?_, ⟨nk, nl, nr, nb, no, hK, hB, hY, hO, rfl, hE.2.1, hE.2.2⟩⟩
  rw [hE.1]
theorem op_trouble {F M : Sg} (h : Rel F M) : SimP F (pX7_trouble F) (pX8_trouble M) := by
  obtain ⟨nk, nl, nr, nb, no, hK, hB, hY, hO, hE⟩ := id h
  refine ⟨F.1 1, _, rfl, ?_, Rel_t 0 h⟩
  unfold pX8_trouble
  simp only [q_st, sS_1, Nat.reduceEqDiff, reduceIte]
  rw [hE.2.1]
theorem op_place {F M : Sg} (h : Rel F M) (x : Int32) : SimP F (pX7_place F x) (pX8_place M x) := by
  obtain ⟨nk, nl, nr, nb, no, hK, hB, hY, hO, hE⟩ := id h
  unfold pX7_place pX8_place
  simp only [q_st, r_within, r_in, q_bd, sS_2]
  refine SimP_ite (fun _ => ⟨_, _, rfl, rfl, Rel_t 0 h⟩) (fun c => ?_)
  obtain ⟨p, -, hp, rfl⟩ := inb_n (a := 0) (b := 23) c (by decide) (by decide)
  rw [q_ckn (show p < 24 by omega) (by decide), q_ckn (show p < 24 by omega) (by decide)]
  refine ⟨_, _, rfl, ?_, Rel_t 0 h⟩
  rw [hY.1.2.2.2.2.2.1]
theorem hsb_0 {x : Int32} {n : Nat} (h : hsb x (nI n) = 0) (hn : n < 2 ^ 31) : x < 0 ∨ ¬ x < nI n := by
  rcases pk_ix x hn with q | q | ⟨j, h1, h2⟩
  · exact Or.inl q
  · exact Or.inr (Int32.not_lt.mpr q)
  · subst h2
    unfold hsb at h
    rw [if_neg (nI_pos (by omega)), if_neg (nI_ge h1 hn)] at h
    exact absurd h (by decide)
theorem op_run {F M : Sg} (h : Rel F M) (x y : Int32) : SimP F (pX7_run F x y) (pX8_run M x y) := by
  obtain ⟨nk, nl, nr, nb, no, hK, hB, hY, hO, hE⟩ := id h
  obtain ⟨⟨e15, e16, e17, e8⟩, ⟨f6, m8, hnr⟩, -⟩ := id hB
  unfold pX7_run pX8_run
  simp only [q_st, r_has0, q_bd, sS_2, sS_1, Nat.reduceEqDiff, reduceIte, f6, m8, e15, e16, e17]
  by_cases c : hsb x (nI nr) = 0
  · rw [if_pos c]
    rcases hsb_0 c (by omega) with q | q
    · rw [if_pos q]
      exact ⟨_, _, rfl, rfl, Rel_t 0 h⟩
    · rw [if_neg q]
      by_cases q2 : x < 0
      · rw [if_pos q2]; exact ⟨_, _, rfl, rfl, Rel_t 0 h⟩
      · rw [if_neg q2]; exact ⟨_, _, rfl, rfl, Rel_t 0 h⟩
  · rw [if_neg c]
    obtain ⟨i, hi, rfl⟩ := hsb_n (by omega) c
    rw [if_neg (nI_pos (by omega)), if_pos (nI_lt hi (by omega))]
    simp only [q_ckn (show i < 60 by omega) (by decide)]
    exact SimP_ite (fun _ => ⟨_, _, rfl, rfl, Rel_t 0 h⟩) (fun _ => SimP_ite (fun _ => ⟨_, _, rfl, rfl, Rel_t 0 h⟩) (fun _ => SimP_ite (fun _ => ⟨_, _, rfl, rfl, Rel_t 0 h⟩) (fun _ => ⟨_, _, rfl, rfl, Rel_t 0 h⟩)))
