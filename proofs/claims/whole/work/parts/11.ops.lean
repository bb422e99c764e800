theorem RB_mono {F15 F16 F17 M6 M7 M8 : Nat → Int32} {f6 f7 f8 m8 m9 : Int32} {nk nk2 nr : Nat} (h : RB F15 F16 F17 f6 f7 f8 M6 M7 M8 m8 m9 nk nr) (hk : nk ≤ nk2) : RB F15 F16 F17 f6 f7 f8 M6 M7 M8 m8 m9 nk2 nr := by
  obtain ⟨h1, h2, sz, h3, h4, h5, h6, h7⟩ := h
  refine ⟨h1, h2, sz, h3, h4, h5, fun r hr => ?_, fun r hr => ?_⟩
  · rcases h6 r hr with q | ⟨k, q1, q2⟩
    · exact Or.inl q
    · exact Or.inr ⟨k, by omega, q2⟩
  · obtain ⟨k, q1, q2⟩ := h7 r hr
    exact ⟨k, by omega, q2⟩
theorem RY_kind {F18 F19 F20 F21 F22 F23 F24 F25 F26 F27 : Nat → Int32} {f9 f10 : Int32} {M1 M2 M11 M12 M13 M14 M15 M16 M17 M26 : Nat → Int32} {m10 m6 : Int32} {nk nb : Nat} (x y : Int32) (h : RY F18 F19 F20 F21 F22 F23 F24 F25 F26 F27 f9 f10 M1 M2 M11 M12 M13 M14 M15 M16 M17 M26 m10 m6 nk nb) : RY F18 F19 F20 F21 F22 F23 F24 F25 F26 F27 f9 f10 (upd M1 nk x) (upd M2 nk y) M11 M12 M13 M14 M15 M16 M17 M26 m10 m6 (nk + 1) nb := by
  obtain ⟨h1, h2, h3, h4, h5, h6⟩ := h
  refine ⟨h1, h2, fun b hb => ?_, h4, h5, h6⟩
  obtain ⟨k, q1, q2, q3, q4⟩ := h3 b hb
  refine ⟨k, by omega, q2, ?_, ?_⟩
  · rw [q3, pk_un (by omega)]
  · rw [q4, pk_un (by omega)]
theorem op_kind {F M : Sg} (h : Rel F M) (x y : Int32) : Sim (pX7_kind F x y) (pX8_kind M x y) := by
  have h0 := Rel_t 0 h
  unfold pX7_kind pX8_kind
  simp only [q_st, r_within, r_in, q_bd, r_refF, r_refM, q_b2]
  refine Sim_ite (fun _ => Sim_ref 2 h0) (fun c1 => Sim_ite (fun _ => Sim_ref 2 h0) (fun c2 => ?_))
  obtain ⟨nk, nl, nr, nb, no, hK, hB, hY, hO, hE⟩ := id h
  obtain ⟨⟨e8, e9, e10, e11⟩, hw, ⟨f2, m2, hk5, f3, m3, hl6⟩, hch, hln⟩ := id hK
  have m2' : (sS M 0 0).1 2 = nI nk := m2
  by_cases c : nk < 5
  · rw [if_pos (by rw [f2]; exact nI_lt c (by decide)), if_neg (by rw [m2']; intro q; have := (nI_eq (a := nk) (b := 5) (by omega) (by decide)).mp q; omega)]
    unfold pX3_add
    simp only [q_st, sA_1, sS_1, reduceIte, Nat.reduceEqDiff, f2, m2, m2', q_ckn c (by decide), q_b2, r_ansF, r_ansM]
    refine ⟨_, _, _, rfl, rfl, Rel_tr 0 ⟨nk + 1, nl, nr, nb, no, ⟨⟨?_, ?_, e10, e11⟩, hw, ⟨nI_1 nk, nI_1 nk, c, f3, m3, hl6⟩, hch, hln⟩, RB_mono hB (by omega), ?_, hO, hE⟩⟩
    · show upd (F.2 8) _ x = upd (M.2 1) _ x
      rw [e8]
    · show upd (F.2 9) _ y = upd (M.2 2) _ y
      rw [e9]
    · show RY (F.2 18) (F.2 19) (F.2 20) (F.2 21) (F.2 22) (F.2 23) (F.2 24) (F.2 25) (F.2 26) (F.2 27) (F.1 9) (F.1 10) (upd (M.2 1) (nI nk).toNatClampNeg x) (upd (M.2 2) (nI nk).toNatClampNeg y) (M.2 11) (M.2 12) (M.2 13) (M.2 14) (M.2 15) (M.2 16) (M.2 17) (M.2 26) (M.1 10) (M.1 6) (nk + 1) nb
      rw [q_cl (by omega)]
      exact RY_kind x y hY
  · have hk : nk = 5 := by omega
    subst hk
    rw [if_neg (by rw [f2]; exact nI_nlt (a := 5) (b := 5) (by omega) (by decide)), if_pos (by rw [m2']; rfl)]
    exact Sim_ref 3 h0
