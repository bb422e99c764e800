theorem ct_congr {P Q : Nat → Bool} : ∀ {n : Nat}, (∀ b, b < n → P b = Q b) → ct P n = ct Q n
  | 0, _ => rfl
  | n + 1, h => by
    unfold ct
    rw [ct_congr (fun b hb => h b (by omega)), h n (by omega)]
theorem RO_state {F30 F31 F32 F33 F34 F35 F36 F37 : Nat → Int32} {f13 f14 f15 : Int32} {M11 M11b M19 M20 M21 M22 M23 M24 M25 M27 : Nat → Int32} {m11 : Int32} {nb no : Nat} (hs : ∀ b, b < nb → (M11b b = 2 ↔ M11 b = 2)) (h : RO F30 F31 F32 F33 F34 F35 F36 F37 f13 f14 f15 M11 M19 M20 M21 M22 M23 M24 M25 M27 m11 nb no) : RO F30 F31 F32 F33 F34 F35 F36 F37 f13 f14 f15 M11b M19 M20 M21 M22 M23 M24 M25 M27 m11 nb no := by
  have e : ct (fun b => decide (M11b b = 2)) nb = ct (fun b => decide (M11 b = 2)) nb := ct_congr (fun b hb => decide_eq_decide.mpr (hs b hb))
  obtain ⟨h1, h2, h3, h4, h5, h6⟩ := h
  refine ⟨h1, h2, by rw [e]; exact h3, h4, h5, fun o ho => ?_⟩
  rcases h6 o ho with q | ⟨q1, q2, n, fs, q3, q4, q5, q6, q7⟩
  · exact Or.inl q
  · exact Or.inr ⟨q1, q2, n, fs, q3, q4, q5, by rw [e]; exact q6, q7⟩
/-- block b leaves place p: it lies nowhere (s = 0), or is gone with t pieces (s = 2) -/
theorem RY_out {F18 F19 F20 F21 F22 F23 F24 F25 F26 F27 : Nat → Int32} {f9 f10 : Int32} {M1 M2 M11 M12 M13 M14 M15 M16 M17 M26 : Nat → Int32} {m10 m6 : Int32} {nk nb b p : Nat} (h : RY F18 F19 F20 F21 F22 F23 F24 F25 F26 F27 f9 f10 M1 M2 M11 M12 M13 M14 M15 M16 M17 M26 m10 m6 nk nb) (hb : b < nb) (hp : p < 24) (h1 : M11 b = 1) (h25 : F25 b = nI p) : RY F18 F19 F20 F21 F22 F23 F24 (upd F25 b (-1)) F26 (upd F27 p (-2)) f9 f10 M1 M2 (upd M11 b 0) M12 M13 M14 M15 M16 (upd M17 p (-2)) M26 m10 m6 nk nb := by
  obtain ⟨⟨e18, e21, e22, e23, e24, e27, e26⟩, ⟨f9, m10, hnb, f10⟩, h3, h4, h5, h6⟩ := h
  refine ⟨⟨e18, e21, e22, e23, e24, by rw [e27], e26⟩, ⟨f9, m10, hnb, f10⟩, h3, h4, fun q hq => ?_, fun c hc => ?_⟩
  · by_cases e : q = p
    · subst e; exact Or.inl pk_us
    · rw [pk_un e]
      rcases h5 q hq with a | ⟨b2, a1, a2, a3, a4⟩
      · exact Or.inl a
      · have hne : b2 ≠ b := fun z => e (by
          subst z
          exact (nI_eq (by omega) (by omega)).mp (a4.symm.trans h25))
        exact Or.inr ⟨b2, a1, a2, by rw [pk_un hne]; exact a3, by rw [pk_un hne]; exact a4⟩
  · by_cases e : c = b
    · subst e
      refine Or.inl ⟨pk_us, pk_us, ?_⟩
      rcases h6 c hc with ⟨a1, a2, a3⟩ | ⟨a1, a3, a4⟩ | ⟨a1, a2, a3⟩
      · exact a3
      · exact a3
      · rw [h1] at a1; exact absurd a1 (by decide)
    · rw [pk_un e, pk_un e]
      rcases h6 c hc with a | ⟨a1, a3, q, hq, a2, a4⟩ | a
      · exact Or.inl a
      · refine Or.inr (Or.inl ⟨a1, a3, q, hq, a2, ?_⟩)
        have hne : q ≠ p := fun z => e (by
          subst z
          rcases h5 q hp with a | ⟨b2, c1, c2, c3, c4⟩
          · rw [a4] at a; exact absurd a (q_m2 (by omega))
          · have z1 : b2 = c := (nI_eq (by omega) (by omega)).mp (c2.symm.trans a4)
            subst z1
            rcases h6 b hb with ⟨d1, d2, d3⟩ | ⟨d1, d3, q2, hq2, d2, d4⟩ | ⟨d1, d2, d3⟩
            · rw [h1] at d1; exact absurd d1 (by decide)
            · have z2 : q2 = q := (nI_eq (by omega) (by omega)).mp (d2.symm.trans h25)
              subst z2
              exact (nI_eq (by omega) (by omega)).mp (a4.symm.trans d4)
            · rw [h1] at d1; exact absurd d1 (by decide))
        rw [pk_un hne]
        exact a4
      · exact Or.inr (Or.inr a)
theorem op_lift {F M : Sg} (h : Rel F M) (x : Int32) : Sim (pX7_lift F x) (pX8_lift M x) := by
  have h0 := Rel_t 0 h
  obtain ⟨nk, nl, nr, nb, no, hK, hB, hY, hO, hE⟩ := id h
  have hY0 : RYs F (sS M 0 0) nk nb := hY
  have hk5 : nk ≤ 5 := hK.2.2.1.2.2.1
  obtain ⟨⟨e18, e21, e22, e23, e24, e27, e26⟩, ⟨f9, m10, hnb, f10⟩, h3, h4, h5, h6⟩ := id hY
  unfold pX7_lift pX8_lift
  simp only [q_st, r_has6, q_bd, sS_2, sS_1, Nat.reduceEqDiff, reduceIte, f9, m10, r_denF, r_denM, q_b2, q_cb0]
  by_cases c : hsb x (nI nb) = 0
  · rw [if_pos c]
    rcases hsb_0 c (by omega) with q | q
    · rw [if_pos q]
      exact Sim_den 1 h0
    · rw [if_neg q]
      by_cases q2 : x < 0
      · rw [if_pos q2]; exact Sim_den 1 h0
      · rw [if_neg q2]; exact Sim_den 1 h0
  · rw [if_neg c]
    obtain ⟨i, hi, rfl⟩ := hsb_n (by omega) c
    rw [if_neg (nI_pos (by omega)), if_pos (nI_lt hi (by omega))]
    simp only [q_ckn (show i < 200 by omega) (by decide), q_cl (show i < 2 ^ 31 by omega)]
    rcases h6 i hi with ⟨a1, a2, a3⟩ | ⟨a1, a3, p, hp, a2, a4⟩ | ⟨a1, a2, a3⟩
    · rw [if_pos a2, if_neg (by rw [a1]; decide)]
      exact Sim_den 4 h0
    · rw [if_neg (by rw [a2]; exact q_m1 (by omega)), if_pos a1, r_placeOf hY0 hi, q_bd, a2, q_ckn hp (by decide)]
      unfold pX6_takeOut
      simp only [q_ckn (show i < 200 by omega) (by decide), q_cl (show i < 2 ^ 31 by omega), a2]
      rw [if_neg (q_m1 (by omega)), q_ckn hp (by decide)]
      simp only [q_st, q_bd, r_graF, r_graM, q_b2, q_cb1]
      refine ⟨_, _, _, rfl, rfl, Rel_tr 0 ⟨nk, nl, nr, nb, no, hK, hB, ?_, ?_, hE⟩⟩
      · show RY (F.2 18) (F.2 19) (F.2 20) (F.2 21) (F.2 22) (F.2 23) (F.2 24) (upd (F.2 25) (nI i).toNatClampNeg (-1)) (F.2 26) (upd (F.2 27) (nI p).toNatClampNeg (-2)) (F.1 9) (F.1 10) (M.2 1) (M.2 2) (upd (M.2 11) (nI i).toNatClampNeg 0) (M.2 12) (M.2 13) (M.2 14) (M.2 15) (M.2 16) (upd (M.2 17) (nI p).toNatClampNeg (-2)) (M.2 26) (M.1 10) (M.1 6) nk nb
        rw [q_cl (by omega), q_cl (by omega)]
        exact RY_out hY hi hp a1 a2
      · refine RO_state (M11 := M.2 11) (fun b hb => ?_) hO
        show upd (M.2 11) (nI i).toNatClampNeg 0 b = 2 ↔ _
        rw [q_cl (by omega)]
        by_cases e : b = i
        · rw [e, pk_us, a1]; decide
        · rw [pk_un e]
    · rw [if_pos a2, if_neg (by rw [a1]; decide)]
      exact Sim_den 4 h0
/-! count -/
theorem belt_l {M : Sg} {nr : Nat} (hn : nr ≤ 60) (m8 : M.1 8 = nI nr) (sz : Nat → Nat) (hs : ∀ r, r < nr → M.2 7 r = nI (sz r)) : ∀ (d n i : Nat), i + d = nr → d < n → pX8_belt_l4 M n (nI (sm sz i)) (nI i) = some (nI (sm sz nr)) := by
  intro d
  induction d with
  | zero =>
    intro n i hi hn
    obtain ⟨n, rfl⟩ : ∃ k, n = k + 1 := ⟨n - 1, by omega⟩
    obtain rfl : i = nr := by omega
    rw [pX8_belt_l4, m8, if_pos (nI_le (Nat.le_refl _) (by omega))]
  | succ d ih =>
    intro n i hi hn
    obtain ⟨n, rfl⟩ : ∃ k, n = k + 1 := ⟨n - 1, by omega⟩
    rw [pX8_belt_l4, m8, if_neg (lp_c (by omega) (by omega)), q_ckn (by omega) (by decide), q_cl (by omega), hs i (by omega), q_vl, q_vl, nI_add, nI_1]
    exact ih n (i + 1) (by omega) (by omega)
theorem r_belt {F M : Sg} {nk nr : Nat} (h : RBs F M nk nr) : pX8_belt M = some (F.1 7) := by
  obtain ⟨-, ⟨f6, m8, hnr⟩, sz, h3, h4, -⟩ := h
  unfold pX8_belt
  rw [q_vl, q_vl, h4]
  exact belt_l hnr m8 sz (fun r hr => (h3 r hr).1) nr 5000 0 (by omega) (by omega)
theorem taken_l {F M : Sg} (e27 : F.2 27 = M.2 17) : ∀ (d n m i : Nat) (a : Int32), i + d = 24 → d < n → d < m →
    ∃ r, pX6_placesTaken_l4 F n a (nI i) = some r ∧ pX8_count_l96 m M a (nI i) = some (r, M) := by
  intro d
  induction d with
  | zero =>
    intro n m i a hi hn hm
    obtain ⟨n, rfl⟩ : ∃ k, n = k + 1 := ⟨n - 1, by omega⟩
    obtain ⟨m, rfl⟩ : ∃ k, m = k + 1 := ⟨m - 1, by omega⟩
    obtain rfl : i = 24 := by omega
    refine ⟨a, ?_, ?_⟩
    · rw [pX6_placesTaken_l4, if_pos (by decide)]
    · rw [pX8_count_l96, if_pos (by decide)]
  | succ d ih =>
    intro n m i a hi hn hm
    obtain ⟨n, rfl⟩ : ∃ k, n = k + 1 := ⟨n - 1, by omega⟩
    obtain ⟨m, rfl⟩ : ∃ k, m = k + 1 := ⟨m - 1, by omega⟩
    rw [pX6_placesTaken_l4, pX8_count_l96, if_neg (show ¬ (24 : Int32) ≤ nI i from nI_ge (b := 24) (by omega) (by decide)), if_neg (show ¬ (24 : Int32) ≤ nI i from nI_ge (b := 24) (by omega) (by decide)), e27]
    simp only [q_ckn (show i < 24 by omega) (by decide)]
    by_cases c : M.2 17 (nI i).toNatClampNeg = -2
    · rw [if_pos c, if_pos c, q_vl, q_vl, q_vl, i0, nI_1]
      exact ih n m (i + 1) _ (by omega) (by omega) (by omega)
    · rw [if_neg c, if_neg c, q_vl, q_vl, q_vl, q_vl, nI_1]
      exact ih n m (i + 1) _ (by omega) (by omega) (by omega)
theorem filled_l {M : Sg} {no : Nat} (hno : no ≤ 40) (m11 : M.1 11 = nI no) (h01 : ∀ o, o < 40 → M.2 27 o = 0 ∨ M.2 27 o = 1) : ∀ (d n i : Nat), i + d = no → d < n → pX8_count_l136 n M (nI (ct (fun o => M.2 27 o = 1) i)) (nI i) = some (nI (ct (fun o => M.2 27 o = 1) no), M) := by
  intro d
  induction d with
  | zero =>
    intro n i hi hn
    obtain ⟨n, rfl⟩ : ∃ k, n = k + 1 := ⟨n - 1, by omega⟩
    obtain rfl : i = no := by omega
    rw [pX8_count_l136, m11, if_pos (nI_le (Nat.le_refl _) (by omega))]
  | succ d ih =>
    intro n i hi hn
    obtain ⟨n, rfl⟩ : ∃ k, n = k + 1 := ⟨n - 1, by omega⟩
    rw [pX8_count_l136, m11, if_neg (lp_c (by omega) (by omega)), q_ckn (by omega) (by decide), q_cl (by omega)]
    have I := ih n (i + 1) (by omega) (by omega)
    rcases h01 i (by omega) with z | z
    · rw [if_pos z, q_vl, q_vl, i0, nI_1]
      have e : ct (fun o => decide (M.2 27 o = 1)) (i + 1) = ct (fun o => decide (M.2 27 o = 1)) i := by simp [ct, z]
      rw [e] at I
      exact I
    · rw [if_neg (by rw [z]; decide), q_vl, q_vl, nI_1, nI_1]
      have e : ct (fun o => decide (M.2 27 o = 1)) (i + 1) = ct (fun o => decide (M.2 27 o = 1)) i + 1 := by simp [ct, z]
      rw [e] at I
      exact I
theorem op_count {F M : Sg} (h : Rel F M) (x : Int32) : SimP F (pX7_count F x) (pX8_count M x) := by
  obtain ⟨nk, nl, nr, nb, no, hK, hB, hY, hO, hE⟩ := id h
  have hB0 : RBs F (sS M 0 0) nk nr := hB
  obtain ⟨⟨e8, e9, e10, e11⟩, hw, ⟨f2, m2, hk5, f3, m3, hl6⟩, hch, hln⟩ := id hK
  obtain ⟨⟨e15, e16, e17, f8⟩, ⟨f6, m8, hnr⟩, -⟩ := id hB
  obtain ⟨⟨e18, e21, e22, e23, e24, e27, e26⟩, ⟨f9, m10, hnb, f10⟩, h3, h4, h5, h6⟩ := id hY
  obtain ⟨-, ⟨f14, m11, hno⟩, f13, f15, hor, hfi⟩ := id hO
  obtain ⟨r, t1, t2⟩ := taken_l (F := F) (M := sS M 0 0) e27 24 5000 5000 0 0 (by omega) (by omega) (by omega)
  have t3 := filled_l (M := sS M 0 0) hno m11 (fun o ho => by rcases hfi o ho with q | q; exact Or.inl q.1; exact Or.inr q.1) no 5000 0 (by omega) (by omega)
  unfold pX7_count pX8_count pX6_placesTaken
  simp only [q_st, q_vl, q_bd, r_belt hB0]
  simp only [← q_0] at t1 t2
  rw [t1, t2]
  have t4 : pX8_count_l136 5000 (sS M 0 0) 0 0 = some (F.1 15, sS M 0 0) := by rw [f15]; exact t3
  rw [t4, q_bd]
  simp only [sS_1, Nat.reduceEqDiff, reduceIte, f2, m2, f3, m3, f6, m8, f8, f9, m10, f14, m11, f10]
  exact SimP_ite (fun _ => ⟨_, _, rfl, rfl, Rel_t 0 h⟩) (fun _ => SimP_ite (fun _ => ⟨_, _, rfl, rfl, Rel_t 0 h⟩) (fun _ => SimP_ite (fun _ => ⟨_, _, rfl, rfl, Rel_t 0 h⟩) (fun _ => SimP_ite (fun _ => ⟨_, _, rfl, rfl, Rel_t 0 h⟩) (fun _ => SimP_ite (fun _ => ⟨_, _, rfl, rfl, Rel_t 0 h⟩) (fun _ => SimP_ite (fun _ => ⟨_, _, rfl, rfl, Rel_t 0 h⟩) (fun _ => SimP_ite (fun _ => ⟨_, _, rfl, rfl, Rel_t 0 h⟩) (fun _ => SimP_ite (fun _ => ⟨_, _, rfl, rfl, Rel_t 0 h⟩) (fun _ => SimP_ite (fun _ => ⟨_, _, rfl, rfl, Rel_t 0 h⟩) (fun _ => SimP_ite (fun _ => ⟨_, _, rfl, rfl, Rel_t 0 h⟩) (fun _ => ⟨_, _, rfl, rfl, Rel_t 0 h⟩))))))))))
