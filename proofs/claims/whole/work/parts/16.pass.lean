/-! pass -/
def sW (S : Sg) (k : Nat) (f : Nat → Int32) : Sg := (S.1, va_up S.2 k f)
theorem sA_W (S : Sg) (k : Nat) (i x : Int32) : sA S k i x = sW S k (upd (S.2 k) i.toNatClampNeg x) := rfl
theorem sW_W (S : Sg) (k : Nat) (f g : Nat → Int32) : sW (sW S k f) k g = sW S k g := by
  unfold sW
  rw [bx_uu]
theorem sW_s (S : Sg) (k : Nat) (f : Nat → Int32) : (sW S k f).2 k = f := by
  unfold sW va_up
  simp
theorem sW_id (S : Sg) (k : Nat) : sW S k (S.2 k) = S := by
  unfold sW va_up
  refine Prod.ext rfl ?_
  funext j
  by_cases h : j = k
  · simp [h]
  · simp [h]
theorem passM_l {T : Sg} {nb : Nat} (hn : nb ≤ 200) (m10 : T.1 10 = nI nb) (x : Int32) : ∀ (d n i : Nat) (f : Nat → Int32), i + d = nb → d < n →
    pX8_pass_l45 n (sW T 16 f) x (nI i) = some (T.1 6, sS (sW T 16 (fun b => if i ≤ b ∧ b < nb ∧ T.2 11 b = 1 then f b + x else f b)) 1 0) := by
  intro d
  induction d with
  | zero =>
    intro n i f hi hd
    obtain ⟨n, rfl⟩ : ∃ k, n = k + 1 := ⟨n - 1, by omega⟩
    obtain rfl : i = nb := by omega
    have m10' : (sW T 16 f).1 10 = nI i := m10
    rw [pX8_pass_l45, m10', if_pos (nI_le (Nat.le_refl _) (by omega)), r_ansM, q_b2]
    have e : (fun b => if i ≤ b ∧ b < i ∧ T.2 11 b = 1 then f b + x else f b) = f := by
      funext b
      rw [if_neg (by omega)]
    rw [e]
    rfl
  | succ d ih =>
    intro n i f hi hd
    obtain ⟨n, rfl⟩ : ∃ k, n = k + 1 := ⟨n - 1, by omega⟩
    have m10' : (sW T 16 f).1 10 = nI nb := m10
    rw [pX8_pass_l45, m10', if_neg (lp_c (by omega) (by omega))]
    simp only [q_ckn (show i < 200 by omega) (by decide), q_cl (show i < 2 ^ 31 by omega), q_st, q_vl, sA_W, sW_s, sW_W, nI_1]
    by_cases c : T.2 11 i = 1
    · rw [if_pos (show (sW T 16 f).2 11 i = 1 from c), ih n (i + 1) _ (by omega) (by omega)]
      congr 5
      funext b
      by_cases e : b = i
      · subst e
        rw [if_neg (by omega), if_pos ⟨Nat.le_refl _, by omega, c⟩, pk_us]
      · rw [pk_un e]
        by_cases z : i + 1 ≤ b ∧ b < nb ∧ T.2 11 b = 1
        · rw [if_pos z, if_pos ⟨by omega, z.2⟩]
        · rw [if_neg z, if_neg (fun q => z ⟨by omega, q.2⟩)]
    · rw [if_neg (show ¬ (sW T 16 f).2 11 i = 1 from c), ih n (i + 1) _ (by omega) (by omega)]
      congr 5
      funext b
      by_cases e : b = i
      · subst e
        rw [if_neg (by omega), if_neg (fun q => c q.2.2), pk_us, i0]
      · rw [pk_un e]
        by_cases z : i + 1 ≤ b ∧ b < nb ∧ T.2 11 b = 1
        · rw [if_pos z, if_pos ⟨by omega, z.2⟩]
        · rw [if_neg z, if_neg (fun q => z ⟨by omega, q.2⟩)]
theorem passF_l {F M T : Sg} {nk nb : Nat} (hY : RYs F M nk nb) (e27 : T.2 27 = F.2 27) (x : Int32) : ∀ (d n p : Nat) (f : Nat → Int32), p + d = 24 → d < n →
    pX6_goOn_l12 n (sW T 24 f) x (nI p) = some (sW T 24 (fun b => if b < nb ∧ M.2 11 b = 1 ∧ p ≤ (F.2 25 b).toNatClampNeg then f b + x else f b)) := by
  obtain ⟨⟨e18, e21, e22, e23, e24, e27', e26⟩, ⟨f9, m10, hnb, f10⟩, h3, h4, h5, h6⟩ := hY
  rw [e27'] at e27
  have hpl : ∀ b, b < nb → M.2 11 b = 1 → ∃ q, q < 24 ∧ F.2 25 b = nI q ∧ M.2 17 q = nI b := by
    intro b hb h1
    rcases h6 b hb with ⟨a1, a2, a3⟩ | ⟨a1, a3, p, hp, a2, a4⟩ | ⟨a1, a2, a3⟩
    · rw [h1] at a1; exact absurd a1 (by decide)
    · exact ⟨p, hp, a2, a4⟩
    · rw [h1] at a1; exact absurd a1 (by decide)
  intro d
  induction d with
  | zero =>
    intro n p f hp hd
    obtain ⟨n, rfl⟩ : ∃ k, n = k + 1 := ⟨n - 1, by omega⟩
    obtain rfl : p = 24 := by omega
    rw [pX6_goOn_l12, if_pos (by decide)]
    have e : (fun b => if b < nb ∧ M.2 11 b = 1 ∧ 24 ≤ (F.2 25 b).toNatClampNeg then f b + x else f b) = f := by
      funext b
      refine if_neg (fun q => ?_)
      obtain ⟨q1, q2, q3⟩ := q
      obtain ⟨q, hq, a1, a2⟩ := hpl b q1 q2
      rw [a1, q_cl (by omega)] at q3
      omega
    rw [e]
  | succ d ih =>
    intro n p f hp hd
    obtain ⟨n, rfl⟩ : ∃ k, n = k + 1 := ⟨n - 1, by omega⟩
    have e27s : (sW T 24 f).2 27 = M.2 17 := e27
    rw [pX6_goOn_l12, if_neg (show ¬ (24 : Int32) ≤ nI p from nI_ge (b := 24) (by omega) (by decide)), e27s]
    simp only [q_ckn (show p < 24 by omega) (by decide), q_cl (show p < 2 ^ 31 by omega)]
    rcases h5 p (by omega) with z | ⟨b0, hb0, z1, z2, z3⟩
    · rw [if_pos z, q_vl, nI_1, ih n (p + 1) f (by omega) (by omega)]
      congr 2
      funext b
      by_cases c : b < nb ∧ M.2 11 b = 1
      · obtain ⟨q, hq, a1, a2⟩ := hpl b c.1 c.2
        rw [a1, q_cl (by omega)]
        have hne : q ≠ p := fun w => by
          rw [w, z] at a2
          exact q_m2 (n := b) (by omega) a2.symm
        by_cases w : p + 1 ≤ q
        · rw [if_pos ⟨c.1, c.2, w⟩, if_pos ⟨c.1, c.2, by omega⟩]
        · rw [if_neg (fun v => w v.2.2), if_neg (fun v => by have := v.2.2; omega)]
      · rw [if_neg (fun v => c ⟨v.1, v.2.1⟩), if_neg (fun v => c ⟨v.1, v.2.1⟩)]
    · rw [z1, if_neg (q_m2 (by omega))]
      simp only [q_ckn (show b0 < 200 by omega) (by decide), q_cl (show b0 < 2 ^ 31 by omega), q_st, q_vl, sA_W, sW_s, sW_W, nI_1]
      rw [ih n (p + 1) _ (by omega) (by omega)]
      congr 2
      funext b
      by_cases e : b = b0
      · subst e
        rw [if_neg (fun v => by have := v.2.2; rw [z3, q_cl (by omega)] at this; omega), pk_us, if_pos ⟨hb0, z2, by rw [z3, q_cl (by omega)]; omega⟩]
      · rw [pk_un e]
        by_cases c : b < nb ∧ M.2 11 b = 1
        · obtain ⟨q, hq, a1, a2⟩ := hpl b c.1 c.2
          rw [a1, q_cl (by omega)]
          have hne : q ≠ p := fun w => by
            rw [w, z1] at a2
            exact e ((nI_eq (by omega) (by omega)).mp a2).symm
          by_cases w : p + 1 ≤ q
          · rw [if_pos ⟨c.1, c.2, w⟩, if_pos ⟨c.1, c.2, by omega⟩]
          · rw [if_neg (fun v => w v.2.2), if_neg (fun v => by have := v.2.2; omega)]
        · rw [if_neg (fun v => c ⟨v.1, v.2.1⟩), if_neg (fun v => c ⟨v.1, v.2.1⟩)]
theorem op_pass {F M : Sg} (h : Rel F M) (x : Int32) : Sim (pX7_pass F x) (pX8_pass M x) := by
  have h0 := Rel_t 0 h
  obtain ⟨nk, nl, nr, nb, no, hK, hB, hY, hO, hE⟩ := id h
  obtain ⟨⟨e18, e21, e22, e23, e24, e27, e26⟩, ⟨f9, m10, hnb, f10⟩, h3, h4, h5, h6⟩ := id hY
  unfold pX7_pass pX8_pass pX6_goOn
  simp only [q_st, q_vl, r_within, r_in, q_bd, r_refF, r_refM, q_b2, sS_1, Nat.reduceEqDiff, reduceIte, f10]
  refine Sim_ite (fun _ => Sim_ref 2 h0) (fun c1 => Sim_ite (fun c2 => ?_) (fun _ => Sim_ref 2 h0))
  have L1 := passF_l (T := sS F 10 (M.1 6 + x)) hY rfl x 24 5000 0 (F.2 24) (by omega) (by omega)
  have L2 := passM_l (T := sS (sS M 0 0) 6 (M.1 6 + x)) hnb m10 x nb 5000 0 (M.2 16) (by omega) (by omega)
  rw [show sW (sS F 10 (M.1 6 + x)) 24 (F.2 24) = sS F 10 (M.1 6 + x) from sW_id (sS F 10 (M.1 6 + x)) 24] at L1
  rw [show sW (sS (sS M 0 0) 6 (M.1 6 + x)) 16 (M.2 16) = sS (sS M 0 0) 6 (M.1 6 + x) from sW_id (sS (sS M 0 0) 6 (M.1 6 + x)) 16] at L2
  rw [← q_0] at L1 L2
  rw [L1, L2, q_bd, r_ansF, q_b2]
  refine ⟨M.1 6 + x, _, _, rfl, rfl, Rel_tr 0 ⟨nk, nl, nr, nb, no, hK, hB, ⟨⟨e18, e21, e22, e23, ?_, e27, e26⟩, ⟨f9, m10, hnb, rfl⟩, h3, fun b hb => ⟨?_, (h4 b hb).2⟩, h5, h6⟩, hO, hE⟩⟩
  · show (fun b => if b < nb ∧ M.2 11 b = 1 ∧ 0 ≤ (F.2 25 b).toNatClampNeg then F.2 24 b + x else F.2 24 b) = (fun b => if 0 ≤ b ∧ b < nb ∧ M.2 11 b = 1 then M.2 16 b + x else M.2 16 b)
    rw [e24]
    funext b
    by_cases c : b < nb ∧ M.2 11 b = 1
    · rw [if_pos ⟨c.1, c.2, Nat.zero_le _⟩, if_pos ⟨Nat.zero_le _, c⟩]
    · rw [if_neg (fun v => c ⟨v.1, v.2.1⟩), if_neg (fun v => c v.2)]
  · show (if 0 ≤ b ∧ b < nb ∧ M.2 11 b = 1 then M.2 16 b + x else M.2 16 b) = 0
    rw [if_neg (by omega)]
    exact (h4 b hb).1
