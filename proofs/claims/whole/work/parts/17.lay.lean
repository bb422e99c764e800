/-! lay -/
def calm (M : Sg) (p : Nat) : Prop := M.2 17 p = -2 ∧ hh M (nI p - 1) = 0 ∧ hh M (nI p + 1) = 0
def fc (M : Sg) : Nat → Nat → Int32
  | 0, _ => -1
  | d + 1, p => if M.2 17 p = -2 ∧ hh M (nI p - 1) = 0 ∧ hh M (nI p + 1) = 0 then nI p else fc M d (p + 1)
def fck (M : Sg) : Nat → Int32
  | 0 => -1
  | k + 1 => if fck M k = -1 then (if M.2 17 k = -2 ∧ hh M (nI k - 1) = 0 ∧ hh M (nI k + 1) = 0 then nI k else -1) else fck M k
def lf (M : Sg) : Nat → Int32
  | 0 => -1
  | k + 1 => if M.2 17 k = -2 then nI k else lf M k
theorem m_1 (x : Int32) : x + (-1) = x - 1 := (Int32.sub_eq_add_neg x 1).symm
theorem fck_fc (M : Sg) : ∀ (d p : Nat), p + d < 2 ^ 31 → fck M (p + d) = if fck M p = -1 then fc M d p else fck M p := by
  intro d
  induction d with
  | zero =>
    intro p _
    by_cases c : fck M p = -1
    · rw [if_pos c]; exact c
    · rw [if_neg c]; rfl
  | succ d ih =>
    intro p hp
    rw [show p + (d + 1) = (p + 1) + d by omega, ih (p + 1) (by omega)]
    by_cases c : fck M p = -1
    · rw [if_pos c]
      rw [fc, fck, if_pos c]
      by_cases q : M.2 17 p = -2 ∧ hh M (nI p - 1) = 0 ∧ hh M (nI p + 1) = 0
      · rw [if_pos q, if_neg (q_m1 (by omega)), if_pos q]
      · rw [if_neg q, if_pos (show (-1 : Int32) = -1 from rfl), if_neg q]
    · rw [if_neg c, fck, if_neg c, if_neg c]
theorem fck_in (M : Sg) : ∀ k, fck M k = -1 ∨ ∃ q, q < k ∧ fck M k = nI q ∧ M.2 17 q = -2 := by
  intro k
  induction k with
  | zero => exact Or.inl rfl
  | succ k ih =>
    rw [fck]
    by_cases c : fck M k = -1
    · rw [if_pos c]
      by_cases q : M.2 17 k = -2 ∧ hh M (nI k - 1) = 0 ∧ hh M (nI k + 1) = 0
      · rw [if_pos q]; exact Or.inr ⟨k, by omega, rfl, q.1⟩
      · rw [if_neg q]; exact Or.inl rfl
    · rw [if_neg c]
      rcases ih with h | ⟨q, h1, h2⟩
      · exact absurd h c
      · exact Or.inr ⟨q, by omega, h2⟩
theorem lf_in (M : Sg) : ∀ k, lf M k = -1 ∨ ∃ q, q < k ∧ lf M k = nI q ∧ M.2 17 q = -2 := by
  intro k
  induction k with
  | zero => exact Or.inl rfl
  | succ k ih =>
    rw [lf]
    by_cases c : M.2 17 k = -2
    · rw [if_pos c]; exact Or.inr ⟨k, by omega, rfl, c⟩
    · rw [if_neg c]
      rcases ih with h | ⟨q, h1, h2⟩
      · exact Or.inl h
      · exact Or.inr ⟨q, by omega, h2⟩
theorem lf_L (M : Sg) (L : Int32) {k : Nat} (hk : k < 2 ^ 31) : (if (if M.2 17 k = -2 then (if L = -1 then nI k else L) else L) = -1 then lf M k else (if M.2 17 k = -2 then (if L = -1 then nI k else L) else L)) = (if L = -1 then lf M (k + 1) else L) := by
  by_cases c : L = -1
  · by_cases q : M.2 17 k = -2
    · simp only [lf, if_pos c, if_pos q, if_neg (q_m1 hk)]
    · simp only [lf, if_pos c, if_neg q]
  · by_cases q : M.2 17 k = -2
    · simp only [if_neg c, if_pos q]
    · simp only [if_neg c, if_neg q]
section LY
variable {F M : Sg} {nk nb : Nat}
theorem r_calm (hY : RYs F M nk nb) (hk : nk ≤ 5) : ∀ (d n p : Nat), p + d = 24 → d < n → pX6_firstCalmPlace_l2 F n (nI p) = some (fc M d p) := by
  have e27 : F.2 27 = M.2 17 := hY.1.2.2.2.2.2.1
  intro d
  induction d with
  | zero =>
    intro n p hp hd
    obtain ⟨n, rfl⟩ : ∃ k, n = k + 1 := ⟨n - 1, by omega⟩
    obtain rfl : p = 24 := by omega
    rw [pX6_firstCalmPlace_l2, if_pos (by decide)]
    rfl
  | succ d ih =>
    intro n p hp hd
    obtain ⟨n, rfl⟩ : ∃ k, n = k + 1 := ⟨n - 1, by omega⟩
    have I := ih n (p + 1) (by omega) (by omega)
    rw [pX6_firstCalmPlace_l2, if_neg (show ¬ (24 : Int32) ≤ nI p from nI_ge (b := 24) (by omega) (by decide)), fc, e27]
    simp only [q_ckn (show p < 24 by omega) (by decide), q_cl (show p < 2 ^ 31 by omega), r_hhF hY hk, q_bd, q_vl]
    rw [nI_1 p]
    rw [I]
    by_cases c1 : M.2 17 p = -2
    · rw [if_pos c1]
      by_cases c2 : hh M (nI p - 1) = 0
      · rw [if_pos c2]
        by_cases c3 : hh M (nI (p + 1)) = 0
        · rw [if_pos c3, if_pos ⟨c1, c2, c3⟩]
        · rw [if_neg c3, if_neg (fun q => c3 q.2.2)]
      · rw [if_neg c2, if_neg (fun q => c2 q.2.1)]
    · rw [if_neg c1, if_neg (fun q => c1 q.1)]
theorem r_last (hY : RYs F M nk nb) : ∀ (k n : Nat), k ≤ 24 → k < n → pX6_lastFreePlace_l3 F n (nI k - 1) = some (lf M k) := by
  have e27 : F.2 27 = M.2 17 := hY.1.2.2.2.2.2.1
  intro k
  induction k with
  | zero =>
    intro n hk hd
    obtain ⟨n, rfl⟩ : ∃ k, n = k + 1 := ⟨n - 1, by omega⟩
    rw [pX6_lastFreePlace_l3, if_pos (by decide)]
    rfl
  | succ k ih =>
    intro n hk hd
    obtain ⟨n, rfl⟩ : ∃ k, n = k + 1 := ⟨n - 1, by omega⟩
    have I := ih n (by omega) (by omega)
    rw [pX6_lastFreePlace_l3, nI_pred, if_neg (nI_pos (by omega)), lf, e27, q_ckn (by omega) (by decide), q_cl (by omega), q_vl, m_1, I]
    by_cases c1 : M.2 17 k = -2
    · rw [if_pos c1, if_pos c1]
    · rw [if_neg c1, if_neg c1]
theorem layM_l (hY : RYs F M nk nb) (hk : nk ≤ 5) (K : Sg → Int32 → Int32 → Option (Int32 × Sg)) (x1 x2 : Int32) : ∀ (k n : Nat) (A L : Int32), k ≤ 24 → k < n →
    pX8_lay_l38 K n M x1 x2 A L (nI k - 1) = pX8_lay_l38 K 1 M x1 x2 (if fck M k = -1 then A else fck M k) (if L = -1 then lf M k else L) (-1) := by
  intro k
  induction k with
  | zero =>
    intro n A L hk hd
    obtain ⟨n, rfl⟩ : ∃ k, n = k + 1 := ⟨n - 1, by omega⟩
    rw [pX8_lay_l38, pX8_lay_l38, if_pos (show nI 0 - 1 < (0 : Int32) by decide), if_pos (show (-1 : Int32) < (0 : Int32) by decide), if_pos (show fck M 0 = -1 from rfl)]
    by_cases c : L = -1
    · rw [if_pos c, c]; rfl
    · rw [if_neg c]
  | succ k ih =>
    intro n A L hk24 hd
    obtain ⟨n, rfl⟩ : ∃ k, n = k + 1 := ⟨n - 1, by omega⟩
    rw [show pX8_lay_l38 K (n + 1) M x1 x2 A L (nI (k + 1) - 1) = pX8_lay_l38 K n M x1 x2 (if M.2 17 k = -2 ∧ hh M (nI k - 1) = 0 ∧ hh M (nI k + 1) = 0 then nI k else A) (if M.2 17 k = -2 then (if L = -1 then nI k else L) else L) (nI k - 1) from ?_, ih n _ _ (by omega) (by omega)]
    · congr 1
      · rw [fck]
        by_cases c : fck M k = -1
        · rw [if_pos c, if_pos c]
          by_cases q : M.2 17 k = -2 ∧ hh M (nI k - 1) = 0 ∧ hh M (nI k + 1) = 0
          · rw [if_pos q, if_pos q, if_neg (q_m1 (by omega))]
          · rw [if_neg q, if_neg q, if_pos (show (-1 : Int32) = -1 from rfl)]
        · rw [if_neg c, if_neg c, if_neg c]
      · exact lf_L M L (by omega)
    · rw [pX8_lay_l38, nI_pred, if_neg (nI_pos (by omega))]
      simp only [q_ckn (show k < 24 by omega) (by decide), q_cl (show k < 2 ^ 31 by omega), r_hhM hY hk, q_bd, q_vl, m_1]
      by_cases c1 : M.2 17 k = -2
      · simp only [if_pos c1]
        by_cases c2 : hh M (nI k - 1) = 0
        · simp only [if_pos c2]
          by_cases c3 : hh M (nI k + 1) = 0
          · simp only [if_pos c3, if_pos (And.intro c1 (And.intro c2 c3))]
            by_cases c : L = -1
            · rw [if_pos c, if_pos c]
            · rw [if_neg c, if_neg c]
          · simp only [if_neg c3, if_neg (show ¬ (M.2 17 k = -2 ∧ hh M (nI k - 1) = 0 ∧ hh M (nI k + 1) = 0) from fun q => c3 q.2.2)]
            by_cases c : L = -1
            · rw [if_pos c, if_pos c]
            · rw [if_neg c, if_neg c]
        · simp only [if_neg c2, if_neg (show ¬ (M.2 17 k = -2 ∧ hh M (nI k - 1) = 0 ∧ hh M (nI k + 1) = 0) from fun q => c2 q.2.1)]
          by_cases c : L = -1
          · rw [if_pos c, if_pos c]
          · rw [if_neg c, if_neg c]
      · simp only [if_neg c1, if_neg (show ¬ (M.2 17 k = -2 ∧ hh M (nI k - 1) = 0 ∧ hh M (nI k + 1) = 0) from fun q => c1 q.1)]
end LY
theorem RY_in {F18 F19 F20 F21 F22 F23 F24 F25 F26 F27 : Nat → Int32} {f9 f10 : Int32} {M1 M2 M11 M12 M13 M14 M15 M16 M17 M26 : Nat → Int32} {m10 m6 : Int32} {nk nb b p : Nat} (h : RY F18 F19 F20 F21 F22 F23 F24 F25 F26 F27 f9 f10 M1 M2 M11 M12 M13 M14 M15 M16 M17 M26 m10 m6 nk nb) (hb : b < nb) (hp : p < 24) (h1 : M11 b = 0) (h17 : M17 p = -2) : RY F18 F19 F20 F21 F22 F23 F24 (upd F25 b (nI p)) F26 (upd F27 p (nI b)) f9 f10 M1 M2 (upd M11 b 1) M12 M13 M14 M15 M16 (upd M17 p (nI b)) M26 m10 m6 nk nb := by
  obtain ⟨⟨e18, e21, e22, e23, e24, e27, e26⟩, ⟨f9, m10, hnb, f10⟩, h3, h4, h5, h6⟩ := h
  refine ⟨⟨e18, e21, e22, e23, e24, by rw [e27], e26⟩, ⟨f9, m10, hnb, f10⟩, h3, h4, fun q hq => ?_, fun c hc => ?_⟩
  · by_cases e : q = p
    · subst e; exact Or.inr ⟨b, hb, pk_us, pk_us, pk_us⟩
    · rw [pk_un e]
      rcases h5 q hq with a | ⟨b2, a1, a2, a3, a4⟩
      · exact Or.inl a
      · have hne : b2 ≠ b := fun z => by
          subst z
          rw [h1] at a3
          exact absurd a3 (by decide)
        exact Or.inr ⟨b2, a1, a2, by rw [pk_un hne]; exact a3, by rw [pk_un hne]; exact a4⟩
  · by_cases e : c = b
    · subst e
      refine Or.inr (Or.inl ⟨pk_us, ?_, p, hp, pk_us, pk_us⟩)
      rcases h6 c hc with ⟨a1, a2, a3⟩ | ⟨a1, a3, a4⟩ | ⟨a1, a2, a3⟩
      · exact a3
      · exact a3
      · rw [h1] at a1; exact absurd a1 (by decide)
    · rw [pk_un e, pk_un e]
      rcases h6 c hc with a | ⟨a1, a3, q, hq, a2, a4⟩ | a
      · exact Or.inl a
      · refine Or.inr (Or.inl ⟨a1, a3, q, hq, a2, ?_⟩)
        have hne : q ≠ p := fun z => by
          subst z
          rw [h17] at a4
          exact q_m2 (n := c) (by omega) a4.symm
        rw [pk_un hne]
        exact a4
      · exact Or.inr (Or.inr a)
abbrev RelN (F M : Sg) (nk nl nr nb no : Nat) : Prop := RKs F M nk nl ∧ RBs F M nk nr ∧ RYs F M nk nb ∧ ROs F M nb no ∧ REs F M
theorem Rel_in {F M : Sg} {nk nl nr nb no b p : Nat} (h : RelN F M nk nl nr nb no) (hb : b < nb) (hp : p < 24) (h1 : M.2 11 b = 0) (h17 : M.2 17 p = -2) : RelN (sA (sA F 27 (nI p) (nI b)) 25 (nI b) (nI p)) (sA (sA M 17 (nI p) (nI b)) 11 (nI b) 1) nk nl nr nb no := by
  obtain ⟨hK, hB, hY, hO, hE⟩ := h
  have hnb : nb ≤ 200 := hY.2.1.2.2.1
  refine ⟨hK, hB, ?_, ?_, hE⟩
  · show RY (F.2 18) (F.2 19) (F.2 20) (F.2 21) (F.2 22) (F.2 23) (F.2 24) (upd (F.2 25) (nI b).toNatClampNeg (nI p)) (F.2 26) (upd (F.2 27) (nI p).toNatClampNeg (nI b)) (F.1 9) (F.1 10) (M.2 1) (M.2 2) (upd (M.2 11) (nI b).toNatClampNeg 1) (M.2 12) (M.2 13) (M.2 14) (M.2 15) (M.2 16) (upd (M.2 17) (nI p).toNatClampNeg (nI b)) (M.2 26) (M.1 10) (M.1 6) nk nb
    rw [q_cl (by omega), q_cl (by omega)]
    exact RY_in hY hb hp h1 h17
  · refine RO_state (M11 := M.2 11) (fun c hc => ?_) hO
    show upd (M.2 11) (nI b).toNatClampNeg 1 c = 2 ↔ _
    rw [q_cl (by omega)]
    by_cases e : c = b
    · rw [e, pk_us, h1]; decide
    · rw [pk_un e]
theorem lay_l {nk nl nr nb no : Nat} : ∀ (d n m i : Nat) (a : Int32) (F M : Sg), RelN F M nk nl nr nb no → i + d = nb → d < n → d < m →
    ∃ r F2 M2, pX6_layAll_l4 n F a (nI i) = some (r, F2) ∧ pX8_lay_l9 m M a (nI i) = some (r, M2) ∧ RelN F2 M2 nk nl nr nb no := by
  intro d
  induction d with
  | zero =>
    intro n m i a F M h hi hn hm
    obtain ⟨⟨e18, e21, e22, e23, e24, e27, e26⟩, ⟨f9, m10, hnb, f10⟩, h3, h4, h5, h6⟩ := id h.2.2.1
    obtain ⟨n, rfl⟩ : ∃ k, n = k + 1 := ⟨n - 1, by omega⟩
    obtain ⟨m, rfl⟩ : ∃ k, m = k + 1 := ⟨m - 1, by omega⟩
    obtain rfl : i = nb := by omega
    refine ⟨a, F, M, ?_, ?_, h⟩
    · rw [pX6_layAll_l4, f9, if_pos (nI_le (Nat.le_refl _) (by omega))]
    · rw [pX8_lay_l9, m10, if_pos (nI_le (Nat.le_refl _) (by omega))]
  | succ d ih =>
    intro n m i a F M h hi hn hm
    have hY := h.2.2.1
    have hk5 : nk ≤ 5 := h.1.2.2.1.2.2.1
    obtain ⟨⟨e18, e21, e22, e23, e24, e27, e26⟩, ⟨f9, m10, hnb, f10⟩, h3, h4, h5, h6⟩ := id hY
    obtain ⟨n, rfl⟩ : ∃ k, n = k + 1 := ⟨n - 1, by omega⟩
    obtain ⟨m, rfl⟩ : ∃ k, m = k + 1 := ⟨m - 1, by omega⟩
    have hib : i < nb := by omega
    obtain ⟨k, hk, hkk, -⟩ := y_kind hY hk5 hib
    rw [pX6_layAll_l4, pX8_lay_l9, f9, m10, if_neg (lp_c (by omega) (by omega)), if_neg (lp_c (by omega) (by omega)), r_state hY hib, q_bd, q_ckn (show i < 200 by omega) (by decide), q_cl (by omega)]
    by_cases c0 : M.2 11 i = 0
    · rw [if_pos c0, if_pos c0, q_vl, q_vl, q_vl]
      have LM := layM_l hY hk5 (pX8_lay_l9 m) a (nI i) 24 5000 (-1) (-1) (by omega) (by omega)
      rw [show nI 24 - 1 = (23 : Int32) from by decide] at LM
      have hF1 : pX6_firstCalmPlace F = some (fck M 24) := by
        unfold pX6_firstCalmPlace
        have e := fck_fc M 24 0 (by decide)
        rw [if_pos (show fck M 0 = -1 from rfl), Nat.zero_add] at e
        rw [q_vl, e]
        exact r_calm hY hk5 24 5000 0 (by omega) (by omega)
      have hF2 : pX6_lastFreePlace F = some (lf M 24) := by
        unfold pX6_lastFreePlace
        have e := r_last hY 24 5000 (by omega) (by omega)
        rw [show nI 24 - 1 = (23 : Int32) from by decide] at e
        rw [q_vl, e]
      have hf1 := fck_in M 24
      have hf2 := lf_in M 24
      rw [LM, if_pos (show (-1 : Int32) = -1 from rfl)]
      clear LM
      generalize fck M 24 = A at hF1 hf1 ⊢
      generalize lf M 24 = L at hF2 hf2 ⊢
      have hA : (if A = -1 then (-1) else A) = A := by
        by_cases c : A = -1
        · rw [if_pos c, c]
        · rw [if_neg c]
      rw [hA]
      unfold pX6_layOne
      rw [hF1, q_bd, q_vl, pX8_lay_l38, if_pos (show (-1 : Int32) < (0 : Int32) by decide)]
      by_cases cA : A = -1
      · simp only [if_pos cA]
        rw [r_hotF hY hk5 hib, r_hotM (by omega) hk hkk, q_bd, q_bd]
        by_cases cH : hot M i = 0
        · rw [if_pos cH, if_pos cH, hF2, q_bd, q_vl, q_vl]
          rcases hf2 with z | ⟨q, hq, z1, z2⟩
          · rw [if_pos z, if_pos z, q_cb0, q_b2, if_pos (show (0 : Int32) = 0 from rfl), q_vl, q_vl, nI_1]
            exact ih n m (i + 1) a F M h (by omega) (by omega) (by omega)
          · rw [z1, if_neg (q_m1 (by omega)), if_neg (q_m1 (by omega))]
            simp only [q_ckn hq (by decide), q_ckn (show i < 200 by omega) (by decide), q_st, q_vl, q_cb1, q_b2]
            rw [if_neg (by decide), nI_1]
            exact ih n m (i + 1) _ _ _ (Rel_in h hib hq c0 z2) (by omega) (by omega) (by omega)
        · rw [if_neg cH, if_neg cH, q_cb0, q_b2, if_pos (show (0 : Int32) = 0 from rfl), q_vl, q_vl, nI_1]
          exact ih n m (i + 1) a F M h (by omega) (by omega) (by omega)
      · simp only [if_neg cA]
        rcases hf1 with z | ⟨q, hq, z1, z2⟩
        · exact absurd z cA
        · rw [z1]
          simp only [q_ckn hq (by decide), q_ckn (show i < 200 by omega) (by decide), q_st, q_vl, q_cb1, q_b2]
          rw [if_neg (by decide), nI_1]
          exact ih n m (i + 1) _ _ _ (Rel_in h hib hq c0 z2) (by omega) (by omega) (by omega)
    · rw [if_neg c0, if_neg c0, q_vl, q_vl, nI_1]
      exact ih n m (i + 1) a F M h (by omega) (by omega) (by omega)
theorem op_lay {F M : Sg} (h : Rel F M) : Sim (pX7_lay F) (pX8_lay M) := by
  obtain ⟨nk, nl, nr, nb, no, hR⟩ := id h
  have hnb : nb ≤ 200 := hR.2.2.1.2.1.2.2.1
  obtain ⟨r, F2, M2, t1, t2, t3⟩ := lay_l (nk := nk) (nl := nl) (nr := nr) (nb := nb) (no := no) nb 5000 5000 0 0 F (sS M 0 0) hR (by omega) (by omega) (by omega)
  unfold pX7_lay pX8_lay pX6_layAll
  simp only [q_st, q_vl]
  rw [← q_0] at t1 t2
  rw [t1, t2, q_b2]
  exact ⟨r, F2, M2, rfl, rfl, nk, nl, nr, nb, no, t3⟩
