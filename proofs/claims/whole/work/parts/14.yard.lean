/-! blocks: core, hot, cured, places -/
def cre (M : Sg) (b : Nat) : Int32 := if 20 < M.2 1 (M.2 12 b).toNatClampNeg - M.2 2 (M.2 12 b).toNatClampNeg * (M.1 6 - M.2 15 b) then M.2 1 (M.2 12 b).toNatClampNeg - M.2 2 (M.2 12 b).toNatClampNeg * (M.1 6 - M.2 15 b) else 20
def hot (M : Sg) (b : Nat) : Int32 := if cre M b ≤ 60 then 0 else 1
def cur (M : Sg) (b : Nat) : Int32 := if M.2 11 b = 2 then 0 else if M.2 16 b < 24 then 0 else if hot M b = 0 then 1 else 0
def hh (M : Sg) (x : Int32) : Int32 := if inb x 0 23 = 0 then 0 else if M.2 17 x.toNatClampNeg = -2 then 0 else hot M (M.2 17 x.toNatClampNeg).toNatClampNeg
theorem hot01 (M : Sg) (b : Nat) : hot M b = 0 ∨ hot M b = 1 := by unfold hot; split <;> simp
theorem r_coreM {M : Sg} {b k : Nat} (hb : b < 200) (hk : k < 5) (h : M.2 12 b = nI k) : pX8_coreOf M (nI b) = some (cre M b) := by
  unfold pX8_coreOf cre
  simp only [q_ckn hb (by decide), q_cl (show b < 2 ^ 31 by omega), h, q_ckn hk (by decide)]
theorem r_hotM {M : Sg} {b k : Nat} (hb : b < 200) (hk : k < 5) (h : M.2 12 b = nI k) : pX8_isHot M (nI b) = some (hot M b) := by
  unfold pX8_isHot hot
  rw [r_coreM hb hk h, q_bd, q_cb0, q_cb1]
  split <;> rfl
theorem r_curM {M : Sg} {b k : Nat} (hb : b < 200) (hk : k < 5) (h : M.2 12 b = nI k) : pX8_isCured M (nI b) = some (cur M b) := by
  unfold pX8_isCured cur
  simp only [q_ckn hb (by decide), q_cl (show b < 2 ^ 31 by omega), r_hotM hb hk h, q_bd, q_cb0, q_cb1]
  split
  · rfl
  · split
    · rfl
    · split <;> rfl
section YY
variable {F M : Sg} {nk nb : Nat}
theorem y_kind (hY : RYs F M nk nb) (hk : nk ≤ 5) {b : Nat} (hb : b < nb) : ∃ k, k < 5 ∧ M.2 12 b = nI k ∧ F.2 19 b = M.2 1 k ∧ F.2 20 b = M.2 2 k := by
  obtain ⟨k, h1, h2⟩ := hY.2.2.1 b hb
  exact ⟨k, by omega, h2⟩
theorem r_state (hY : RYs F M nk nb) {b : Nat} (hb : b < nb) : pX6_state F (nI b) = some (M.2 11 b) := by
  obtain ⟨⟨e18, e21, e22, e23, e24, e27, e26⟩, ⟨f9, m10, hnb, f10⟩, h3, h4, h5, h6⟩ := hY
  unfold pX6_state
  simp only [q_ckn (show b < 200 by omega) (by decide), q_cl (show b < 2 ^ 31 by omega)]
  rcases h6 b hb with ⟨a1, a2, a3⟩ | ⟨a1, a3, p, hp, a2, a4⟩ | ⟨a1, a2, t, ht1, ht2, a3⟩
  · rw [e26, a3, a2, if_pos (by decide), if_pos rfl, a1]
  · rw [e26, a3, a2, if_pos (by decide), if_neg (q_m1 (by omega)), a1]
  · rw [e26, a3, if_neg (by exact nI_nle (by omega) (by omega)), a1]
theorem r_coreF (hY : RYs F M nk nb) (hk : nk ≤ 5) {b : Nat} (hb : b < nb) : pX6_core F (nI b) = some (cre M b) := by
  obtain ⟨k, hk5, hkk, h19, h20⟩ := y_kind hY hk hb
  obtain ⟨⟨e18, e21, e22, e23, e24, e27, e26⟩, ⟨f9, m10, hnb, f10⟩, -⟩ := hY
  unfold pX6_core cre
  simp only [q_ckn (show b < 200 by omega) (by decide), q_cl (show b < 2 ^ 31 by omega), h19, h20, f10, e23, hkk, q_cl (show k < 2 ^ 31 by omega), q_vl]
  generalize M.2 1 k - M.2 2 k * (M.1 6 - M.2 15 b) = e
  by_cases c : 20 < e
  · rw [if_pos c, if_pos (Int32.le_of_lt c)]
  · rw [if_neg c]
    by_cases d : 20 ≤ e
    · rw [if_pos d]
      have : e = 20 := Int32.le_antisymm (Int32.not_lt.mp c) d
      rw [this]
    · rw [if_neg d]
theorem r_hotF (hY : RYs F M nk nb) (hk : nk ≤ 5) {b : Nat} (hb : b < nb) : pX6_isHot F (nI b) = some (hot M b) := by
  unfold pX6_isHot hot
  rw [r_coreF hY hk hb, q_bd, q_cb0, q_cb1]
  split <;> rfl
theorem r_curF (hY : RYs F M nk nb) (hk : nk ≤ 5) {b : Nat} (hb : b < nb) : pX6_isCured F (nI b) = some (cur M b) := by
  unfold pX6_isCured cur
  have hnb : nb ≤ 200 := hY.2.1.2.2.1
  have e24 : F.2 24 = M.2 16 := hY.1.2.2.2.2.1
  simp only [r_state hY hb, q_bd, q_ckn (show b < 200 by omega) (by decide), q_cl (show b < 2 ^ 31 by omega), r_hotF hY hk hb, q_cb0, q_cb1, e24]
  split
  · rfl
  · split
    · rfl
    · split <;> rfl
theorem hh_p (M : Sg) {x : Int32} (h : inb x 0 23 = 0) : hh M x = 0 := by unfold hh; rw [if_pos h]
theorem r_hhM (hY : RYs F M nk nb) (hk : nk ≤ 5) (x : Int32) : pX8_hasHot M x = some (hh M x) := by
  unfold pX8_hasHot hh
  rw [r_in, q_bd]
  by_cases c : inb x 0 23 = 0
  · rw [if_pos c, if_pos c, q_cb0]
  · rw [if_neg c, if_neg c]
    obtain ⟨p, -, hp, rfl⟩ := inb_n (a := 0) (b := 23) c (by decide) (by decide)
    simp only [q_ckn (show p < 24 by omega) (by decide), q_cl (show p < 2 ^ 31 by omega)]
    rcases hY.2.2.2.2.1 p (by omega) with q | ⟨b, hb, q1, q2, q3⟩
    · rw [if_pos q, if_pos q, q_cb0]
    · have hnb : nb ≤ 200 := hY.2.1.2.2.1
      obtain ⟨k, hk5, hkk, -⟩ := y_kind hY hk hb
      rw [q1, if_neg (q_m2 (by omega)), if_neg (q_m2 (by omega)), r_hotM (by omega) hk5 hkk, q_bd, q_cl (by omega), q_cb0, q_cb1]
      rcases hot01 M b with z | z <;> rw [z] <;> rfl
theorem r_hhF (hY : RYs F M nk nb) (hk : nk ≤ 5) (x : Int32) : pX6_hasHot F x = some (hh M x) := by
  unfold pX6_hasHot
  have e27 : F.2 27 = M.2 17 := hY.1.2.2.2.2.2.1
  by_cases c : inb x 0 23 = 0
  · rw [hh_p M c]
    unfold inb at c
    by_cases c1 : x < 0
    · rw [if_pos c1, q_cb0]
    · rw [if_neg c1] at c ⊢
      by_cases c2 : 23 < x
      · rw [if_pos, q_cb0]
        rw [Int32.le_iff_toInt_le]
        have := Int32.lt_iff_toInt_lt.mp c2
        have e1 : (23 : Int32).toInt = 23 := by decide
        have e2 : (24 : Int32).toInt = 24 := by decide
        omega
      · rw [if_neg c2] at c
        exact absurd c (by decide)
  · obtain ⟨p, -, hp, rfl⟩ := inb_n (a := 0) (b := 23) c (by decide) (by decide)
    rw [if_neg (nI_pos (by omega)), if_neg (show ¬ 24 ≤ nI p from nI_ge (b := 24) (by omega) (by decide))]
    unfold hh
    rw [if_neg c]
    simp only [q_ckn (show p < 24 by omega) (by decide), q_cl (show p < 2 ^ 31 by omega), e27]
    rcases hY.2.2.2.2.1 p (by omega) with q | ⟨b, hb, q1, q2, q3⟩
    · rw [if_pos q, if_pos q, q_cb0]
    · have hnb : nb ≤ 200 := hY.2.1.2.2.1
      rw [q1, if_neg (q_m2 (by omega)), if_neg (q_m2 (by omega)), r_hotF hY hk hb, q_bd, q_cl (by omega), q_cb0, q_cb1]
      rcases hot01 M b with z | z <;> rw [z] <;> rfl
/-- the place of a block, found by the reference -/
theorem r_placeOf_l (hY : RYs F M nk nb) {b : Nat} (hb : b < nb) : ∀ (d n p : Nat), p + d = 24 → d < n → (∀ q, q < p → ¬ M.2 17 q = nI b) → pX8_placeOf_l2 M n (nI b) (nI p) = some (F.2 25 b) := by
  obtain ⟨-, ⟨f9, m10, hnb, f10⟩, h3, h4, h5, h6⟩ := hY
  intro d
  induction d with
  | zero =>
    intro n p hp hn hq
    obtain ⟨n, rfl⟩ : ∃ k, n = k + 1 := ⟨n - 1, by omega⟩
    obtain rfl : p = 24 := by omega
    rw [pX8_placeOf_l2, if_pos (show (24 : Int32) ≤ nI 24 from nI_le (Nat.le_refl 24) (by decide))]
    rcases h6 b hb with ⟨a1, a2, a3⟩ | ⟨a1, a3, p, hp, a2, a4⟩ | ⟨a1, a2, t, ht1, ht2, a3⟩
    · rw [a2]
    · exact absurd a4 (hq p hp)
    · rw [a2]
  | succ d ih =>
    intro n p hp hn hq
    obtain ⟨n, rfl⟩ : ∃ k, n = k + 1 := ⟨n - 1, by omega⟩
    rw [pX8_placeOf_l2, if_neg (show ¬ (24 : Int32) ≤ nI p from nI_ge (b := 24) (by omega) (by decide)), q_ckn (by omega) (by decide), q_cl (by omega)]
    by_cases c : M.2 17 p = nI b
    · rw [if_pos c]
      rcases h5 p (by omega) with q | ⟨b2, hb2, q1, q2, q3⟩
      · rw [c] at q; exact absurd q (q_m2 (by omega))
      · have : b2 = b := (nI_eq (by omega) (by omega)).mp (q1.symm.trans c)
        subst this
        rw [q3]
    · rw [if_neg c, q_vl, nI_1]
      refine ih n (p + 1) (by omega) (by omega) (fun q hq2 => ?_)
      by_cases hqp : q = p
      · rw [hqp]; exact c
      · exact hq q (by omega)
theorem r_placeOf (hY : RYs F M nk nb) {b : Nat} (hb : b < nb) : pX8_placeOf M (nI b) = some (F.2 25 b) := by
  unfold pX8_placeOf
  rw [q_vl]
  exact r_placeOf_l hY hb 24 5000 0 (by omega) (by omega) (fun q hq => by omega)
end YY
theorem op_block {F M : Sg} (h : Rel F M) (x y : Int32) : SimP F (pX7_block F x y) (pX8_block M x y) := by
  obtain ⟨nk, nl, nr, nb, no, hK, hB, hY, hO, hE⟩ := id h
  have hY0 : RYs F (sS M 0 0) nk nb := hY
  have hk5 : nk ≤ 5 := hK.2.2.1.2.2.1
  obtain ⟨⟨e18, e21, e22, e23, e24, e27, e26⟩, ⟨f9, m10, hnb, f10⟩, -⟩ := id hY
  unfold pX7_block pX8_block
  simp only [q_st, r_has6, q_bd, sS_2, sS_1, Nat.reduceEqDiff, reduceIte, f9, m10, e18, e21, e22, e24]
  by_cases c : hsb x (nI nb) = 0
  · rw [if_pos c]
    rcases hsb_0 c (by omega) with q | q
    · rw [if_pos q]
      exact ⟨_, _, rfl, rfl, Rel_t 0 h⟩
    · rw [if_neg q]
      by_cases q2 : x < 0
      · rw [if_pos q2]; exact ⟨_, _, rfl, rfl, Rel_t 0 h⟩
      · rw [if_neg q2]; exact ⟨_, _, rfl, rfl, Rel_t 0 h⟩
  · rw [if_neg c]
    obtain ⟨i, hi, rfl⟩ := hsb_n (by omega) c
    rw [if_neg (nI_pos (by omega)), if_pos (nI_lt hi (by omega))]
    obtain ⟨k, hk, hkk, -⟩ := y_kind hY0 hk5 hi
    simp only [q_ckn (show i < 200 by omega) (by decide), r_state hY hi, r_coreF hY hk5 hi, r_curF hY hk5 hi, r_coreM (M := sS M 0 0) (show i < 200 by omega) hk hkk, r_curM (M := sS M 0 0) (show i < 200 by omega) hk hkk, r_placeOf hY0 hi, q_bd, q_cl (show i < 2 ^ 31 by omega)]
    refine SimP_ite (fun _ => ⟨_, _, rfl, rfl, Rel_t 0 h⟩) (fun _ => SimP_ite (fun _ => ⟨_, _, rfl, rfl, Rel_t 0 h⟩) (fun _ => SimP_ite (fun _ => ⟨_, _, rfl, rfl, Rel_t 0 h⟩) (fun _ => SimP_ite (fun _ => ⟨_, _, rfl, rfl, Rel_t 0 h⟩) (fun _ => SimP_ite (fun _ => ⟨_, _, rfl, rfl, Rel_t 0 h⟩) (fun _ => SimP_ite (fun _ => ?_) (fun _ => SimP_ite (fun _ => ⟨_, _, rfl, rfl, Rel_t 0 h⟩) (fun _ => SimP_ite (fun _ => ⟨_, _, rfl, rfl, Rel_t 0 h⟩) (fun _ => ⟨_, _, rfl, rfl, Rel_t 0 h⟩))))))))
    exact SimP_ite (fun _ => ⟨_, _, rfl, rfl, Rel_t 0 h⟩) (fun _ => ⟨_, _, rfl, rfl, Rel_t 0 h⟩)
