/-! fill: which blocks -/
def bst (P : Nat → Bool) (hr : Nat → Int32) : Nat → Int32
  | 0 => -1
  | b + 1 => if P b = true then (if bst P hr b = -1 then nI b else if hr b ≤ hr (bst P hr b).toNatClampNeg then bst P hr b else nI b) else bst P hr b
theorem bst_in (P : Nat → Bool) (hr : Nat → Int32) : ∀ n, bst P hr n = -1 ∨ ∃ q, q < n ∧ bst P hr n = nI q ∧ P q = true := by
  intro n
  induction n with
  | zero => exact Or.inl rfl
  | succ n ih =>
    have I2 : bst P hr n = -1 ∨ ∃ q, q < n + 1 ∧ bst P hr n = nI q ∧ P q = true := by
      rcases ih with h | ⟨q, h1, h2⟩
      · exact Or.inl h
      · exact Or.inr ⟨q, by omega, h2⟩
    rw [bst]
    by_cases c : P n = true
    · rw [if_pos c]
      by_cases d : bst P hr n = -1
      · rw [if_pos d]; exact Or.inr ⟨n, by omega, rfl, c⟩
      · rw [if_neg d]
        by_cases e : hr n ≤ hr (bst P hr n).toNatClampNeg
        · rw [if_pos e]; exact I2
        · rw [if_neg e]; exact Or.inr ⟨n, by omega, rfl, c⟩
    · rw [if_neg c]; exact I2
theorem bst_none {P : Nat → Bool} {hr : Nat → Int32} : ∀ n, n < 2 ^ 31 → bst P hr n = -1 → ct P n = 0 := by
  intro n
  induction n with
  | zero => intro _ _; rfl
  | succ n ih =>
    intro hn h
    rw [bst] at h
    by_cases c : P n = true
    · rw [if_pos c] at h
      by_cases d : bst P hr n = -1
      · rw [if_pos d] at h; exact absurd h (q_m1 (by omega))
      · rw [if_neg d] at h
        by_cases e : hr n ≤ hr (bst P hr n).toNatClampNeg
        · rw [if_pos e] at h; exact absurd h d
        · rw [if_neg e] at h; exact absurd h (q_m1 (by omega))
    · rw [if_neg c] at h
      rw [ct, ih (by omega) h, if_neg c]
theorem bst_some {P : Nat → Bool} {hr : Nat → Int32} {n : Nat} (hc : ct P n = 0) : bst P hr n = -1 := by
  have : ∀ m, ct P m = 0 → bst P hr m = -1 := by
    intro m
    induction m with
    | zero => intro _; rfl
    | succ m ih =>
      intro h
      rw [ct] at h
      by_cases c : P m = true
      · rw [if_pos c] at h; omega
      · rw [if_neg c] at h
        rw [bst, if_neg c]
        exact ih (by omega)
  exact this n hc
theorem bst_congr {P Q : Nat → Bool} {hr : Nat → Int32} : ∀ n, (∀ b, b < n → P b = Q b) → bst P hr n = bst Q hr n := by
  intro n
  induction n with
  | zero => intro _; rfl
  | succ n ih =>
    intro h
    rw [bst, bst, ih (fun b hb => h b (by omega)), h n (by omega)]
theorem ct_del {P : Nat → Bool} {p : Nat} (hp : P p = true) : ∀ n, p < n → ct P n = ct (fun b => P b && (b != p)) n + 1 := by
  intro n
  induction n with
  | zero => intro h; omega
  | succ n ih =>
    intro h
    rw [ct, ct]
    by_cases e : p = n
    · subst e
      rw [ct_congr (P := fun b => P b && (b != p)) (Q := P) (fun b hb => by
        have : (b != p) = true := bne_iff_ne.mpr (by omega)
        simp [this])]
      simp [hp]
    · have h2 : (n != p) = true := bne_iff_ne.mpr (fun q => e q.symm)
      rw [ih (by omega)]
      simp only [h2, Bool.and_true]
      omega
theorem ct_le (P : Nat → Bool) : ∀ n, ct P n ≤ n := by
  intro n
  induction n with
  | zero => exact Nat.le_refl _
  | succ n ih => rw [ct]; split <;> omega
/-- blocks, one behind the other, each the longest in places of those that are left -/
def Pck (hr : Nat → Int32) (nb : Nat) : Nat → (Nat → Bool) → (Nat → Nat) → Prop
  | 0, _, _ => True
  | c + 1, P, pl => bst P hr nb = nI (pl 0) ∧ pl 0 < nb ∧ P (pl 0) = true ∧ Pck hr nb c (fun b => P b && (b != pl 0)) (fun j => pl (j + 1))
theorem Pck_ex {hr : Nat → Int32} {nb : Nat} (hn : nb < 2 ^ 31) : ∀ (c : Nat) (P : Nat → Bool), c ≤ ct P nb → ∃ pl, Pck hr nb c P pl := by
  intro c
  induction c with
  | zero => intro P _; exact ⟨fun _ => 0, trivial⟩
  | succ c ih =>
    intro P hc
    rcases bst_in P hr nb with h | ⟨q, h1, h2, h3⟩
    · have := bst_none (P := P) (hr := hr) nb hn h
      omega
    · have hd := ct_del h3 nb h1
      obtain ⟨pl, hp⟩ := ih (fun b => P b && (b != q)) (by omega)
      exact ⟨fun j => if j = 0 then q else pl (j - 1), h2, h1, h3, hp⟩
def candb (M : Sg) (kd ln : Int32) (b : Nat) : Bool := decide (M.2 12 b = kd ∧ M.2 13 b = ln ∧ cur M b = 1)
theorem cur01 (M : Sg) (b : Nat) : cur M b = 0 ∨ cur M b = 1 := by
  unfold cur
  split
  · exact Or.inl rfl
  · split
    · exact Or.inl rfl
    · split
      · exact Or.inr rfl
      · exact Or.inl rfl
section FI
variable {F M : Sg} {nk nb : Nat}
theorem r_curOf (hY : RYs F M nk nb) (hk : nk ≤ 5) {b : Nat} (hb : b < nb) (kd ln : Int32) : pX6_isCuredOf F (nI b) kd ln = some (if candb M kd ln b = true then 1 else 0) := by
  obtain ⟨⟨e18, e21, e22, e23, e24, e27, e26⟩, ⟨f9, m10, hnb, f10⟩, -⟩ := id hY
  unfold pX6_isCuredOf candb
  rw [q_ckn (show b < 200 by omega) (by decide), q_cl (show b < 2 ^ 31 by omega), e18, e21]
  by_cases c1 : M.2 12 b = kd
  · rw [if_pos c1, q_ckn (show b < 200 by omega) (by decide)]
    by_cases c2 : M.2 13 b = ln
    · rw [if_pos c2, r_curF hY hk hb, q_bd, q_cb0, q_cb1]
      rcases cur01 M b with z | z
      · rw [if_pos z, if_neg (by simp [z])]
      · rw [if_neg (by rw [z]; decide), if_pos (by simp [c1, c2, z])]
    · rw [if_neg c2, q_cb0, if_neg (by simp [c2])]
  · rw [if_neg c1, q_cb0, if_neg (by simp [c1])]
theorem cured_l (hY : RYs F M nk nb) (hk : nk ≤ 5) (kd ln : Int32) : ∀ (d n i : Nat), i + d = nb → d < n → pX6_curedOf_l5 F n kd ln (nI (ct (candb M kd ln) i)) (nI i) = some (nI (ct (candb M kd ln) nb)) := by
  obtain ⟨-, ⟨f9, m10, hnb, f10⟩, -⟩ := id hY
  intro d
  induction d with
  | zero =>
    intro n i hi hn
    obtain ⟨n, rfl⟩ : ∃ k, n = k + 1 := ⟨n - 1, by omega⟩
    obtain rfl : i = nb := by omega
    rw [pX6_curedOf_l5, f9, if_pos (nI_le (Nat.le_refl _) (by omega))]
  | succ d ih =>
    intro n i hi hn
    obtain ⟨n, rfl⟩ : ∃ k, n = k + 1 := ⟨n - 1, by omega⟩
    have I := ih n (i + 1) (by omega) (by omega)
    rw [ct] at I
    rw [pX6_curedOf_l5, f9, if_neg (lp_c (by omega) (by omega)), r_curOf hY hk (by omega), q_bd]
    by_cases c : candb M kd ln i = true
    · rw [if_pos c] at I ⊢
      rw [if_neg (by decide), q_vl, q_vl, nI_1, nI_1]
      exact I
    · rw [if_neg c] at I ⊢
      rw [if_pos (show (0 : Int32) = 0 from rfl), q_vl, nI_1]
      exact I
theorem r_cured (hY : RYs F M nk nb) (hk : nk ≤ 5) (kd ln : Int32) : pX6_curedOf F kd ln = some (nI (ct (candb M kd ln) nb)) := by
  have hnb : nb ≤ 200 := hY.2.1.2.2.1
  unfold pX6_curedOf
  rw [q_vl, q_vl]
  exact cured_l hY hk kd ln nb 5000 0 (by omega) (by omega)
theorem long_l (hY : RYs F M nk nb) (hk : nk ≤ 5) (kd ln : Int32) : ∀ (d n i : Nat), i + d = nb → d < n → pX6_longestCured_l5 F n kd ln (bst (candb M kd ln) (M.2 16) i) (nI i) = some (bst (candb M kd ln) (M.2 16) nb) := by
  obtain ⟨⟨e18, e21, e22, e23, e24, e27, e26⟩, ⟨f9, m10, hnb, f10⟩, -⟩ := id hY
  intro d
  induction d with
  | zero =>
    intro n i hi hn
    obtain ⟨n, rfl⟩ : ∃ k, n = k + 1 := ⟨n - 1, by omega⟩
    obtain rfl : i = nb := by omega
    rw [pX6_longestCured_l5, f9, if_pos (nI_le (Nat.le_refl _) (by omega))]
  | succ d ih =>
    intro n i hi hn
    obtain ⟨n, rfl⟩ : ∃ k, n = k + 1 := ⟨n - 1, by omega⟩
    have I := ih n (i + 1) (by omega) (by omega)
    rw [bst] at I
    have hin := bst_in (candb M kd ln) (M.2 16) i
    generalize bst (candb M kd ln) (M.2 16) i = x at I hin ⊢
    rw [pX6_longestCured_l5, f9, if_neg (lp_c (by omega) (by omega)), r_curOf hY hk (by omega), q_bd, q_vl]
    by_cases c : candb M kd ln i = true
    · rw [if_pos c] at I ⊢
      rw [if_neg (show ¬ (1 : Int32) = 0 by decide)]
      rcases hin with q | ⟨q, q1, q2, q3⟩
      · rw [if_pos q] at I ⊢
        rw [q_vl, q_vl, nI_1]
        exact I
      · rw [q2, if_neg (q_m1 (by omega))] at I ⊢
        rw [q_ckn (show i < 200 by omega) (by decide), q_ckn (show q < 200 by omega) (by decide), e24, q_cl (show i < 2 ^ 31 by omega), q_cl (show q < 2 ^ 31 by omega)]
        rw [q_cl (show q < 2 ^ 31 by omega)] at I
        by_cases e : M.2 16 i ≤ M.2 16 q
        · rw [if_pos e] at I ⊢
          rw [q_vl, nI_1]
          exact I
        · rw [if_neg e] at I ⊢
          rw [q_vl, q_vl, nI_1]
          exact I
    · rw [if_neg c] at I ⊢
      rw [if_pos (show (0 : Int32) = 0 from rfl), q_vl, nI_1]
      exact I
theorem r_long (hY : RYs F M nk nb) (hk : nk ≤ 5) (kd ln : Int32) : pX6_longestCured F kd ln = some (bst (candb M kd ln) (M.2 16) nb) := by
  have hnb : nb ≤ 200 := hY.2.1.2.2.1
  unfold pX6_longestCured
  rw [q_vl, q_vl]
  exact long_l hY hk kd ln nb 5000 0 (by omega) (by omega)
theorem next_l (hY : RYs F M nk nb) (hk : nk ≤ 5) {o : Nat} (ho : o < 40) : ∀ (d n i : Nat), i + d = nb → d < n → pX8_nextFor_l4 M n (nI o) (bst (fun b => candb M (M.2 19 o) (M.2 20 o) b && decide (M.2 28 b = 0)) (M.2 16) i) (nI i) = some (bst (fun b => candb M (M.2 19 o) (M.2 20 o) b && decide (M.2 28 b = 0)) (M.2 16) nb) := by
  obtain ⟨⟨e18, e21, e22, e23, e24, e27, e26⟩, ⟨f9, m10, hnb, f10⟩, -⟩ := id hY
  intro d
  induction d with
  | zero =>
    intro n i hi hn
    obtain ⟨n, rfl⟩ : ∃ k, n = k + 1 := ⟨n - 1, by omega⟩
    obtain rfl : i = nb := by omega
    rw [pX8_nextFor_l4, m10, if_pos (nI_le (Nat.le_refl _) (by omega))]
  | succ d ih =>
    intro n i hi hn
    obtain ⟨n, rfl⟩ : ∃ k, n = k + 1 := ⟨n - 1, by omega⟩
    have I := ih n (i + 1) (by omega) (by omega)
    rw [bst] at I
    have hin := bst_in (fun b => candb M (M.2 19 o) (M.2 20 o) b && decide (M.2 28 b = 0)) (M.2 16) i
    generalize bst (fun b => candb M (M.2 19 o) (M.2 20 o) b && decide (M.2 28 b = 0)) (M.2 16) i = x at I hin ⊢
    obtain ⟨k, hk5, hkk, -⟩ := y_kind hY hk (show i < nb by omega)
    rw [pX8_nextFor_l4, m10, if_neg (lp_c (by omega) (by omega))]
    simp only [q_ckn (show i < 200 by omega) (by decide), q_ckn ho (by decide), q_cl (show i < 2 ^ 31 by omega), q_cl (show o < 2 ^ 31 by omega)]
    by_cases c0 : M.2 28 i = 0
    · rw [if_pos c0]
      by_cases c1 : M.2 11 i = 2
      · have hc : ¬ (candb M (M.2 19 o) (M.2 20 o) i && decide (M.2 28 i = 0)) = true := by
          have : cur M i = 0 := by unfold cur; rw [if_pos c1]
          simp [candb, this]
        rw [if_neg hc] at I
        rw [if_pos c1, q_vl, nI_1]
        exact I
      · rw [if_neg c1]
        by_cases c2 : M.2 12 i = M.2 19 o
        · rw [if_pos c2]
          by_cases c3 : M.2 13 i = M.2 20 o
          · rw [if_pos c3, r_curM (by omega) hk5 hkk, q_bd]
            rcases cur01 M i with z | z
            · have hc : ¬ (candb M (M.2 19 o) (M.2 20 o) i && decide (M.2 28 i = 0)) = true := by simp [candb, z]
              rw [if_neg hc] at I
              rw [if_pos z, q_vl, nI_1]
              exact I
            · have hc : (candb M (M.2 19 o) (M.2 20 o) i && decide (M.2 28 i = 0)) = true := by simp [candb, z, c0, c2, c3]
              rw [if_pos hc] at I
              rw [if_neg (by rw [z]; decide)]
              rcases hin with q | ⟨q, q1, q2, q3⟩
              · rw [if_pos q] at I ⊢
                rw [q_vl, q_vl, nI_1]
                exact I
              · rw [q2, if_neg (q_m1 (by omega))] at I ⊢
                rw [q_ckn (show q < 200 by omega) (by decide), q_cl (show q < 2 ^ 31 by omega)]
                rw [q_cl (show q < 2 ^ 31 by omega)] at I
                by_cases e : M.2 16 i ≤ M.2 16 q
                · rw [if_pos e] at I ⊢
                  rw [q_vl, nI_1]
                  exact I
                · rw [if_neg e] at I ⊢
                  rw [q_vl, q_vl, nI_1]
                  exact I
          · have hc : ¬ (candb M (M.2 19 o) (M.2 20 o) i && decide (M.2 28 i = 0)) = true := by simp [candb, c3]
            rw [if_neg hc] at I
            rw [if_neg c3, q_vl, nI_1]
            exact I
        · have hc : ¬ (candb M (M.2 19 o) (M.2 20 o) i && decide (M.2 28 i = 0)) = true := by simp [candb, c2]
          rw [if_neg hc] at I
          rw [if_neg c2, q_vl, nI_1]
          exact I
    · have hc : ¬ (candb M (M.2 19 o) (M.2 20 o) i && decide (M.2 28 i = 0)) = true := by simp [c0]
      rw [if_neg hc] at I
      rw [if_neg c0, q_vl, nI_1]
      exact I
theorem r_next (hY : RYs F M nk nb) (hk : nk ≤ 5) {o : Nat} (ho : o < 40) : pX8_nextFor M (nI o) = some (bst (fun b => candb M (M.2 19 o) (M.2 20 o) b && decide (M.2 28 b = 0)) (M.2 16) nb) := by
  have hnb : nb ≤ 200 := hY.2.1.2.2.1
  unfold pX8_nextFor
  rw [q_vl, q_vl]
  exact next_l hY hk ho nb 5000 0 (by omega) (by omega)
end FI
