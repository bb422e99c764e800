/-! PURE: the two programs as functions, side by side -/
theorem q_cb0 {α : Type} (x : Option α) : fb_cb 0 x = x := by simp [fb_cb]
theorem q_cb1 {α : Type} (x : Option α) : fb_cb 1 x = x := by simp [fb_cb]
theorem q_vl {α : Type} (e : Int32) (k : Int32 → Option α) : fb_vl e k = k e := rfl
theorem q_st {α : Type} (S : Sg) (k : Sg → Option α) : fb_st S k = k S := rfl
theorem q_bd {α β : Type} (x : α) (k : α → Option β) : fb_bd (some x) k = k x := rfl
theorem q_b2 {α β γ : Type} (x : α) (z : γ) (k : α → γ → Option β) : fb_b2 (some (x, z)) k = k x z := rfl
theorem q_ck {α : Type} {i : Int32} {n : Nat} (h : vp_in i n) (x : Option α) : fb_ck i n x = x := by unfold fb_ck; exact if_neg h
theorem q_ckn {α : Type} {j n : Nat} (h : j < n) (hn : n < 2 ^ 31) (x : Option α) : fb_ck (nI j) n x = x := q_ck (vp_in_nI h hn) x
theorem q_c0 {α : Type} (x : Option α) : fb_c0 100 x = x := by unfold fb_c0; exact if_neg (by decide)
theorem q_0 : (0 : Int32) = nI 0 := rfl
theorem q_1 : (1 : Int32) = nI 1 := rfl
theorem q_lit (n : Nat) : (OfNat.ofNat n : Int32) = nI n := rfl
theorem q_cl {n : Nat} (h : n < 2 ^ 31) : (nI n).toNatClampNeg = n := nI_clamp h
theorem q_cl0 : (0 : Int32).toNatClampNeg = 0 := by decide
theorem q_m1 {n : Nat} (h : n < 2 ^ 31) : ¬ nI n = (-1) := by
  intro q
  have h1 := nI_toInt h
  rw [q] at h1
  have h2 : (-1 : Int32).toInt = -1 := by decide
  omega
theorem q_m2 {n : Nat} (h : n < 2 ^ 31) : ¬ nI n = (-2) := by
  intro q
  have h1 := nI_toInt h
  rw [q] at h1
  have h2 : (-2 : Int32).toInt = -2 := by decide
  omega
/-- v is from a to b -/
def inb (v a b : Int32) : Int32 := if v < a then 0 else if b < v then 0 else 1
/-- x is a number below n -/
def hsb (x n : Int32) : Int32 := if x < 0 then 0 else if n ≤ x then 0 else 1
theorem inb_1 {v a b : Int32} (h : ¬ inb v a b = 0) : ¬ v < a ∧ ¬ b < v := by
  unfold inb at h
  by_cases c : v < a
  · rw [if_pos c] at h; exact absurd rfl h
  · rw [if_neg c] at h
    by_cases d : b < v
    · rw [if_pos d] at h; exact absurd rfl h
    · exact ⟨c, d⟩
theorem inb_n {v : Int32} {a b : Nat} (h : ¬ inb v (nI a) (nI b) = 0) (ha : a < 2 ^ 31) (hb : b < 2 ^ 31) : ∃ j : Nat, a ≤ j ∧ j ≤ b ∧ v = nI j := by
  obtain ⟨h1, h2⟩ := inb_1 h
  have q1 : (nI a).toInt ≤ v.toInt := Int.not_lt.mp fun q => h1 (Int32.lt_iff_toInt_lt.mpr q)
  have q2 : v.toInt ≤ (nI b).toInt := Int.not_lt.mp fun q => h2 (Int32.lt_iff_toInt_lt.mpr q)
  rw [nI_toInt ha] at q1
  rw [nI_toInt hb] at q2
  obtain ⟨j, hj, rfl⟩ := nI_of (x := v) (fun q => by
    have := Int32.lt_iff_toInt_lt.mp q
    have h0 : (0 : Int32).toInt = 0 := by decide
    omega)
  rw [nI_toInt hj] at q1 q2
  exact ⟨j, by omega, by omega, rfl⟩
theorem sA_1 (S : Sg) (k : Nat) (i x : Int32) : (sA S k i x).1 = S.1 := rfl
theorem sS_2 (S : Sg) (k : Nat) (x : Int32) : (sS S k x).2 = S.2 := rfl
theorem sS_1 (S : Sg) (k j : Nat) (x : Int32) : (sS S k x).1 j = if j = k then x else S.1 j := rfl
theorem sA_2 (S : Sg) (k j : Nat) (i x : Int32) : (sA S k i x).2 j = if j = k then upd (S.2 k) i.toNatClampNeg x else S.2 j := rfl
theorem hsb_n {x : Int32} {n : Nat} (hn : n < 2 ^ 31) (h : ¬ hsb x (nI n) = 0) : ∃ j : Nat, j < n ∧ x = nI j := by
  unfold hsb at h
  by_cases c : x < 0
  · rw [if_pos c] at h; exact absurd rfl h
  · rw [if_neg c] at h
    by_cases d : nI n ≤ x
    · rw [if_pos d] at h; exact absurd rfl h
    · rcases pk_ix x hn with q | q | ⟨j, h1, h2⟩
      · exact absurd q c
      · exact absurd q d
      · exact ⟨j, h1, h2⟩
theorem r_within (S : Sg) (v a b : Int32) : pX7_within S v a b = some (inb v a b) := by
  unfold pX7_within inb
  simp only [q_cb0, q_cb1]
  split
  · rfl
  · split <;> rfl
theorem r_in (S : Sg) (v a b : Int32) : pX8_in S v a b = some (inb v a b) := by
  unfold pX8_in inb
  simp only [q_cb0, q_cb1]
  split
  · rfl
  · split <;> rfl
theorem r_has3 (S : Sg) (v : Int32) : pX3_has S v = some (hsb v (S.1 2)) := by
  unfold pX3_has hsb
  simp only [q_cb0, q_cb1]
  split
  · rfl
  · split <;> rfl
theorem r_has4 (S : Sg) (v : Int32) : pX4_has S v = some (hsb v (S.1 3)) := by
  unfold pX4_has hsb
  simp only [q_cb0, q_cb1]
  split
  · rfl
  · split <;> rfl
theorem r_has0 (S : Sg) (v : Int32) : pX0_has S v = some (hsb v (S.1 6)) := by
  unfold pX0_has hsb
  simp only [q_cb0, q_cb1]
  split
  · rfl
  · split <;> rfl
theorem r_has5 (S : Sg) (v : Int32) : pX5_has S v = some (hsb v (S.1 14)) := by
  unfold pX5_has hsb
  simp only [q_cb0, q_cb1]
  split
  · rfl
  · split <;> rfl
theorem r_has6 (S : Sg) (v : Int32) : pX6_has S v = some (hsb v (S.1 9)) := by
  unfold pX6_has hsb
  simp only [q_cb0, q_cb1]
  split
  · rfl
  · split <;> rfl
theorem r_isKind (S : Sg) (v : Int32) : pX8_isKind S v = some (hsb v (S.1 2)) := by
  unfold pX8_isKind hsb
  simp only [q_cb0, q_cb1]
  split
  · rfl
  · split <;> rfl
theorem r_isLength (S : Sg) (v : Int32) : pX8_isLength S v = some (hsb v (S.1 3)) := by
  unfold pX8_isLength hsb
  simp only [q_cb0, q_cb1]
  split
  · rfl
  · split <;> rfl
theorem r_isOrder (S : Sg) (v : Int32) : pX8_isOrder S v = some (hsb v (S.1 11)) := by
  unfold pX8_isOrder hsb
  simp only [q_cb0, q_cb1]
  split
  · rfl
  · split <;> rfl
theorem r_refF (S : Sg) (v : Int32) : pX7_refused S v = some (-1, sS S 1 v) := rfl
theorem r_refM (S : Sg) (v : Int32) : pX8_refused S v = some (-1, sS S 1 v) := rfl
theorem r_ansF (S : Sg) (v : Int32) : pX7_answered S v = some (v, sS S 1 0) := rfl
theorem r_ansM (S : Sg) (v : Int32) : pX8_done S v = some (v, sS S 1 0) := rfl
theorem r_denF (S : Sg) (v : Int32) : pX7_denied S v = some (0, sS S 1 v) := by unfold pX7_denied; rw [q_st, q_cb0]
theorem r_denM (S : Sg) (v : Int32) : pX8_denied S v = some (0, sS S 1 v) := by unfold pX8_denied; rw [q_st, q_cb0]
theorem r_graF (S : Sg) : pX7_granted S = some (1, sS S 1 0) := by unfold pX7_granted; rw [q_st, q_cb1]
theorem r_graM (S : Sg) : pX8_granted S = some (1, sS S 1 0) := by unfold pX8_granted; rw [q_st, q_cb1]
def sm (f : Nat → Nat) : Nat → Nat
  | 0 => 0
  | n + 1 => sm f n + f n
def ct (P : Nat → Bool) : Nat → Nat
  | 0 => 0
  | n + 1 => ct P n + (if P n = true then 1 else 0)
/-! the relation: F the class's state, M the reference's -/
def RK (F8 F9 F10 F11 F12 : Nat → Int32) (f2 f3 : Int32) (M1 M2 M3 M4 M5 : Nat → Int32) (m2 m3 : Int32) (nk nl : Nat) : Prop :=
  (F8 = M1 ∧ F9 = M2 ∧ F10 = M3 ∧ F11 = M4) ∧ (∀ l k, l < 6 → k < 5 → F12 (l * 5 + k) = M5 (6 * k + l)) ∧ (f2 = nI nk ∧ m2 = nI nk ∧ nk ≤ 5 ∧ f3 = nI nl ∧ m3 = nI nl ∧ nl ≤ 6) ∧ (∀ i, i < 25 → ∃ c, c ≤ 60 ∧ M3 i = nI c) ∧ (∀ i, i < nl → ∃ c, 5 ≤ c ∧ c ≤ 80 ∧ M4 i = nI c)
def RB (F15 F16 F17 : Nat → Int32) (f6 f7 f8 : Int32) (M6 M7 M8 : Nat → Int32) (m8 m9 : Int32) (nk nr : Nat) : Prop :=
  (F15 = M6 ∧ F16 = M7 ∧ F17 = M8 ∧ f8 = m9) ∧ (f6 = nI nr ∧ m8 = nI nr ∧ nr ≤ 60) ∧ ∃ sz : Nat → Nat, (∀ r, r < nr → M7 r = nI (sz r) ∧ 1 ≤ sz r) ∧ f7 = nI (sm sz nr) ∧ sm sz nr ≤ 2000 ∧ (∀ r, r < nr → M6 r = -2 ∨ ∃ k, k < nk ∧ M6 r = nI k) ∧ (∀ r, r + 1 = nr → ∃ k, k < nk ∧ M6 r = nI k)
def RY (F18 F19 F20 F21 F22 F23 F24 F25 F26 F27 : Nat → Int32) (f9 f10 : Int32) (M1 M2 M11 M12 M13 M14 M15 M16 M17 M26 : Nat → Int32) (m10 m6 : Int32) (nk nb : Nat) : Prop :=
  (F18 = M12 ∧ F21 = M13 ∧ F22 = M14 ∧ F23 = M15 ∧ F24 = M16 ∧ F27 = M17 ∧ F26 = M26) ∧ (f9 = nI nb ∧ m10 = nI nb ∧ nb ≤ 200 ∧ f10 = m6) ∧
  (∀ b, b < nb → ∃ k, k < nk ∧ M12 b = nI k ∧ F19 b = M1 k ∧ F20 b = M2 k) ∧ (∀ b, nb ≤ b → M16 b = 0 ∧ M26 b = 0) ∧
  (∀ p, p < 24 → M17 p = -2 ∨ ∃ b, b < nb ∧ M17 p = nI b ∧ M11 b = 1 ∧ F25 b = nI p) ∧
  (∀ b, b < nb → (M11 b = 0 ∧ F25 b = -1 ∧ M26 b = 0) ∨ (M11 b = 1 ∧ M26 b = 0 ∧ ∃ p, p < 24 ∧ F25 b = nI p ∧ M17 p = nI b) ∨ (M11 b = 2 ∧ F25 b = -1 ∧ ∃ t, 1 ≤ t ∧ t ≤ 500 ∧ M26 b = nI t))
def RO (F30 F31 F32 F33 F34 F35 F36 F37 : Nat → Int32) (f13 f14 f15 : Int32) (M11 M19 M20 M21 M22 M23 M24 M25 M27 : Nat → Int32) (m11 : Int32) (nb no : Nat) : Prop :=
  (F30 = M19 ∧ F31 = M20 ∧ F32 = M21 ∧ F33 = M22 ∧ F34 = M23 ∧ F35 = M24) ∧ (f14 = nI no ∧ m11 = nI no ∧ no ≤ 40) ∧ f13 = nI (ct (fun b => M11 b = 2) nb) ∧ f15 = nI (ct (fun o => M27 o = 1) no) ∧
  (∀ o, o < no → ∃ w h c, 1 ≤ w ∧ w ≤ 60 ∧ 1 ≤ h ∧ h ≤ 60 ∧ 1 ≤ c ∧ c ≤ 500 ∧ M21 o = nI w ∧ M22 o = nI h ∧ M23 o = nI c) ∧
  (∀ o, o < 40 → (M27 o = 0 ∧ M24 o = 0) ∨ (M27 o = 1 ∧ o < no ∧ ∃ n fs, 1 ≤ n ∧ M24 o = nI n ∧ F36 o = nI fs ∧ fs + n ≤ ct (fun b => M11 b = 2) nb ∧ ∀ i, i < n → F37 (fs + i) = M25 (200 * o + i)))
def RE (f0 f1 f11 f12 : Int32) (F28 : Nat → Int32) (m1 m4 m5 m7 : Int32) : Prop :=
  f0 = m7 ∧ f1 = m1 ∧ ∃ w h, 1 ≤ w ∧ w ≤ 60 ∧ 1 ≤ h ∧ h ≤ 60 ∧ f11 = nI w ∧ m4 = nI w ∧ f12 = nI h ∧ m5 = nI h ∧ ∀ i, i < 61 ∨ i % 61 = 0 → F28 i = 0
abbrev RKs (F M : Sg) (nk nl : Nat) : Prop := RK (F.2 8) (F.2 9) (F.2 10) (F.2 11) (F.2 12) (F.1 2) (F.1 3) (M.2 1) (M.2 2) (M.2 3) (M.2 4) (M.2 5) (M.1 2) (M.1 3) nk nl
abbrev RBs (F M : Sg) (nk nr : Nat) : Prop := RB (F.2 15) (F.2 16) (F.2 17) (F.1 6) (F.1 7) (F.1 8) (M.2 6) (M.2 7) (M.2 8) (M.1 8) (M.1 9) nk nr
abbrev RYs (F M : Sg) (nk nb : Nat) : Prop := RY (F.2 18) (F.2 19) (F.2 20) (F.2 21) (F.2 22) (F.2 23) (F.2 24) (F.2 25) (F.2 26) (F.2 27) (F.1 9) (F.1 10) (M.2 1) (M.2 2) (M.2 11) (M.2 12) (M.2 13) (M.2 14) (M.2 15) (M.2 16) (M.2 17) (M.2 26) (M.1 10) (M.1 6) nk nb
abbrev ROs (F M : Sg) (nb no : Nat) : Prop := RO (F.2 30) (F.2 31) (F.2 32) (F.2 33) (F.2 34) (F.2 35) (F.2 36) (F.2 37) (F.1 13) (F.1 14) (F.1 15) (M.2 11) (M.2 19) (M.2 20) (M.2 21) (M.2 22) (M.2 23) (M.2 24) (M.2 25) (M.2 27) (M.1 11) nb no
abbrev REs (F M : Sg) : Prop := RE (F.1 0) (F.1 1) (F.1 11) (F.1 12) (F.2 28) (M.1 1) (M.1 4) (M.1 5) (M.1 7)
def Rel (F M : Sg) : Prop := ∃ nk nl nr nb no : Nat, RKs F M nk nl ∧ RBs F M nk nr ∧ RYs F M nk nb ∧ ROs F M nb no ∧ REs F M
def Sim (f g : Option (Int32 × Sg)) : Prop := ∃ (r : Int32) (F M : Sg), f = some (r, F) ∧ g = some (r, M) ∧ Rel F M
def SimP (F : Sg) (f : Option Int32) (g : Option (Int32 × Sg)) : Prop := ∃ (r : Int32) (M : Sg), f = some r ∧ g = some (r, M) ∧ Rel F M
theorem Sim_ite {c : Prop} [Decidable c] {a b a2 b2 : Option (Int32 × Sg)} (h1 : c → Sim a a2) (h2 : ¬ c → Sim b b2) : Sim (if c then a else b) (if c then a2 else b2) := by
  by_cases q : c
  · rw [if_pos q, if_pos q]; exact h1 q
  · rw [if_neg q, if_neg q]; exact h2 q
theorem SimP_ite {F : Sg} {c : Prop} [Decidable c] {a b : Option Int32} {a2 b2 : Option (Int32 × Sg)} (h1 : c → SimP F a a2) (h2 : ¬ c → SimP F b b2) : SimP F (if c then a else b) (if c then a2 else b2) := by
  by_cases q : c
  · rw [if_pos q, if_pos q]; exact h1 q
  · rw [if_neg q, if_neg q]; exact h2 q
theorem Rel_t {F M : Sg} (x : Int32) (h : Rel F M) : Rel F (sS M 0 x) := h
theorem Rel_tr {F M : Sg} (x : Int32) (h : Rel F M) : Rel (sS F 1 x) (sS M 1 x) := by
  obtain ⟨nk, nl, nr, nb, no, hK, hB, hY, hO, hE⟩ := h
  exact ⟨nk, nl, nr, nb, no, hK, hB, hY, hO, hE.1, rfl, hE.2.2⟩
theorem Sim_ref {F M : Sg} (x : Int32) (h : Rel F M) : Sim (some (-1, sS F 1 x)) (some (-1, sS M 1 x)) := ⟨_, _, _, rfl, rfl, Rel_tr x h⟩
theorem Sim_den {F M : Sg} (x : Int32) (h : Rel F M) : Sim (some (0, sS F 1 x)) (some (0, sS M 1 x)) := ⟨_, _, _, rfl, rfl, Rel_tr x h⟩
theorem Sim_ans {F M : Sg} (r : Int32) (h : Rel F M) : Sim (some (r, sS F 1 0)) (some (r, sS M 1 0)) := ⟨_, _, _, rfl, rfl, Rel_tr 0 h⟩
