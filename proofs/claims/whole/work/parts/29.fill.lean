/-! fill: the reference chooses -/
theorem clr_l {T : Sg} {nb : Nat} (hn : nb ≤ 200) (m10 : T.1 10 = nI nb) (x1 x2 : Int32) : ∀ (d n i : Nat) (tk : Nat → Int32), i + d = nb → d < n → (∀ b, b < i → tk b = 0) → ∃ tk2, pX8_fill_l53 n (sW T 28 tk) x1 x2 (nI i) = pX8_fill_l53 1 (sW T 28 tk2) x1 x2 (nI nb) ∧ ∀ b, b < nb → tk2 b = 0 := by
  intro d
  induction d with
  | zero =>
    intro n i tk hi hd ht
    obtain ⟨n, rfl⟩ : ∃ k, n = k + 1 := ⟨n - 1, by omega⟩
    obtain rfl : i = nb := by omega
    have m10' : (sW T 28 tk).1 10 = nI i := m10
    refine ⟨tk, ?_, ht⟩
    rw [pX8_fill_l53, pX8_fill_l53, m10', if_pos (nI_le (Nat.le_refl _) (by omega)), if_pos (nI_le (Nat.le_refl _) (by omega))]
  | succ d ih =>
    intro n i tk hi hd ht
    obtain ⟨n, rfl⟩ : ∃ k, n = k + 1 := ⟨n - 1, by omega⟩
    have m10' : (sW T 28 tk).1 10 = nI nb := m10
    rw [pX8_fill_l53, m10', if_neg (lp_c (by omega) (by omega)), q_ckn (show i < 200 by omega) (by decide), q_st, q_vl, nar0, sA_W, sW_W, sW_s, q_cl (show i < 2 ^ 31 by omega), nI_1]
    refine ih n (i + 1) _ (by omega) (by omega) (fun b hb => ?_)
    by_cases e : b = i
    · rw [e, pk_us]
    · rw [pk_un e]; exact ht b (by omega)
def sT (T : Sg) (tk bf : Nat → Int32) : Sg := sW (sW T 28 tk) 25 bf
theorem sT_28 (T : Sg) (tk bf : Nat → Int32) (i x : Int32) : sA (sT T tk bf) 28 i x = sT T (upd tk i.toNatClampNeg x) bf := by
  refine Prod.ext rfl ?_
  funext j
  show va_up (va_up (va_up T.2 28 tk) 25 bf) 28 (upd tk i.toNatClampNeg x) j = va_up (va_up T.2 28 (upd tk i.toNatClampNeg x)) 25 bf j
  unfold va_up
  by_cases h : j = 28
  · subst h; simp
  · by_cases h2 : j = 25
    · subst h2; simp
    · simp [h, h2]
theorem sT_25 (T : Sg) (tk bf : Nat → Int32) (i x : Int32) : sA (sT T tk bf) 25 i x = sT T tk (upd bf i.toNatClampNeg x) := by
  unfold sT
  rw [sA_W, sW_W, sW_s]
theorem ix200 (a b : Nat) : 200 * nI a + nI b = nI (200 * a + b) := by rw [show (200 : Int32) = nI 200 from rfl, pk_mul, nI_add]
theorem sel_l {F T : Sg} {nk nb o e m c : Nat} (hY : RYs F T nk nb) (hk : nk ≤ 5) (ho : o < 40) (he : e ≤ 3600) (hm : m ≤ 500) (h23 : T.2 23 o = nI m) (hc : c ≤ 200) (hlt : ∀ i, i < c → i * e < m) : ∀ (d n i : Nat) (P : Nat → Bool) (pl : Nat → Nat) (tk bf : Nat → Int32), i + d = c → d < n → Pck (T.2 16) nb d P pl → (∀ b, b < nb → (candb T (T.2 19 o) (T.2 20 o) b && decide (tk b = 0)) = P b) →
    ∃ tk2 bf2 P2, ct P2 nb + d = ct P nb ∧ pX8_fill_l94 n (sT T tk bf) (nI o) (nI e) (nI i) (nI (i * e)) (bst P (T.2 16) nb) = pX8_fill_l94 (n - d) (sT T tk2 bf2) (nI o) (nI e) (nI c) (nI (c * e)) (bst P2 (T.2 16) nb) ∧ (∀ j, j < d → bf2 (200 * o + i + j) = nI (pl j)) ∧ (∀ z, z < 200 * o + i ∨ 200 * o + c ≤ z → bf2 z = bf z) := by
  have hnb : nb ≤ 200 := hY.2.1.2.2.1
  intro d
  induction d with
  | zero =>
    intro n i P pl tk bf hi hn hp hP
    obtain rfl : i = c := by omega
    exact ⟨tk, bf, P, rfl, rfl, fun j hj => by omega, fun _ _ => rfl⟩
  | succ d ih =>
    intro n i P pl tk bf hi hn hp hP
    obtain ⟨n, rfl⟩ : ∃ k, n = k + 1 := ⟨n - 1, by omega⟩
    obtain ⟨p1, p2, p3, p4⟩ := hp
    have h23' : (sT T tk bf).2 23 o = nI m := h23
    have hie := hlt i (by omega)
    have hci : i * e < 2 ^ 31 := by omega
    have hP2 : ∀ b, b < nb → (candb T (T.2 19 o) (T.2 20 o) b && decide (upd tk (pl 0) 1 b = 0)) = (P b && (b != pl 0)) := by
      intro b hb
      rw [← hP b hb]
      by_cases z : b = pl 0
      · rw [z, pk_us]
        simp
      · rw [pk_un z]
        have : (b != pl 0) = true := bne_iff_ne.mpr z
        simp [this]
    have hY2 : RYs F (sT T (upd tk (pl 0) 1) (upd bf (200 * o + i) (nI (pl 0)))) nk nb := hY
    have hN : pX8_nextFor (sT T (upd tk (pl 0) 1) (upd bf (200 * o + i) (nI (pl 0)))) (nI o) = some (bst (fun b => P b && (b != pl 0)) (T.2 16) nb) := by
      rw [r_next hY2 hk ho]
      congr 1
      exact bst_congr nb hP2
    obtain ⟨tk2, bf2, P2, i1, i2, i3, i4⟩ := ih n (i + 1) _ _ (upd tk (pl 0) 1) (upd bf (200 * o + i) (nI (pl 0))) (by omega) (by omega) p4 hP2
    refine ⟨tk2, bf2, P2, ?_, ?_, fun j hj => ?_, fun z hz => ?_⟩
    · have := ct_del p3 nb p2
      omega
    · rw [p1, pX8_fill_l94, q_ckn ho (by decide), q_cl (show o < 2 ^ 31 by omega), h23', if_neg (nI_ge hie (by omega)), if_neg (q_m1 (by omega)), q_ckn (show pl 0 < 200 by omega) (by decide), q_st, nar1, sT_28, ix200, q_ckn (show 200 * o + i < 8000 by omega) (by decide), q_st, q_vl, q_vl, sT_25, q_cl (show pl 0 < 2 ^ 31 by omega), q_cl (show 200 * o + i < 2 ^ 31 by omega), hN, q_bd, q_vl, nI_1, nI_add]
      have e1 : i * e + e = (i + 1) * e := by rw [Nat.add_mul, Nat.one_mul]
      rw [e1, i2]
      congr 1
      omega
    · by_cases z : j = 0
      · rw [z, i4 (200 * o + i + 0) (by omega), show 200 * o + i + 0 = 200 * o + i by omega, pk_us]
      · have := i3 (j - 1) (by omega)
        rw [show 200 * o + (i + 1) + (j - 1) = 200 * o + i + j by omega, show j - 1 + 1 = j by omega] at this
        exact this
    · rw [i4 z (by omega), pk_un (by omega)]
/-! fill: a block is taken -/
theorem ct_upd {M11 : Nat → Int32} {p : Nat} (hp : M11 p ≠ 2) : ∀ n, p < n → ct (fun b => decide (upd M11 p 2 b = 2)) n = ct (fun b => decide (M11 b = 2)) n + 1 := by
  intro n
  induction n with
  | zero => intro h; omega
  | succ n ih =>
    intro h
    rw [ct, ct]
    by_cases e : p = n
    · subst e
      rw [ct_congr (Q := fun b => decide (M11 b = 2)) (fun b hb => by rw [pk_un (by omega)]), pk_us]
      simp [hp]
    · rw [ih (by omega), pk_un (by omega)]
      omega
theorem ct_lt {P : Nat → Bool} {p : Nat} (hp : ¬ P p = true) : ∀ n, p < n → ct P n < n := by
  intro n
  induction n with
  | zero => intro h; omega
  | succ n ih =>
    intro h
    rw [ct]
    by_cases e : p = n
    · subst e
      rw [if_neg hp]
      have := ct_le P p
      omega
    · have := ih (by omega)
      split <;> omega
def ROM (F M : Sg) (nb no o c t0 i : Nat) (pl : Nat → Nat) : Prop :=
  (F.2 30 = M.2 19 ∧ F.2 31 = M.2 20 ∧ F.2 32 = M.2 21 ∧ F.2 33 = M.2 22 ∧ F.2 34 = M.2 23) ∧ (F.1 14 = nI no ∧ M.1 11 = nI no ∧ no ≤ 40) ∧ (F.1 13 = nI (t0 + i) ∧ ct (fun b => M.2 11 b = 2) nb = t0 + i) ∧ F.1 15 = nI (ct (fun o => M.2 27 o = 1) no) ∧
  (∀ o, o < no → ∃ w h c, 1 ≤ w ∧ w ≤ 60 ∧ 1 ≤ h ∧ h ≤ 60 ∧ 1 ≤ c ∧ c ≤ 500 ∧ M.2 21 o = nI w ∧ M.2 22 o = nI h ∧ M.2 23 o = nI c) ∧ (∀ z, z ≠ o → F.2 35 z = M.2 24 z) ∧
  (∀ z, z < 40 → z ≠ o → (M.2 27 z = 0 ∧ M.2 24 z = 0) ∨ (M.2 27 z = 1 ∧ z < no ∧ ∃ n fs, 1 ≤ n ∧ M.2 24 z = nI n ∧ F.2 36 z = nI fs ∧ fs + n ≤ t0 ∧ ∀ j, j < n → F.2 37 (fs + j) = M.2 25 (200 * z + j))) ∧
  (F.2 35 o = nI i ∧ F.2 36 o = nI t0 ∧ ∀ j, j < i → F.2 37 (t0 + j) = nI (pl j)) ∧ (M.2 27 o = 1 ∧ M.2 24 o = nI c ∧ ∀ j, j < c → M.2 25 (200 * o + j) = nI (pl j))
theorem ROM_end {F M : Sg} {nb no o c t0 : Nat} {pl : Nat → Nat} (ho : o < no) (hc : 1 ≤ c) (h : ROM F M nb no o c t0 c pl) : ROs F M nb no := by
  obtain ⟨⟨e30, e31, e32, e33, e34⟩, h2, ⟨h3, h4⟩, h5, h6, h7, h8, ⟨h9, h10, h11⟩, h12, h13, h14⟩ := h
  refine ⟨⟨e30, e31, e32, e33, e34, ?_⟩, h2, by rw [h4]; exact h3, h5, h6, fun z hz => ?_⟩
  · funext z
    by_cases e : z = o
    · rw [e, h9, h13]
    · exact h7 z e
  · by_cases e : z = o
    · subst e
      exact Or.inr ⟨h12, ho, c, t0, hc, h13, h10, by rw [h4]; exact Nat.le_refl _, fun j hj => by rw [h11 j hj, h14 j hj]⟩
    · rcases h8 z hz e with q | ⟨q1, q2, n, fs, q3, q4, q5, q6, q7⟩
      · exact Or.inl q
      · exact Or.inr ⟨q1, q2, n, fs, q3, q4, q5, by rw [h4]; omega, q7⟩
theorem RY_gone1 {F18 F19 F20 F21 F22 F23 F24 F25 F26 F27 : Nat → Int32} {f9 f10 : Int32} {M1 M2 M11 M12 M13 M14 M15 M16 M17 M26 : Nat → Int32} {m10 m6 : Int32} {nk nb b p t : Nat} (h : RY F18 F19 F20 F21 F22 F23 F24 F25 F26 F27 f9 f10 M1 M2 M11 M12 M13 M14 M15 M16 M17 M26 m10 m6 nk nb) (hb : b < nb) (hp : p < 24) (h1 : M11 b = 1) (h25 : F25 b = nI p) (ht1 : 1 ≤ t) (ht2 : t ≤ 500) : RY F18 F19 F20 F21 F22 F23 F24 (upd F25 b (-1)) (upd F26 b (nI t)) (upd F27 p (-2)) f9 f10 M1 M2 (upd M11 b 2) M12 M13 M14 M15 M16 (upd M17 p (-2)) (upd M26 b (nI t)) m10 m6 nk nb := by
  have g := RY_out h hb hp h1 h25
  obtain ⟨⟨e18, e21, e22, e23, e24, e27, e26⟩, ⟨f9, m10, hnb, f10⟩, h3, h4, h5, h6⟩ := g
  refine ⟨⟨e18, e21, e22, e23, e24, e27, by rw [e26]⟩, ⟨f9, m10, hnb, f10⟩, h3, fun c hc => ⟨(h4 c hc).1, by rw [pk_un (by omega)]; exact (h4 c hc).2⟩, fun q hq => ?_, fun c hc => ?_⟩
  · rcases h5 q hq with a | ⟨b2, a1, a2, a3, a4⟩
    · exact Or.inl a
    · have hne : b2 ≠ b := fun z => by
        subst z
        rw [pk_us] at a3
        exact absurd a3 (by decide)
      exact Or.inr ⟨b2, a1, a2, by rw [pk_un hne] at a3 ⊢; exact a3, a4⟩
  · by_cases e : c = b
    · subst e
      exact Or.inr (Or.inr ⟨pk_us, pk_us, t, ht1, ht2, pk_us⟩)
    · have := h6 c hc
      rw [pk_un (f := M11) e] at this
      rw [pk_un (f := M11) e, pk_un (f := M26) e]
      exact this
theorem RY_gone0 {F18 F19 F20 F21 F22 F23 F24 F25 F26 F27 : Nat → Int32} {f9 f10 : Int32} {M1 M2 M11 M12 M13 M14 M15 M16 M17 M26 : Nat → Int32} {m10 m6 : Int32} {nk nb b t : Nat} (h : RY F18 F19 F20 F21 F22 F23 F24 F25 F26 F27 f9 f10 M1 M2 M11 M12 M13 M14 M15 M16 M17 M26 m10 m6 nk nb) (hb : b < nb) (h1 : M11 b = 0) (h25 : F25 b = -1) (ht1 : 1 ≤ t) (ht2 : t ≤ 500) : RY F18 F19 F20 F21 F22 F23 F24 F25 (upd F26 b (nI t)) F27 f9 f10 M1 M2 (upd M11 b 2) M12 M13 M14 M15 M16 M17 (upd M26 b (nI t)) m10 m6 nk nb := by
  obtain ⟨⟨e18, e21, e22, e23, e24, e27, e26⟩, ⟨f9, m10, hnb, f10⟩, h3, h4, h5, h6⟩ := h
  refine ⟨⟨e18, e21, e22, e23, e24, e27, by rw [e26]⟩, ⟨f9, m10, hnb, f10⟩, h3, fun c hc => ⟨(h4 c hc).1, by rw [pk_un (by omega)]; exact (h4 c hc).2⟩, fun q hq => ?_, fun c hc => ?_⟩
  · rcases h5 q hq with a | ⟨b2, a1, a2, a3, a4⟩
    · exact Or.inl a
    · have hne : b2 ≠ b := fun z => by
        subst z
        rw [h1] at a3
        exact absurd a3 (by decide)
      exact Or.inr ⟨b2, a1, a2, by rw [pk_un hne]; exact a3, a4⟩
  · by_cases e : c = b
    · subst e
      exact Or.inr (Or.inr ⟨pk_us, h25, t, ht1, ht2, pk_us⟩)
    · rw [pk_un e, pk_un e]
      exact h6 c hc
