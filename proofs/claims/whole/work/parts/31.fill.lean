theorem nI_min {a b : Nat} (ha : a < 2 ^ 31) (hb : b < 2 ^ 31) : (if nI a < nI b then nI a else nI b) = nI (if a < b then a else b) := by
  by_cases c : a < b
  · rw [if_pos (nI_lt c hb), if_pos c]
  · rw [if_neg (nI_nlt (by omega) ha), if_neg c]
theorem RM_off {F M : Sg} {nk nl nr nb no o c t0 i : Nat} {pl : Nat → Nat} (h : RM F M nk nl nr nb no o c t0 i pl) (x : Int32) : RM (sS F 0 x) (sS M 7 x) nk nl nr nb no o c t0 i pl := by
  obtain ⟨hK, hB, hY, hE, hO⟩ := h
  exact ⟨hK, hB, hY, ⟨rfl, hE.2⟩, hO⟩
theorem tk_l {nk nl nr nb no o c t0 m e : Nat} {pl : Nat → Nat} {ar : Int32} (hk : nk ≤ 5) (ho : o < 40) (hc : c ≤ 200) (he1 : 1 ≤ e) (he : e ≤ 3600) (hm1 : 1 ≤ m) (hm : m ≤ 500) (hlt : ∀ i, i < c → i * e < m) (hge : m ≤ c * e) : ∀ (d n n2 i : Nat) (F M : Sg) (P : Nat → Bool), i + d = c → d < n → d < n2 → RM F M nk nl nr nb no o c t0 i pl → Pck (M.2 16) nb d P (fun j => pl (i + j)) → (∀ b, b < nb → candb M (M.2 19 o) (M.2 20 o) b = P b) → M.2 21 o * M.2 22 o = ar →
    ∃ F2 M2, pX7_takeBlocks_l42 n F (nI o) (nI e) ar (nI (m - i * e)) (nI i) = some F2 ∧ pX8_fill_l194 n2 M (nI o) (nI e) (nI c) (nI (m - i * e)) (nI i) = some (nI c, sS M2 1 0) ∧ RM F2 M2 nk nl nr nb no o c t0 c pl := by
  intro d
  induction d with
  | zero =>
    intro n n2 i F M P hi hn hn2 hR hp hP har
    obtain ⟨n, rfl⟩ : ∃ k, n = k + 1 := ⟨n - 1, by omega⟩
    obtain ⟨n2, rfl⟩ : ∃ k, n2 = k + 1 := ⟨n2 - 1, by omega⟩
    obtain rfl : i = c := by omega
    refine ⟨F, M, ?_, ?_, hR⟩
    · rw [pX7_takeBlocks_l42, show m - i * e = 0 by omega]
      by_cases z : (200 : Int32) ≤ nI i
      · rw [if_pos z]
      · rw [if_neg z, if_pos (by decide)]
    · rw [pX8_fill_l194, if_pos (nI_le (Nat.le_refl _) (by omega)), r_ansM, q_b2]
  | succ d ih =>
    intro n n2 i F M P hi hn hn2 hR hp hP har
    obtain ⟨n, rfl⟩ : ∃ k, n = k + 1 := ⟨n - 1, by omega⟩
    obtain ⟨n2, rfl⟩ : ∃ k, n2 = k + 1 := ⟨n2 - 1, by omega⟩
    obtain ⟨p1, p2, p3, p4⟩ := hp
    simp only [Nat.add_zero] at p1 p2 p3 p4
    have hY := hR.2.2.1
    have hnb : nb ≤ 200 := hY.2.1.2.2.1
    have hie := hlt i (by omega)
    have h30 : F.2 30 = M.2 19 := hR.2.2.2.2.1.1
    have h31 : F.2 31 = M.2 20 := hR.2.2.2.2.1.2.1
    have hbst : bst (candb M (M.2 19 o) (M.2 20 o)) (M.2 16) nb = nI (pl i) := by rw [bst_congr nb hP]; exact p1
    have hcand : candb M (M.2 19 o) (M.2 20 o) (pl i) = true := by rw [hP _ p2]; exact p3
    have h2 : M.2 11 (pl i) ≠ 2 := by
      intro q
      have hc0 : cur M (pl i) = 0 := by unfold cur; rw [if_pos q]
      simp [candb, hc0] at hcand
    have h25 : M.2 25 (200 * o + i) = nI (pl i) := hR.2.2.2.2.2.2.2.2.2.2.2.2.2.2 i (by omega)
    have hmin : (if m - i * e < e then m - i * e else e) ≤ 500 ∧ 1 ≤ (if m - i * e < e then m - i * e else e) ∧ (if m - i * e < e then m - i * e else e) ≤ m - i * e := by split <;> omega
    have hsub : (m - i * e) - (if m - i * e < e then m - i * e else e) = m - (i + 1) * e := by
      have : (i + 1) * e = i * e + e := by rw [Nat.add_mul, Nat.one_mul]
      split <;> omega
    obtain ⟨F1, F2, N, u1, u2, u3, u4, u5, u6, u7⟩ := take_step (t := if m - i * e < e then m - i * e else e) (ar := ar) hR ho rfl p2 h2 hmin.2.1 hmin.1
    have hEE := u4.2.2.2.1
    obtain ⟨E1, E2, W, H, w1, w2, w3, w4, w5, w6, w7, w8, w9⟩ := id hEE
    have h21 : F2.2 21 = N.2 13 := u4.2.2.1.1.2.1
    have har2 : pX2_area F2 = some (F2.1 11 * F2.1 12) := rfl
    obtain ⟨k4, k5, k7, k6, k1, k2, k12, k13, k15, k16, k19, k20, k21, k22, k25⟩ := id u5
    have hx : F2.1 0 + ((F2.1 11 * F2.1 12 - ar * nI (if m - i * e < e then m - i * e else e)) * F2.2 21 (pl i)) / 100 = N.1 7 + ((N.1 4 * N.1 5 - ar * nI (if m - i * e < e then m - i * e else e)) * N.2 13 (pl i)) / 100 := by
      rw [E1, w5, w6, w7, w8, h21]
    obtain ⟨F3, M3, v1, v2, v3⟩ := ih n n2 (i + 1) _ _ (fun b => P b && (b != pl i)) (by omega) (by omega) (by omega) (RM_off u4 (N.1 7 + ((N.1 4 * N.1 5 - ar * nI (if m - i * e < e then m - i * e else e)) * N.2 13 (pl i)) / 100)) (by
        show Pck (N.2 16) nb d _ _
        rw [k16]
        have e : (fun j => pl (i + 1 + j)) = (fun j => pl (i + (j + 1))) := by
          funext j
          congr 1
          omega
        rw [e]
        exact p4) (fun b hb => by
        show candb N (N.2 19 o) (N.2 20 o) b = _
        rw [k19, k20, cand_kept u5 u6, hP b hb]) (by
        show N.2 21 o * N.2 22 o = ar
        rw [k21, k22]
        exact har)
    refine ⟨F3, M3, ?_, ?_, v3⟩
    · rw [pX7_takeBlocks_l42, if_neg (show ¬ (200 : Int32) ≤ nI i from nI_ge (b := 200) (by omega) (by decide)), if_neg (nI_nle (by omega) (by omega)), q_ckn ho (by decide), q_ckn ho (by decide), q_cl (show o < 2 ^ 31 by omega), h30, h31, r_long hY hk, q_bd, q_vl, hbst, if_neg (q_m1 (by omega)), q_vl, nI_min (by omega) (by omega), u1, q_bd, u2, q_bd, har2, q_bd, q_ckn (show pl i < 200 by omega) (by decide), q_c0, q_st, q_vl, q_vl, q_cl (show pl i < 2 ^ 31 by omega), hx, pk_sub hmin.2.2, hsub, nI_1]
      exact v1
    · rw [pX8_fill_l194, if_neg (lp_c (by omega) (by omega)), q_vl, nI_min (by omega) (by omega), q_vl, ix200, q_ckn (show 200 * o + i < 8000 by omega) (by decide), q_ckn ho (by decide), q_ckn ho (by decide), q_cl (show 200 * o + i < 2 ^ 31 by omega), q_cl (show o < 2 ^ 31 by omega), h25, har, u3, q_bd, q_vl, pk_sub hmin.2.2, hsub, nI_1]
      exact v2
theorem ct_updv {A : Nat → Int32} {p : Nat} {v : Int32} (hp : A p ≠ v) : ∀ n, p < n → ct (fun b => decide (upd A p v b = v)) n = ct (fun b => decide (A b = v)) n + 1 := by
  intro n
  induction n with
  | zero => intro h; omega
  | succ n ih =>
    intro h
    rw [ct, ct]
    by_cases e : p = n
    · subst e
      rw [ct_congr (Q := fun b => decide (A b = v)) (fun b hb => by rw [pk_un (by omega)]), pk_us]
      simp [hp]
    · rw [ih (by omega), pk_un (by omega)]
      omega
theorem RO_by {F30 F31 F32 F33 F34 F35 F36 F37 : Nat → Int32} {f13 f14 f15 : Int32} {M11 M19 M20 M21 M22 M23 M24 M25 M27 bf : Nat → Int32} {m11 : Int32} {nb no o : Nat} (h : RO F30 F31 F32 F33 F34 F35 F36 F37 f13 f14 f15 M11 M19 M20 M21 M22 M23 M24 M25 M27 m11 nb no) (hnb : nb ≤ 200) (h27 : M27 o = 0) (hb : ∀ z, z < 200 * o ∨ 200 * o + 200 ≤ z → bf z = M25 z) : RO F30 F31 F32 F33 F34 F35 F36 F37 f13 f14 f15 M11 M19 M20 M21 M22 M23 M24 bf M27 m11 nb no := by
  have hct := ct_le (fun b => decide (M11 b = 2)) nb
  obtain ⟨h1, h2, h3, h4, h5, h6⟩ := h
  refine ⟨h1, h2, h3, h4, h5, fun z hz => ?_⟩
  rcases h6 z hz with q | ⟨q1, q2, n, fs, q3, q4, q5, q6, q7⟩
  · exact Or.inl q
  · refine Or.inr ⟨q1, q2, n, fs, q3, q4, q5, q6, fun j hj => ?_⟩
    have hne : z ≠ o := fun e => by
      rw [e, h27] at q1
      exact absurd q1 (by decide)
    rw [hb _ (by omega)]
    exact q7 j hj
