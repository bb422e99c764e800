theorem q_ck00 {α : Type} {n : Nat} (h : 0 < n) (hn : n < 2 ^ 31) (x : Option α) : fb_ck 0 n x = x := q_ckn h hn x
def mkS (T : Sg) (g : Nat → Int32) (i v : Nat) : Sg := sS (sS (sW T 14 g) 4 (nI i)) 5 (nI v)
theorem mk_step (T : Sg) (g : Nat → Int32) (i v : Nat) (x c d : Int32) : sS (sS (sA (mkS T g i v) 14 (nI i) x) 4 c) 5 d = sS (sS (sW T 14 (upd g (nI i).toNatClampNeg x)) 4 c) 5 d := by
  refine Prod.ext ?_ ?_
  · funext j
    show (if j = 5 then d else if j = 4 then c else if j = 5 then nI v else if j = 4 then nI i else T.1 j) = (if j = 5 then d else if j = 4 then c else T.1 j)
    by_cases h5 : j = 5
    · rw [if_pos h5, if_pos h5]
    · by_cases h4 : j = 4
      · simp only [if_neg h5, if_pos h4]
      · simp only [if_neg h5, if_neg h4]
  · show va_up (va_up T.2 14 g) 14 (upd (va_up T.2 14 g 14) (nI i).toNatClampNeg x) = va_up T.2 14 (upd g (nI i).toNatClampNeg x)
    rw [bx_uu]
    rfl
theorem makeF_l {T : Sg} {len wv f : Nat → Int32} {nl k room : Nat} (h : FL T len wv nl k) (h13 : T.2 13 = f) (hr : room ≤ 200) : ∀ (c n i v : Nat) (pl : Nat → Nat) (w : Nat) (g : Nat → Int32), Chn len nl (fun v => lgn len wv f v nl) c v pl w → c + 1 < n → i ≤ room → v ≤ 2000 →
    (i + c ≤ room → pX1_make_l20 n (mkS T g i v) (nI k) (nI room) (nI i) = some (1, mkS T (fun j => if i ≤ j ∧ j < i + c then nI (pl (j - i)) else g j) (i + c) w)) ∧ (room < i + c → ∃ g2 a b, pX1_make_l20 n (mkS T g i v) (nI k) (nI room) (nI i) = some (0, mkS T g2 a b)) := by
  have h6 := h.1.1
  intro c
  induction c with
  | zero =>
    intro n i v pl w g hc hn hi hv
    obtain ⟨n, rfl⟩ : ∃ k, n = k + 1 := ⟨n - 1, by omega⟩
    obtain ⟨c1, rfl⟩ := hc
    dsimp only at c1
    refine ⟨fun _ => ?_, fun q => absurd q (by omega)⟩
    have hF2 : FL (mkS T g i w) len wv nl k := h
    have h132 : (mkS T g i w).2 13 = f := h13
    have e : (fun j => if i ≤ j ∧ j < i + 0 then nI (pl (j - i)) else g j) = g := by
      funext j
      rw [if_neg (by omega)]
    rw [pX1_make_l20, if_neg (nI_nlt (by omega) (by omega)), r_lgF hF2 (v := w) rfl hv, q_bd, q_vl, h132, c1, if_pos (show (-1 : Int32) = -1 from rfl), q_cb1, e]
    rfl
  | succ c ih =>
    intro n i v pl w g hc hn hi hv
    obtain ⟨n, rfl⟩ : ∃ k, n = k + 1 := ⟨n - 1, by omega⟩
    obtain ⟨q, hq, c1, c2, c3, c4⟩ := hc
    dsimp only at c1
    obtain ⟨e1, hge, hle⟩ := h.1.2 q hq
    have hF2 : FL (mkS T g i v) len wv nl k := h
    have h132 : (mkS T g i v).2 13 = f := h13
    have h11 : (mkS T g i v).2 11 = len := h.2.2.2.1
    rw [pX1_make_l20, if_neg (nI_nlt (by omega) (by omega)), r_lgF hF2 (v := v) rfl hv, q_bd, q_vl, h132, c1, if_neg (q_m1 (by omega))]
    by_cases hir : i = room
    · refine ⟨fun z => absurd z (by omega), fun _ => ⟨g, i, v, ?_⟩⟩
      obtain ⟨n, rfl⟩ : ∃ k, n = k + 1 := ⟨n - 1, by omega⟩
      rw [if_pos (nI_le (by omega) (by omega)), q_vl, nI_1, pX1_make_l20, if_pos (nI_lt (by omega) (by omega)), q_cb0]
    · have hlt : i < room := by omega
      rw [if_neg (nI_ge hlt (by omega)), q_ckn (show q < 6 by omega) (by decide), q_ckn (show i < 200 by omega) (by decide), q_st, q_st, q_ckn (show i < 200 by omega) (by decide), q_st, q_vl, h11, q_cl (show q < 2 ^ 31 by omega), e1, nI_1]
      have hst : sS (sS (sA (mkS T g i v) 14 (nI i) (nI (lnk len q))) 4 ((sA (mkS T g i v) 14 (nI i) (nI (lnk len q))).1 4 + 1)) 5 ((sS (sA (mkS T g i v) 14 (nI i) (nI (lnk len q))) 4 ((sA (mkS T g i v) 14 (nI i) (nI (lnk len q))).1 4 + 1)).1 5 - (sS (sA (mkS T g i v) 14 (nI i) (nI (lnk len q))) 4 ((sA (mkS T g i v) 14 (nI i) (nI (lnk len q))).1 4 + 1)).2 14 (nI i).toNatClampNeg) = mkS T (upd g i (nI (lnk len q))) (i + 1) (v - lnk len q) := by
        rw [mk_step, q_cl (show i < 2 ^ 31 by omega)]
        show sS (sS (sW T 14 (upd g i (nI (lnk len q)))) 4 (nI i + 1)) 5 (nI v - upd g (nI i).toNatClampNeg (nI (lnk len q)) i) = _
        rw [q_cl (show i < 2 ^ 31 by omega), pk_us, pk_sub c3, nI_1]
        rfl
      rw [hst]
      obtain ⟨i1, i2⟩ := ih n (i + 1) (v - lnk len q) _ w (upd g i (nI (lnk len q))) c4 (by omega) (by omega) (by omega)
      refine ⟨fun z => ?_, fun z => i2 (by omega)⟩
      rw [i1 (by omega)]
      have e : i + 1 + c = i + (c + 1) := by omega
      rw [e]
      congr 3
      funext j
      by_cases z : j = i
      · rw [z, if_neg (by omega), pk_us, if_pos (by omega), Nat.sub_self, c2]
      · by_cases y : i + 1 ≤ j ∧ j < i + (c + 1)
        · rw [if_pos y, if_pos (by omega), show j - (i + 1) + 1 = j - i by omega]
        · rw [if_neg y, if_neg (by omega), pk_un z]
/-! a block more -/
theorem RY_add {F18 F19 F20 F21 F22 F23 F24 F25 F26 F27 : Nat → Int32} {f9 f10 : Int32} {M1 M2 M11 M12 M13 M14 M15 M16 M17 M26 : Nat → Int32} {m10 m6 : Int32} {nk nb k : Nat} {s lot : Int32} (h : RY F18 F19 F20 F21 F22 F23 F24 F25 F26 F27 f9 f10 M1 M2 M11 M12 M13 M14 M15 M16 M17 M26 m10 m6 nk nb) (hb : nb < 200) (hk : k < nk) : RY (upd F18 nb (nI k)) (upd F19 nb (M1 k)) (upd F20 nb (M2 k)) (upd F21 nb s) (upd F22 nb lot) (upd F23 nb f10) F24 (upd F25 nb (-1)) F26 F27 (nI (nb + 1)) f10 M1 M2 (upd M11 nb 0) (upd M12 nb (nI k)) (upd M13 nb s) (upd M14 nb lot) (upd M15 nb m6) (upd M16 nb 0) M17 M26 (nI (nb + 1)) m6 nk (nb + 1) := by
  obtain ⟨⟨e18, e21, e22, e23, e24, e27, e26⟩, ⟨f9, m10, hnb, f10⟩, h3, h4, h5, h6⟩ := h
  have e16 : upd M16 nb 0 = M16 := by
    funext j
    by_cases c : j = nb
    · rw [c, pk_us, (h4 nb (Nat.le_refl _)).1]
    · rw [pk_un c]
  refine ⟨⟨by rw [e18], by rw [e21], by rw [e22], by rw [e23, f10], by rw [e16]; exact e24, e27, e26⟩, ⟨rfl, rfl, by omega, f10⟩, fun b hb2 => ?_, fun b hb2 => ?_, fun p hp => ?_, fun b hb2 => ?_⟩
  · by_cases c : b = nb
    · rw [c, pk_us, pk_us, pk_us]
      exact ⟨k, hk, rfl, rfl, rfl⟩
    · rw [pk_un c, pk_un c, pk_un c]
      exact h3 b (by omega)
  · rw [e16]
    exact h4 b (by omega)
  · rcases h5 p hp with q | ⟨b, q1, q2, q3, q4⟩
    · exact Or.inl q
    · exact Or.inr ⟨b, by omega, q2, by rw [pk_un (by omega)]; exact q3, by rw [pk_un (by omega)]; exact q4⟩
  · by_cases c : b = nb
    · rw [c, pk_us, pk_us]
      exact Or.inl ⟨rfl, rfl, (h4 nb (Nat.le_refl _)).2⟩
    · rw [pk_un c, pk_un c]
      exact h6 b (by omega)
theorem RO_add {F30 F31 F32 F33 F34 F35 F36 F37 : Nat → Int32} {f13 f14 f15 : Int32} {M11 M19 M20 M21 M22 M23 M24 M25 M27 : Nat → Int32} {m11 : Int32} {nb no : Nat} (h : RO F30 F31 F32 F33 F34 F35 F36 F37 f13 f14 f15 M11 M19 M20 M21 M22 M23 M24 M25 M27 m11 nb no) : RO F30 F31 F32 F33 F34 F35 F36 F37 f13 f14 f15 (upd M11 nb 0) M19 M20 M21 M22 M23 M24 M25 M27 m11 (nb + 1) no := by
  have e : ct (fun b => decide (upd M11 nb 0 b = 2)) (nb + 1) = ct (fun b => decide (M11 b = 2)) nb := by
    rw [ct, ct_congr (Q := fun b => decide (M11 b = 2)) (fun b hb => by rw [pk_un (by omega)]), pk_us]
    simp
  obtain ⟨h1, h2, h3, h4, h5, h6⟩ := h
  refine ⟨h1, h2, by rw [e]; exact h3, h4, h5, fun o ho => ?_⟩
  rcases h6 o ho with q | ⟨q1, q2, n, fs, q3, q4, q5, q6, q7⟩
  · exact Or.inl q
  · exact Or.inr ⟨q1, q2, n, fs, q3, q4, q5, by rw [e]; exact q6, q7⟩
theorem add_F {F : Sg} {nb : Nat} (f9 : F.1 9 = nI nb) (hb : nb < 200) (a b c d e : Int32) : pX6_add F a b c d e = some (sS (sA (sA (sA (sA (sA (sA (sA F 18 (nI nb) a) 19 (nI nb) b) 20 (nI nb) c) 21 (nI nb) d) 22 (nI nb) e) 23 (nI nb) (F.1 10)) 25 (nI nb) (-1)) 9 (nI (nb + 1))) := by
  unfold pX6_add
  simp only [q_st, sA_1, f9, q_ckn hb (by decide), nI_1]
theorem add_M {M : Sg} {nb : Nat} (m10 : M.1 10 = nI nb) (hb : nb < 200) (a b c : Int32) : pX8_blockOf M a b c = some (sS (sA (sA (sA (sA (sA (sA M 11 (nI nb) 0) 12 (nI nb) a) 13 (nI nb) b) 14 (nI nb) c) 15 (nI nb) (M.1 6)) 16 (nI nb) 0) 10 (nI (nb + 1))) := by
  unfold pX8_blockOf
  simp only [q_st, sA_1, m10, q_ckn hb (by decide), nI_1]
theorem Rel_add {F M : Sg} {nk nl nr nb no k : Nat} {s lot : Int32} (h : RelN F M nk nl nr nb no) (hb : nb < 200) (hk : k < nk) : RelN (sS (sA (sA (sA (sA (sA (sA (sA F 18 (nI nb) (nI k)) 19 (nI nb) (F.2 8 k)) 20 (nI nb) (F.2 9 k)) 21 (nI nb) s) 22 (nI nb) lot) 23 (nI nb) (F.1 10)) 25 (nI nb) (-1)) 9 (nI (nb + 1))) (sS (sA (sA (sA (sA (sA (sA M 11 (nI nb) 0) 12 (nI nb) (nI k)) 13 (nI nb) s) 14 (nI nb) lot) 15 (nI nb) (M.1 6)) 16 (nI nb) 0) 10 (nI (nb + 1))) nk nl nr (nb + 1) no := by
  obtain ⟨hK, hB, hY, hO, hE⟩ := h
  have e8 : F.2 8 = M.2 1 := hK.1.1
  have e9 : F.2 9 = M.2 2 := hK.1.2.1
  refine ⟨hK, hB, ?_, ?_, hE⟩
  · show RY (upd (F.2 18) (nI nb).toNatClampNeg (nI k)) (upd (F.2 19) (nI nb).toNatClampNeg (F.2 8 k)) (upd (F.2 20) (nI nb).toNatClampNeg (F.2 9 k)) (upd (F.2 21) (nI nb).toNatClampNeg s) (upd (F.2 22) (nI nb).toNatClampNeg lot) (upd (F.2 23) (nI nb).toNatClampNeg (F.1 10)) (F.2 24) (upd (F.2 25) (nI nb).toNatClampNeg (-1)) (F.2 26) (F.2 27) (nI (nb + 1)) (F.1 10) (M.2 1) (M.2 2) (upd (M.2 11) (nI nb).toNatClampNeg 0) (upd (M.2 12) (nI nb).toNatClampNeg (nI k)) (upd (M.2 13) (nI nb).toNatClampNeg s) (upd (M.2 14) (nI nb).toNatClampNeg lot) (upd (M.2 15) (nI nb).toNatClampNeg (M.1 6)) (upd (M.2 16) (nI nb).toNatClampNeg 0) (M.2 17) (M.2 26) (nI (nb + 1)) (M.1 6) nk (nb + 1)
    rw [q_cl (by omega), e8, e9]
    exact RY_add hY hb hk
  · show RO (F.2 30) (F.2 31) (F.2 32) (F.2 33) (F.2 34) (F.2 35) (F.2 36) (F.2 37) (F.1 13) (F.1 14) (F.1 15) (upd (M.2 11) (nI nb).toNatClampNeg 0) (M.2 19) (M.2 20) (M.2 21) (M.2 22) (M.2 23) (M.2 24) (M.2 25) (M.2 27) (M.1 11) (nb + 1) no
    rw [q_cl (by omega)]
    exact RO_add hO
theorem addp_l {nk nl nr no k c : Nat} {pl : Nat → Nat} {x2 lot : Int32} (hk : k < nk) : ∀ (d n m i nb : Nat) (F M : Sg), RelN F M nk nl nr nb no → i + d = c → nb + d ≤ 200 → c ≤ 200 → d < n → d < m → F.1 4 = nI c → (∀ j, j < c → F.2 14 j = nI (pl j)) → (∀ j, j < c → M.2 10 j = nI (pl j)) → M.2 8 0 = lot →
    ∃ F2 M2, pX7_addPlanned_l2 n F (nI k) lot (nI i) = some F2 ∧ pX8_cut_l118 m M (nI k) x2 (nI c) (nI i) = pX8_cut_l118 1 M2 (nI k) x2 (nI c) (nI c) ∧ RelN F2 M2 nk nl nr (nb + d) no ∧ F2.1 4 = nI c ∧ F2.1 5 = F.1 5 := by
  intro d
  induction d with
  | zero =>
    intro n m i nb F M h hi hnb hc hn hm h4 hp1 hp2 hlot
    obtain ⟨n, rfl⟩ : ∃ k, n = k + 1 := ⟨n - 1, by omega⟩
    obtain ⟨m, rfl⟩ : ∃ k, m = k + 1 := ⟨m - 1, by omega⟩
    obtain rfl : i = c := by omega
    refine ⟨F, M, ?_, ?_, h, h4, rfl⟩
    · rw [pX7_addPlanned_l2, h4, if_pos (nI_le (Nat.le_refl _) (by omega))]
    · rw [pX8_cut_l118, pX8_cut_l118, if_pos (nI_le (Nat.le_refl _) (by omega)), if_pos (nI_le (Nat.le_refl _) (by omega))]
  | succ d ih =>
    intro n m i nb F M h hi hnb hc hn hm h4 hp1 hp2 hlot
    obtain ⟨n, rfl⟩ : ∃ k, n = k + 1 := ⟨n - 1, by omega⟩
    obtain ⟨m, rfl⟩ : ∃ k, m = k + 1 := ⟨m - 1, by omega⟩
    have hk5 : nk ≤ 5 := h.1.2.2.1.2.2.1
    have f9 : F.1 9 = nI nb := h.2.2.1.2.1.1
    have m10 : M.1 10 = nI nb := h.2.2.1.2.1.2.1
    rw [pX7_addPlanned_l2, h4, if_neg (lp_c (by omega) (by omega)), q_ckn (show k < 5 by omega) (by decide), q_ckn (show k < 5 by omega) (by decide), q_ckn (show i < 200 by omega) (by decide), q_cl (show k < 2 ^ 31 by omega), q_cl (show i < 2 ^ 31 by omega), add_F f9 (by omega), q_bd, q_vl, nI_1]
    rw [pX8_cut_l118, if_neg (lp_c (by omega) (by omega)), q_ckn (show i < 2000 by omega) (by decide), q_ck00 (show 0 < 60 by decide) (by decide), q_cl0, hlot, q_cl (show i < 2 ^ 31 by omega), add_M m10 (by omega), q_bd, q_vl, nI_1, hp1 i (by omega), hp2 i (by omega)]
    obtain ⟨F2, M2, t1, t2, t3, t4, t5⟩ := ih n m (i + 1) (nb + 1) _ _ (Rel_add (s := nI (pl i)) (lot := lot) h (by omega) hk) (by omega) (by omega) hc (by omega) (by omega) h4 hp1 hp2 hlot
    refine ⟨F2, M2, t1, t2, ?_, t4, t5⟩
    have e : nb + 1 + d = nb + (d + 1) := by omega
    rw [e] at t3
    exact t3
