/-! the first run leaves the belt -/
def shf (a : Nat → Int32) (i n : Nat) : Nat → Int32 := fun j => if i ≤ j ∧ j < n then a (j + 1) else a j
theorem shf_step (a : Nat → Int32) (i n : Nat) (hi : i < n) : shf (upd a i (a (i + 1))) (i + 1) n = shf a i n := by
  funext j
  unfold shf
  by_cases c : j = i
  · rw [c, if_neg (by omega), pk_us, if_pos (by omega)]
  · by_cases d : i + 1 ≤ j ∧ j < n
    · rw [if_pos d, if_pos (by omega), pk_un (by omega)]
    · rw [if_neg d, if_neg (by omega), pk_un c]
theorem shf_end (a : Nat → Int32) (n : Nat) : shf a n n = a := by
  funext j
  unfold shf
  rw [if_neg (by omega)]
def sW3 (T : Sg) (a b c : Nat → Int32) : Sg := sW (sW (sW T 6 a) 7 b) 8 c
theorem sW3_6 (T : Sg) (a b c : Nat → Int32) (i x : Int32) : sA (sW3 T a b c) 6 i x = sW3 T (upd a i.toNatClampNeg x) b c := by
  refine Prod.ext rfl ?_
  funext j
  show va_up (va_up (va_up (va_up T.2 6 a) 7 b) 8 c) 6 (upd a i.toNatClampNeg x) j = va_up (va_up (va_up T.2 6 (upd a i.toNatClampNeg x)) 7 b) 8 c j
  unfold va_up
  by_cases h6 : j = 6
  · subst h6; simp
  · by_cases h7 : j = 7
    · subst h7; simp
    · by_cases h8 : j = 8
      · subst h8; simp
      · simp [h6, h7, h8]
theorem sW3_7 (T : Sg) (a b c : Nat → Int32) (i x : Int32) : sA (sW3 T a b c) 7 i x = sW3 T a (upd b i.toNatClampNeg x) c := by
  refine Prod.ext rfl ?_
  funext j
  show va_up (va_up (va_up (va_up T.2 6 a) 7 b) 8 c) 7 (upd b i.toNatClampNeg x) j = va_up (va_up (va_up T.2 6 a) 7 (upd b i.toNatClampNeg x)) 8 c j
  unfold va_up
  by_cases h7 : j = 7
  · subst h7; simp
  · by_cases h8 : j = 8
    · subst h8; simp
    · simp [h7, h8]
theorem sW3_8 (T : Sg) (a b c : Nat → Int32) (i x : Int32) : sA (sW3 T a b c) 8 i x = sW3 T a b (upd c i.toNatClampNeg x) := by
  unfold sW3
  rw [sA_W, sW_W, sW_s]
theorem shift_l {T : Sg} {n : Nat} (hn : n < 60) (m8 : T.1 8 = nI n) (x3 : Int32) : ∀ (d f i : Nat) (a b c : Nat → Int32), i + d = n → d < f → pX8_cut_l184 f (sW3 T a b c) x3 (nI i) = some (x3, sS (sW3 T (shf a i n) (shf b i n) (shf c i n)) 1 0) := by
  intro d
  induction d with
  | zero =>
    intro f i a b c hi hf
    obtain ⟨f, rfl⟩ : ∃ k, f = k + 1 := ⟨f - 1, by omega⟩
    obtain rfl : i = n := by omega
    have m8' : (sW3 T a b c).1 8 = nI i := m8
    rw [pX8_cut_l184, m8', if_pos (nI_le (Nat.le_refl _) (by omega)), r_ansM, q_b2, shf_end, shf_end, shf_end]
  | succ d ih =>
    intro f i a b c hi hf
    obtain ⟨f, rfl⟩ : ∃ k, f = k + 1 := ⟨f - 1, by omega⟩
    have m8' : (sW3 T a b c).1 8 = nI n := m8
    rw [pX8_cut_l184, m8', if_neg (lp_c (by omega) (by omega)), nI_1]
    simp only [q_ckn (show i < 60 by omega) (by decide), q_ckn (show i + 1 < 60 by omega) (by decide)]
    rw [q_st, q_st, q_st, q_vl, sW3_6, sW3_7, sW3_8, q_cl (show i < 2 ^ 31 by omega), q_cl (show i + 1 < 2 ^ 31 by omega)]
    rw [show (sW3 T a b c).2 6 = a from rfl, show (sW3 T (upd a i (a (i + 1))) b c).2 7 = b from rfl, show (sW3 T (upd a i (a (i + 1))) (upd b i (b (i + 1))) c).2 8 = c from rfl]
    rw [ih f (i + 1) _ _ _ (by omega) (by omega), shf_step a i n (by omega), shf_step b i n (by omega), shf_step c i n (by omega)]
theorem cpy_shf (f : Nat → Int32) (n : Nat) : va_cpy f f 1 0 n = shf f 0 n := by
  funext j
  unfold va_cpy shf
  by_cases c : j < n
  · rw [if_pos (by omega), if_pos (by omega), Nat.sub_zero, Nat.add_comm]
  · rw [if_neg (by omega), if_neg (by omega)]
theorem q_cc {α : Type} {n k : Nat} (h : n + 1 ≤ k) (hk : k < 2 ^ 31) (x : Option α) : fb_cc 1 0 (nI n) k x = x := by
  unfold fb_cc
  refine if_neg ?_
  have e1 : (1 : Int32).toNatClampNeg = 1 := by decide
  have e0 : (0 : Int32).toNatClampNeg = 0 := by decide
  rw [e1, e0, q_cl (by omega)]
  rintro (q | q | q | q | q)
  · exact absurd q (by decide)
  · exact absurd q (by decide)
  · exact nI_pos (by omega) q
  · omega
  · omega
theorem sm_shift (sz : Nat → Nat) : ∀ n, sm sz (n + 1) = sz 0 + sm (fun r => sz (r + 1)) n := by
  intro n
  induction n with
  | zero => simp [sm]
  | succ n ih => rw [sm, ih, sm]; omega
theorem sC_2 (S : Sg) (k j : Nat) (sp dp n : Int32) : (sC S k sp dp n).2 j = if j = k then va_cpy (S.2 k) (S.2 k) sp.toNatClampNeg dp.toNatClampNeg n.toNatClampNeg else S.2 j := rfl
theorem RB_drop {F15 F16 F17 M6 M7 M8 : Nat → Int32} {f6 f7 f8 m8 m9 : Int32} {nk n : Nat} (h : RB F15 F16 F17 f6 f7 f8 M6 M7 M8 m8 m9 nk (n + 1)) : RB (shf F15 0 n) (shf F16 0 n) (shf F17 0 n) (nI n) (f7 - M7 0) f8 (shf M6 0 n) (shf M7 0 n) (shf M8 0 n) (nI n) m9 nk n := by
  obtain ⟨⟨e1, e2, e3, e4⟩, ⟨f6, m8, hnr⟩, sz, h1, h2, h3, h4, h5⟩ := h
  have hs := sm_shift sz n
  refine ⟨⟨by rw [e1], by rw [e2], by rw [e3], e4⟩, ⟨rfl, rfl, by omega⟩, fun r => sz (r + 1), fun r hr => ?_, ?_, by omega, fun r hr => ?_, fun r hr => ?_⟩
  · unfold shf
    rw [if_pos (by omega)]
    exact h1 (r + 1) (by omega)
  · rw [h2, (h1 0 (by omega)).1, pk_sub (by omega)]
    congr 1
    omega
  · unfold shf
    rw [if_pos (by omega)]
    exact h4 (r + 1) (by omega)
  · unfold shf
    rw [if_pos (by omega)]
    exact h5 (r + 1) (by omega)
theorem drop_F {F : Sg} {n : Nat} (f6 : F.1 6 = nI (n + 1)) (hn : n < 60) : pX0_dropFirst F = some (sC (sC (sC (sS (sS F 7 (F.1 7 - F.2 16 0)) 6 (nI n)) 15 1 0 (nI n)) 16 1 0 (nI n)) 17 1 0 (nI n)) := by
  unfold pX0_dropFirst
  rw [q_ck00 (by decide) (by decide), q_st, q_st, q_cl0]
  have e : (sS F 7 (F.1 7 - F.2 16 0)).1 6 - 1 = nI n := by
    show F.1 6 - 1 = nI n
    rw [f6, nI_pred]
  rw [e]
  have e1 : (sS (sS F 7 (F.1 7 - F.2 16 0)) 6 (nI n)).1 6 = nI n := rfl
  rw [e1, q_cc (by omega) (by decide), q_st]
  have e2 : (sC (sS (sS F 7 (F.1 7 - F.2 16 0)) 6 (nI n)) 15 1 0 (nI n)).1 6 = nI n := rfl
  rw [e2, q_cc (by omega) (by decide), q_st]
  have e3 : (sC (sC (sS (sS F 7 (F.1 7 - F.2 16 0)) 6 (nI n)) 15 1 0 (nI n)) 16 1 0 (nI n)).1 6 = nI n := rfl
  rw [e3, q_cc (by omega) (by decide), q_st]
/-- the end of cut, behind the blocks: what is left (w) is offcuts, and the first run goes -/
theorem cut_end {F M : Sg} {nk nl n nb no w c : Nat} {x1 : Int32} (h : RelN F M nk nl (n + 1) nb no) (hw : w ≤ 2000) :
    Sim (fb_st (sS F 0 ((F.1 0) + ((nI w * (F.1 11 * F.1 12)) / 100))) (fun S_29 => fb_bd (pX0_dropFirst S_29) (fun S_31 => some (nI c, sS S_31 1 0)))) (pX8_cut_l118 1 M x1 (nI w) (nI c) (nI c)) := by
  obtain ⟨hK, hB, hY, hO, hE⟩ := h
  obtain ⟨⟨e15, e16, e17, f8⟩, ⟨f6, m8, hnr⟩, -⟩ := id hB
  obtain ⟨E1, E2, wd, hg, w1, w2, w3, w4, w5, w6, w7, w8, w9⟩ := id hE
  rw [pX8_cut_l118, if_pos (by rw [Int32.le_iff_toInt_le]; exact Int.le_refl _), q_c0, q_st, q_st, q_st, q_vl]
  have e1 : (sS M 7 (M.1 7 + nI w * M.1 4 * M.1 5 / 100)).1 8 - 1 = nI n := by
    show M.1 8 - 1 = nI n
    rw [m8, nI_pred]
  rw [e1]
  have f6' : (sS F 0 (F.1 0 + nI w * (F.1 11 * F.1 12) / 100)).1 6 = nI (n + 1) := f6
  rw [drop_F f6' (by omega), q_bd]
  have L := shift_l (T := sS (sS M 7 (M.1 7 + nI w * M.1 4 * M.1 5 / 100)) 8 (nI n)) (n := n) (by omega) rfl (nI c) n 5000 0 (M.2 6) (M.2 7) (M.2 8) (by omega) (by omega)
  have eT : sW3 (sS (sS M 7 (M.1 7 + nI w * M.1 4 * M.1 5 / 100)) 8 (nI n)) (M.2 6) (M.2 7) (M.2 8) = sS (sS M 7 (M.1 7 + nI w * M.1 4 * M.1 5 / 100)) 8 (nI n) := by
    unfold sW3
    have a1 : sW (sS (sS M 7 (M.1 7 + nI w * M.1 4 * M.1 5 / 100)) 8 (nI n)) 6 (M.2 6) = sS (sS M 7 (M.1 7 + nI w * M.1 4 * M.1 5 / 100)) 8 (nI n) := sW_id (sS (sS M 7 (M.1 7 + nI w * M.1 4 * M.1 5 / 100)) 8 (nI n)) 6
    have a2 : sW (sS (sS M 7 (M.1 7 + nI w * M.1 4 * M.1 5 / 100)) 8 (nI n)) 7 (M.2 7) = sS (sS M 7 (M.1 7 + nI w * M.1 4 * M.1 5 / 100)) 8 (nI n) := sW_id (sS (sS M 7 (M.1 7 + nI w * M.1 4 * M.1 5 / 100)) 8 (nI n)) 7
    have a3 : sW (sS (sS M 7 (M.1 7 + nI w * M.1 4 * M.1 5 / 100)) 8 (nI n)) 8 (M.2 8) = sS (sS M 7 (M.1 7 + nI w * M.1 4 * M.1 5 / 100)) 8 (nI n) := sW_id (sS (sS M 7 (M.1 7 + nI w * M.1 4 * M.1 5 / 100)) 8 (nI n)) 8
    rw [a1, a2, a3]
  rw [eT, ← q_0] at L
  rw [L]
  refine ⟨nI c, _, _, rfl, rfl, Rel_tr 0 ⟨nk, nl, n, nb, no, hK, ?_, hY, hO, ?_⟩⟩
  · show RB (va_cpy (F.2 15) (F.2 15) 1 0 (nI n).toNatClampNeg) (va_cpy (F.2 16) (F.2 16) 1 0 (nI n).toNatClampNeg) (va_cpy (F.2 17) (F.2 17) 1 0 (nI n).toNatClampNeg) (nI n) (F.1 7 - F.2 16 0) (F.1 8) (shf (M.2 6) 0 n) (shf (M.2 7) 0 n) (shf (M.2 8) 0 n) (nI n) (M.1 9) nk n
    rw [q_cl (by omega), cpy_shf, cpy_shf, cpy_shf]
    have := RB_drop hB
    rw [← e16] at this ⊢
    exact this
  · refine ⟨?_, E2, wd, hg, w1, w2, w3, w4, w5, w6, w7, w8, w9⟩
    show F.1 0 + nI w * (F.1 11 * F.1 12) / 100 = M.1 7 + nI w * M.1 4 * M.1 5 / 100
    rw [E1, w5, w6, w7, w8, pk_mul, pk_mul, pk_mul, pk_mul, Nat.mul_assoc]
