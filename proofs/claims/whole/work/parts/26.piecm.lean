/-! PIECES, in the reference -/
theorem ix61 (a b : Nat) : 61 * nI a + nI b = nI (61 * a + b) := by rw [show (61 : Int32) = nI 61 from rfl, pk_mul, nI_add]
theorem ix61b (a b : Nat) : nI a * 61 + nI b = nI (a * 61 + b) := by rw [show (61 : Int32) = nI 61 from rfl, pk_mul, nI_add]
theorem q_c02 {α : Type} (x : Option α) : fb_c0 2 x = x := by unfold fb_c0; exact if_neg (by decide)
theorem nI_half {y : Nat} (h : y < 2 ^ 31) : nI y / 2 = nI (y / 2) := by rw [show (2 : Int32) = nI 2 from rfl, pk_div h (by decide) (by decide)]
theorem nI_max {a b : Nat} (ha : a < 2 ^ 31) (hb : b < 2 ^ 31) : (if nI a < nI b then nI b else nI a) = nI (if a < b then b else a) := by
  by_cases c : a < b
  · rw [if_pos (nI_lt c hb), if_pos c]
  · rw [if_neg (nI_nlt (by omega) ha), if_neg c]
theorem xy_lt {x y : Nat} (hx : x ≤ 60) (hy : y ≤ 60) : x * y ≤ 3600 := Nat.mul_le_mul hx hy
section PM
variable {M : Sg} {w h : Nat}
theorem pcH (hw : 1 ≤ w) (hh : 1 ≤ h) (k2 : Sg → Int32 → Int32 → Int32 → Option (Int32 × Sg)) (k13 : Sg → Int32 → Int32 → Int32 → Int32 → Option (Int32 × Sg)) {x y a0 : Nat} (hx : x ≤ 60) (hy : y ≤ 60) {f : Nat → Int32} (hrow : ∀ z, z < y → f (61 * x + z) = nI (Qp w h x z)) (ha : a0 ≤ Qp w h x y) : ∀ (d n i : Nat), i + d = y / 2 → d < n →
    pX8_piecesOf_l107 k2 k13 n (sW M 18 f) (nI w) (nI h) (nI x) (nI y) (nI (mxv (fun c => Qp w h x c + Qp w h x (y - c)) i a0)) (nI (i + 1)) = k13 (sW M 18 (upd f (61 * x + y) (nI (mxv (fun c => Qp w h x c + Qp w h x (y - c)) (y / 2) a0)))) (nI w) (nI h) (nI x) (nI (y + 1)) := by
  have hQ : Qp w h x y ≤ 3600 := Nat.le_trans (Q_xy hw hh x y) (xy_lt hx hy)
  intro d
  induction d with
  | zero =>
    intro n i hi hn
    obtain ⟨n, rfl⟩ : ∃ k, n = k + 1 := ⟨n - 1, by omega⟩
    obtain rfl : i = y / 2 := by omega
    rw [pX8_piecesOf_l107, q_c02, nI_half (by omega), if_pos (nI_lt (by omega) (by omega)), ix61, q_ckn (show 61 * x + y < 3721 by omega) (by decide), q_st, q_vl, sA_W, sW_W, sW_s, q_cl (show 61 * x + y < 2 ^ 31 by omega), nI_1]
  | succ d ih =>
    intro n i hi hn
    obtain ⟨n, rfl⟩ : ∃ k, n = k + 1 := ⟨n - 1, by omega⟩
    have hm : mxv (fun c => Qp w h x c + Qp w h x (y - c)) i a0 ≤ Qp w h x y := mxv_le _ _ _ ha i (fun c a b => Q_h x y c a (by omega))
    have hg : Qp w h x (i + 1) + Qp w h x (y - (i + 1)) ≤ Qp w h x y := Q_h x y (i + 1) (by omega) (by omega)
    rw [pX8_piecesOf_l107, q_c02, nI_half (by omega), if_neg (nI_nlt (by omega) (by omega)), ix61, ix61, pk_sub (show i + 1 ≤ 61 * x + y by omega), q_ckn (show 61 * x + (i + 1) < 3721 by omega) (by decide), q_ckn (show 61 * x + y - (i + 1) < 3721 by omega) (by decide), q_vl, q_vl, sW_s, q_cl (show 61 * x + (i + 1) < 2 ^ 31 by omega), q_cl (show 61 * x + y - (i + 1) < 2 ^ 31 by omega), hrow (i + 1) (by omega), show 61 * x + y - (i + 1) = 61 * x + (y - (i + 1)) by omega, hrow (y - (i + 1)) (by omega), nI_add, nI_max (by omega) (by omega), nI_1]
    exact ih n (i + 1) (by omega) (by omega)
theorem pcV (hw : 1 ≤ w) (hh : 1 ≤ h) (k2 : Sg → Int32 → Int32 → Int32 → Option (Int32 × Sg)) (k13 : Sg → Int32 → Int32 → Int32 → Int32 → Option (Int32 × Sg)) {x y a0 : Nat} (hx : x ≤ 60) (hy : y ≤ 60) {f : Nat → Int32} (hcol : ∀ z, z < x → f (61 * z + y) = nI (Qp w h z y)) (ha : a0 ≤ Qp w h x y) : ∀ (d n i : Nat), i + d = x / 2 → d < n →
    pX8_piecesOf_l54 k2 k13 n (sW M 18 f) (nI w) (nI h) (nI x) (nI y) (nI (mxv (fun c => Qp w h c y + Qp w h (x - c) y) i a0)) (nI (i + 1)) = pX8_piecesOf_l107 k2 k13 5000 (sW M 18 f) (nI w) (nI h) (nI x) (nI y) (nI (mxv (fun c => Qp w h c y + Qp w h (x - c) y) (x / 2) a0)) 1 := by
  have hQ : Qp w h x y ≤ 3600 := Nat.le_trans (Q_xy hw hh x y) (xy_lt hx hy)
  intro d
  induction d with
  | zero =>
    intro n i hi hn
    obtain ⟨n, rfl⟩ : ∃ k, n = k + 1 := ⟨n - 1, by omega⟩
    obtain rfl : i = x / 2 := by omega
    rw [pX8_piecesOf_l54, q_c02, nI_half (by omega), if_pos (nI_lt (by omega) (by omega)), q_vl]
  | succ d ih =>
    intro n i hi hn
    obtain ⟨n, rfl⟩ : ∃ k, n = k + 1 := ⟨n - 1, by omega⟩
    have hm : mxv (fun c => Qp w h c y + Qp w h (x - c) y) i a0 ≤ Qp w h x y := mxv_le _ _ _ ha i (fun c a b => Q_v x y c a (by omega))
    have hg : Qp w h (i + 1) y + Qp w h (x - (i + 1)) y ≤ Qp w h x y := Q_v x y (i + 1) (by omega) (by omega)
    rw [pX8_piecesOf_l54, q_c02, nI_half (by omega), if_neg (nI_nlt (by omega) (by omega)), pk_sub (show i + 1 ≤ x by omega), ix61, ix61, q_ckn (show 61 * (i + 1) + y < 3721 by omega) (by decide), q_ckn (show 61 * (x - (i + 1)) + y < 3721 by omega) (by decide), q_vl, q_vl, sW_s, q_cl (show 61 * (i + 1) + y < 2 ^ 31 by omega), q_cl (show 61 * (x - (i + 1)) + y < 2 ^ 31 by omega), hcol (i + 1) (by omega), hcol (x - (i + 1)) (by omega), nI_add, nI_max (by omega) (by omega), nI_1]
    exact ih n (i + 1) (by omega) (by omega)
theorem fitM {A : Option (Int32 × Sg)} (B : Int32 → Option (Int32 × Sg)) {x y : Nat} (hx : x ≤ 60) (hy : y ≤ 60) (hw : w ≤ 60) (hh : h ≤ 60) (hA : A = (if nI x < nI w then (if nI x < nI h then B 0 else (if nI y < nI w then B 0 else B 1)) else (if nI h ≤ nI y then B 1 else (if nI x < nI h then B 0 else (if nI y < nI w then B 0 else B 1))))) : A = B (nI (fit2 w h x y)) := by
  rw [hA]
  unfold fit2
  by_cases c1 : x < w
  · rw [if_pos (nI_lt c1 (by omega))]
    by_cases c2 : x < h
    · rw [if_pos (nI_lt c2 (by omega)), if_neg (by omega)]; rfl
    · rw [if_neg (nI_nlt (by omega) (by omega))]
      by_cases c3 : y < w
      · rw [if_pos (nI_lt c3 (by omega)), if_neg (by omega)]; rfl
      · rw [if_neg (nI_nlt (by omega) (by omega)), if_pos (by omega)]; rfl
  · rw [if_neg (nI_nlt (by omega) (by omega))]
    by_cases c4 : h ≤ y
    · rw [if_pos (nI_le c4 (by omega)), if_pos (by omega)]; rfl
    · rw [if_neg (nI_ge (by omega) (by omega))]
      by_cases c2 : x < h
      · rw [if_pos (nI_lt c2 (by omega)), if_neg (by omega)]; rfl
      · rw [if_neg (nI_nlt (by omega) (by omega))]
        by_cases c3 : y < w
        · rw [if_pos (nI_lt c3 (by omega)), if_neg (by omega)]; rfl
        · rw [if_neg (nI_nlt (by omega) (by omega)), if_pos (by omega)]; rfl
theorem pcY (hw : 1 ≤ w) (hh : 1 ≤ h) (hw2 : w ≤ 60) (hh2 : h ≤ 60) (k2 : Sg → Int32 → Int32 → Int32 → Option (Int32 × Sg)) {x H : Nat} (hx : x ≤ 60) (hH : H ≤ 60) (m5 : M.1 5 = nI H) : ∀ (d n y : Nat) (f : Nat → Int32), y + d = H + 1 → d < n → (∀ a z, a < x → z ≤ H → f (61 * a + z) = nI (Qp w h a z)) → (∀ z, z < y → f (61 * x + z) = nI (Qp w h x z)) →
    ∃ g, (∀ a z, a ≤ x → z ≤ H → g (61 * a + z) = nI (Qp w h a z)) ∧ pX8_piecesOf_l13 k2 n (sW M 18 f) (nI w) (nI h) (nI x) (nI y) = k2 (sW M 18 g) (nI w) (nI h) (nI (x + 1)) := by
  intro d
  induction d with
  | zero =>
    intro n y f hy hn h1 h2
    obtain ⟨n, rfl⟩ : ∃ k, n = k + 1 := ⟨n - 1, by omega⟩
    obtain rfl : y = H + 1 := by omega
    refine ⟨f, fun a z ha hz => ?_, ?_⟩
    · by_cases e : a = x
      · rw [e]; exact h2 z (by omega)
      · exact h1 a z (by omega) hz
    · have m5' : (sW M 18 f).1 5 = nI H := m5
      rw [pX8_piecesOf_l13, m5', if_pos (nI_lt (by omega) (by omega)), q_vl, nI_1]
  | succ d ih =>
    intro n y f hy hn h1 h2
    obtain ⟨n, rfl⟩ : ∃ k, n = k + 1 := ⟨n - 1, by omega⟩
    have m5' : (sW M 18 f).1 5 = nI H := m5
    obtain ⟨g, g1, g2⟩ := ih n (y + 1) (upd f (61 * x + y) (nI (Qp w h x y))) (by omega) (by omega) (fun a z ha hz => by rw [pk_un (by omega)]; exact h1 a z ha hz) (fun z hz => by
      by_cases e : z = y
      · rw [e, pk_us]
      · rw [pk_un (by omega)]; exact h2 z (by omega))
    refine ⟨g, g1, ?_⟩
    rw [← g2, pX8_piecesOf_l13, m5', if_neg (nI_nlt (by omega) (by omega))]
    refine (fitM (fun v => fb_vl v (fun x5 => fb_vl 1 (fun x6 => pX8_piecesOf_l54 k2 (pX8_piecesOf_l13 k2 n) 5000 (sW M 18 f) (nI w) (nI h) (nI x) (nI y) x5 x6))) hx (show y ≤ 60 by omega) hw2 hh2 rfl).trans ?_
    rw [q_vl, q_vl]
    have L1 := pcV (M := M) hw hh k2 (pX8_piecesOf_l13 k2 n) hx (show y ≤ 60 by omega) (f := f) (fun z hz => h1 z y hz (by omega)) (Q_fit x y) (x / 2) 5000 0 (by omega) (by omega)
    have L2 := pcH (M := M) hw hh k2 (pX8_piecesOf_l13 k2 n) hx (show y ≤ 60 by omega) (f := f) h2 (a0 := mxv (fun c => Qp w h c y + Qp w h (x - c) y) (x / 2) (fit2 w h x y)) (mxv_le _ _ _ (Q_fit x y) _ (fun c a b => Q_v x y c a b)) (y / 2) 5000 0 (by omega) (by omega)
    rw [← Qp_eq] at L2
    exact L1.trans L2
theorem pcX (hw : 1 ≤ w) (hh : 1 ≤ h) (hw2 : w ≤ 60) (hh2 : h ≤ 60) {W H : Nat} (hW : W ≤ 60) (hH : H ≤ 60) (m4 : M.1 4 = nI W) (m5 : M.1 5 = nI H) : ∀ (d n x : Nat) (f : Nat → Int32), x + d = W + 1 → d < n → (∀ a z, a < x → z ≤ H → f (61 * a + z) = nI (Qp w h a z)) →
    ∃ g, pX8_piecesOf_l2 n (sW M 18 f) (nI w) (nI h) (nI x) = some (nI (Qp w h W H), sW M 18 g) := by
  intro d
  induction d with
  | zero =>
    intro n x f hx hn h1
    obtain ⟨n, rfl⟩ : ∃ k, n = k + 1 := ⟨n - 1, by omega⟩
    obtain rfl : x = W + 1 := by omega
    have m4' : (sW M 18 f).1 4 = nI W := m4
    have m5' : (sW M 18 f).1 5 = nI H := m5
    refine ⟨f, ?_⟩
    rw [pX8_piecesOf_l2, m4', m5', if_pos (nI_lt (by omega) (by omega)), ix61, q_ckn (show 61 * W + H < 3721 by omega) (by decide), q_cl (show 61 * W + H < 2 ^ 31 by omega), sW_s, h1 W H (by omega) (Nat.le_refl _)]
  | succ d ih =>
    intro n x f hx hn h1
    obtain ⟨n, rfl⟩ : ∃ k, n = k + 1 := ⟨n - 1, by omega⟩
    have m4' : (sW M 18 f).1 4 = nI W := m4
    obtain ⟨g, g1, g2⟩ := pcY (M := M) hw hh hw2 hh2 (pX8_piecesOf_l2 n) (show x ≤ 60 by omega) hH m5 (H + 1) 5000 0 f (by omega) (by omega) h1 (fun z hz => by omega)
    obtain ⟨g3, g4⟩ := ih n (x + 1) g (by omega) (by omega) (fun a z ha hz => g1 a z (by omega) hz)
    refine ⟨g3, ?_⟩
    rw [pX8_piecesOf_l2, m4', if_neg (nI_nlt (by omega) (by omega)), q_vl, ← g4, ← g2]
    rfl
theorem r_pcM (hw : 1 ≤ w) (hh : 1 ≤ h) (hw2 : w ≤ 60) (hh2 : h ≤ 60) {W H : Nat} (hW : W ≤ 60) (hH : H ≤ 60) (m4 : M.1 4 = nI W) (m5 : M.1 5 = nI H) : ∃ g, pX8_piecesOf M (nI w) (nI h) = some (nI (Qp w h W H), sW M 18 g) := by
  obtain ⟨g, hg⟩ := pcX (M := M) hw hh hw2 hh2 hW hH m4 m5 (W + 1) 5000 0 (M.2 18) (by omega) (by omega) (fun a z ha => by omega)
  rw [sW_id] at hg
  refine ⟨g, ?_⟩
  unfold pX8_piecesOf
  rw [q_vl]
  exact hg
end PM
