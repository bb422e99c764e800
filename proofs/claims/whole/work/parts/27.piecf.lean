/-! PIECES, in the class -/
theorem nar0 : vp_nar .boolean 0 = 0 := by decide
theorem nar1 : vp_nar .boolean 1 = 1 := by decide
section PF
variable {T : Sg} {w h : Nat}
theorem mark_l (hw : 1 ≤ w) (hh : 1 ≤ h) (hw2 : w ≤ 60) (hh2 : h ≤ 60) : ∀ (d n x : Nat) (s : Nat → Int32), x + d = 61 → d < n → 1 ≤ x → (∀ z, z < x → (s z = 0 ↔ ¬ Sm w h z)) →
    ∃ g, pX2_markSums_l9 n (sW T 29 s) (nI w) (nI h) (nI x) = some (sW T 29 g) ∧ ∀ z, z < 61 → (g z = 0 ↔ ¬ Sm w h z) := by
  intro d
  induction d with
  | zero =>
    intro n x s hx hn hx1 hs
    obtain ⟨n, rfl⟩ : ∃ k, n = k + 1 := ⟨n - 1, by omega⟩
    obtain rfl : x = 61 := by omega
    refine ⟨s, ?_, hs⟩
    rw [pX2_markSums_l9, if_pos (by decide)]
  | succ d ih =>
    intro n x s hx hn hx1 hs
    obtain ⟨n, rfl⟩ : ∃ k, n = k + 1 := ⟨n - 1, by omega⟩
    have J : ∀ t : Int32, (t = 0 ∨ t = 1) → (t = 0 ↔ ¬ Sm w h x) → ∃ g, pX2_markSums_j57 (pX2_markSums_l9 n) (sW T 29 s) (nI w) (nI h) (nI x) t (nI x) = some (sW T 29 g) ∧ ∀ z, z < 61 → (g z = 0 ↔ ¬ Sm w h z) := by
      intro t ht hts
      have hn2 : vp_nar .boolean t = t := by
        rcases ht with rfl | rfl
        · exact nar0
        · exact nar1
      unfold pX2_markSums_j57
      rw [q_ckn (show x < 61 by omega) (by decide), q_st, q_vl, hn2, sA_W, sW_W, sW_s, q_cl (show x < 2 ^ 31 by omega), nI_1]
      refine ih n (x + 1) _ (by omega) (by omega) (by omega) (fun z hz => ?_)
      by_cases e : z = x
      · rw [e, pk_us]; exact hts
      · rw [pk_un e]; exact hs z (by omega)
    have h0 : (¬ ((w ≤ x ∧ Sm w h (x - w)) ∨ (h ≤ x ∧ Sm w h (x - h)))) → ∃ g, pX2_markSums_j57 (pX2_markSums_l9 n) (sW T 29 s) (nI w) (nI h) (nI x) 0 (nI x) = some (sW T 29 g) ∧ ∀ z, z < 61 → (g z = 0 ↔ ¬ Sm w h z) := fun q => J 0 (Or.inl rfl) ⟨fun _ a => q ((Sm_rec hx1).mp a), fun _ => rfl⟩
    have h1 : ((w ≤ x ∧ Sm w h (x - w)) ∨ (h ≤ x ∧ Sm w h (x - h))) → ∃ g, pX2_markSums_j57 (pX2_markSums_l9 n) (sW T 29 s) (nI w) (nI h) (nI x) 1 (nI x) = some (sW T 29 g) ∧ ∀ z, z < 61 → (g z = 0 ↔ ¬ Sm w h z) := fun q => J 1 (Or.inr rfl) ⟨fun a => absurd a (by decide), fun a => absurd ((Sm_rec hx1).mpr q) a⟩
    rw [pX2_markSums_l9, if_neg (show ¬ (61 : Int32) ≤ nI x from nI_ge (b := 61) (by omega) (by decide)), sW_s]
    have B : ¬ (w ≤ x ∧ Sm w h (x - w)) → ∃ g, (if nI x < nI h then pX2_markSums_j57 (pX2_markSums_l9 n) (sW T 29 s) (nI w) (nI h) (nI x) 0 (nI x) else fb_ck (nI x - nI h) 61 (if s (nI x - nI h).toNatClampNeg = 0 then pX2_markSums_j57 (pX2_markSums_l9 n) (sW T 29 s) (nI w) (nI h) (nI x) 0 (nI x) else pX2_markSums_j57 (pX2_markSums_l9 n) (sW T 29 s) (nI w) (nI h) (nI x) 1 (nI x))) = some (sW T 29 g) ∧ ∀ z, z < 61 → (g z = 0 ↔ ¬ Sm w h z) := by
      intro hA
      by_cases c2 : x < h
      · rw [if_pos (nI_lt c2 (by omega))]
        exact h0 (fun q => q.elim hA (fun q => by omega))
      · rw [if_neg (nI_nlt (by omega) (by omega)), pk_sub (show h ≤ x by omega), q_ckn (show x - h < 61 by omega) (by decide), q_cl (show x - h < 2 ^ 31 by omega)]
        by_cases c3 : s (x - h) = 0
        · rw [if_pos c3]
          exact h0 (fun q => q.elim hA (fun q => (hs (x - h) (by omega)).mp c3 q.2))
        · rw [if_neg c3]
          exact h1 (Or.inr ⟨by omega, Classical.byContradiction fun q => c3 ((hs (x - h) (by omega)).mpr q)⟩)
    by_cases c1 : x < w
    · rw [if_pos (nI_lt c1 (by omega))]
      exact B (fun q => by omega)
    · rw [if_neg (nI_nlt (by omega) (by omega)), pk_sub (show w ≤ x by omega), q_ckn (show x - w < 61 by omega) (by decide), q_cl (show x - w < 2 ^ 31 by omega)]
      by_cases c3 : s (x - w) = 0
      · rw [if_pos c3]
        exact B (fun q => (hs (x - w) (by omega)).mp c3 q.2)
      · rw [if_neg c3]
        exact h1 (Or.inl ⟨by omega, Classical.byContradiction fun q => c3 ((hs (x - w) (by omega)).mpr q)⟩)
theorem r_mark (hw : 1 ≤ w) (hh : 1 ≤ h) (hw2 : w ≤ 60) (hh2 : h ≤ 60) : ∃ g, pX2_markSums T (nI w) (nI h) = some (sW T 29 g) ∧ ∀ z, z < 61 → (g z = 0 ↔ ¬ Sm w h z) := by
  unfold pX2_markSums
  rw [q_ck00 (by decide) (by decide), q_st, q_vl, nar1, sA_W, q_cl0]
  refine mark_l hw hh hw2 hh2 60 5000 1 _ (by omega) (by omega) (by omega) (fun z hz => ?_)
  obtain rfl : z = 0 := by omega
  rw [pk_us]
  exact ⟨fun q => absurd q (by decide), fun q => absurd Sm_0 q⟩
/-- the table stands in all rows before a, and in row a before b -/
def TabF (w h H a b : Nat) (f : Nat → Int32) : Prop := (∀ x z, x < a → z ≤ H → f (x * 61 + z) = nI (Qp w h x z)) ∧ ∀ z, z < b → f (a * 61 + z) = nI (Qp w h a z)
theorem mo_H (hw : 1 ≤ w) (hh : 1 ≤ h) {a b H : Nat} (ha : a ≤ 60) (hb : b ≤ H) (hH : H ≤ 60) (hs : ∀ z, z < 61 → (T.2 29 z = 0 ↔ ¬ Sm w h z)) (hT : TabF w h H a b (T.2 28)) : ∀ (d n i m : Nat), i + d = b / 2 + 1 → d < n → 1 ≤ i → m ≤ Qp w h a b → fit2 w h a b ≤ m → (a * b / (w * h) ≤ m ∨ ∀ c, 1 ≤ c → c ≤ a / 2 → Sm w h c → Qp w h c b + Qp w h (a - c) b ≤ m) → (∀ c, 1 ≤ c → c < i → Sm w h c → Qp w h a c + Qp w h a (b - c) ≤ m) →
    pX2_mostOf_l168 T n (nI a) (nI b) (nI (a * b / (w * h))) (nI m) (nI i) = some (nI (Qp w h a b)) := by
  have hQ : Qp w h a b ≤ 3600 := Nat.le_trans (Q_xy hw hh a b) (xy_lt ha (by omega))
  have hA : a * b / (w * h) ≤ 3600 := Nat.le_trans (Nat.div_le_self _ _) (xy_lt ha (by omega))
  have hQA := Q_am (w := w) (h := h) hw hh a b
  intro d
  induction d with
  | zero =>
    intro n i m hi hn h1 hm hf hv hz
    obtain ⟨n, rfl⟩ : ∃ k, n = k + 1 := ⟨n - 1, by omega⟩
    rw [pX2_mostOf_l168, q_c02, nI_half (by omega), if_pos (nI_lt (by omega) (by omega))]
    have e : m = Qp w h a b := by
      rcases hv with q | q
      · omega
      · have := Q_rst hw hh hf q (fun c c1 c2 c3 => hz c c1 (by omega) c3) (a + b) a b (Nat.le_refl _) (Nat.le_refl _) (Nat.le_refl _)
        omega
    rw [e]
  | succ d ih =>
    intro n i m hi hn h1 hm hf hv hz
    obtain ⟨n, rfl⟩ : ∃ k, n = k + 1 := ⟨n - 1, by omega⟩
    rw [pX2_mostOf_l168, q_c02, nI_half (by omega), if_neg (nI_nlt (by omega) (by omega))]
    by_cases cA : a * b / (w * h) ≤ m
    · rw [if_pos (nI_le cA (by omega))]
      have e : m = Qp w h a b := by omega
      rw [e]
    · rw [if_neg (nI_ge (by omega) (by omega)), q_ckn (show i < 61 by omega) (by decide), q_cl (show i < 2 ^ 31 by omega)]
      by_cases cs : T.2 29 i = 0
      · rw [if_pos cs, q_vl, nI_1]
        refine ih n (i + 1) m (by omega) (by omega) (by omega) hm hf hv (fun c c1 c2 c3 => ?_)
        by_cases e : c = i
        · rw [e] at c3; exact absurd c3 ((hs i (by omega)).mp cs)
        · exact hz c c1 (by omega) c3
      · have hg := Q_h (w := w) (h := h) a b i h1 (by omega)
        rw [if_neg cs, ix61b, ix61b, pk_sub (show i ≤ a * 61 + b by omega), q_ckn (show a * 61 + i < 3721 by omega) (by decide), q_ckn (show a * 61 + b - i < 3721 by omega) (by decide), q_vl, q_vl, q_cl (show a * 61 + i < 2 ^ 31 by omega), q_cl (show a * 61 + b - i < 2 ^ 31 by omega), hT.2 i (by omega), show a * 61 + b - i = a * 61 + (b - i) by omega, hT.2 (b - i) (by omega), nI_add, nI_max (by omega) (by omega), nI_1]
        refine ih n (i + 1) _ (by omega) (by omega) (by omega) ?_ ?_ ?_ (fun c c1 c2 c3 => ?_)
        · split <;> omega
        · split <;> omega
        · rcases hv with q | q
          · exact Or.inl (by split <;> omega)
          · refine Or.inr (fun c c1 c2 c3 => ?_)
            have := q c c1 c2 c3
            split <;> omega
        · by_cases e : c = i
          · rw [e]; split <;> omega
          · have := hz c c1 (by omega) c3
            split <;> omega
theorem mo_V (hw : 1 ≤ w) (hh : 1 ≤ h) {a b H : Nat} (ha : a ≤ 60) (hb : b ≤ H) (hH : H ≤ 60) (hs : ∀ z, z < 61 → (T.2 29 z = 0 ↔ ¬ Sm w h z)) (hT : TabF w h H a b (T.2 28)) : ∀ (d n i m : Nat), i + d = a / 2 + 1 → d < n → 1 ≤ i → m ≤ Qp w h a b → fit2 w h a b ≤ m → (∀ c, 1 ≤ c → c < i → Sm w h c → Qp w h c b + Qp w h (a - c) b ≤ m) →
    pX2_mostOf_l100 T n (nI a) (nI b) (nI (a * b / (w * h))) (nI m) (nI i) = some (nI (Qp w h a b)) := by
  have hQ : Qp w h a b ≤ 3600 := Nat.le_trans (Q_xy hw hh a b) (xy_lt ha (by omega))
  have hA : a * b / (w * h) ≤ 3600 := Nat.le_trans (Nat.div_le_self _ _) (xy_lt ha (by omega))
  have hQA := Q_am (w := w) (h := h) hw hh a b
  intro d
  induction d with
  | zero =>
    intro n i m hi hn h1 hm hf hv
    obtain ⟨n, rfl⟩ : ∃ k, n = k + 1 := ⟨n - 1, by omega⟩
    rw [pX2_mostOf_l100, q_c02, nI_half (by omega), if_pos (nI_lt (by omega) (by omega)), q_vl]
    exact mo_H hw hh ha hb hH hs hT (b / 2) 5000 1 m (by omega) (by omega) (by omega) hm hf (Or.inr (fun c c1 c2 c3 => hv c c1 (by omega) c3)) (fun c c1 c2 => by omega)
  | succ d ih =>
    intro n i m hi hn h1 hm hf hv
    obtain ⟨n, rfl⟩ : ∃ k, n = k + 1 := ⟨n - 1, by omega⟩
    rw [pX2_mostOf_l100, q_c02, nI_half (by omega), if_neg (nI_nlt (by omega) (by omega))]
    by_cases cA : a * b / (w * h) ≤ m
    · rw [if_pos (nI_le cA (by omega)), q_vl]
      exact mo_H hw hh ha hb hH hs hT (b / 2) 5000 1 m (by omega) (by omega) (by omega) hm hf (Or.inl cA) (fun c c1 c2 => by omega)
    · rw [if_neg (nI_ge (by omega) (by omega)), q_ckn (show i < 61 by omega) (by decide), q_cl (show i < 2 ^ 31 by omega)]
      by_cases cs : T.2 29 i = 0
      · rw [if_pos cs, q_vl, nI_1]
        refine ih n (i + 1) m (by omega) (by omega) (by omega) hm hf (fun c c1 c2 c3 => ?_)
        by_cases e : c = i
        · rw [e] at c3; exact absurd c3 ((hs i (by omega)).mp cs)
        · exact hv c c1 (by omega) c3
      · have hg := Q_v (w := w) (h := h) a b i h1 (by omega)
        rw [if_neg cs, pk_sub (show i ≤ a by omega), ix61b, ix61b, q_ckn (show i * 61 + b < 3721 by omega) (by decide), q_ckn (show (a - i) * 61 + b < 3721 by omega) (by decide), q_vl, q_vl, q_cl (show i * 61 + b < 2 ^ 31 by omega), q_cl (show (a - i) * 61 + b < 2 ^ 31 by omega), hT.1 i b (by omega) hb, hT.1 (a - i) b (by omega) hb, nI_add, nI_max (by omega) (by omega), nI_1]
        refine ih n (i + 1) _ (by omega) (by omega) (by omega) ?_ ?_ (fun c c1 c2 c3 => ?_)
        · split <;> omega
        · split <;> omega
        · by_cases e : c = i
          · rw [e]; split <;> omega
          · have := hv c c1 (by omega) c3
            split <;> omega
theorem fitF {A : Option Int32} (B : Int32 → Option Int32) {x y : Nat} (hx : x ≤ 60) (hy : y ≤ 60) (hw : w ≤ 60) (hh : h ≤ 60) (hA : A = (if nI x < nI w then (if nI x < nI h then B 0 else (if nI y < nI w then B 0 else B 1)) else (if nI h ≤ nI y then B 1 else (if nI x < nI h then B 0 else (if nI y < nI w then B 0 else B 1))))) : A = B (nI (fit2 w h x y)) := by
  rw [hA]
  unfold fit2
  by_cases c1 : x < w
  · rw [if_pos (nI_lt c1 (by omega))]
    by_cases c2 : x < h
    · rw [if_pos (nI_lt c2 (by omega)), if_neg (by omega)]; rfl
    · rw [if_neg (nI_nlt (by omega) (by omega))]
      by_cases c3 : y < w
      · rw [if_pos (nI_lt c3 (by omega)), if_neg (by omega)]; rfl
      · rw [if_neg (nI_nlt (by omega) (by omega)), if_pos (by omega)]; rfl
  · rw [if_neg (nI_nlt (by omega) (by omega))]
    by_cases c4 : h ≤ y
    · rw [if_pos (nI_le c4 (by omega)), if_pos (by omega)]; rfl
    · rw [if_neg (nI_ge (by omega) (by omega))]
      by_cases c2 : x < h
      · rw [if_pos (nI_lt c2 (by omega)), if_neg (by omega)]; rfl
      · rw [if_neg (nI_nlt (by omega) (by omega))]
        by_cases c3 : y < w
        · rw [if_pos (nI_lt c3 (by omega)), if_neg (by omega)]; rfl
        · rw [if_neg (nI_nlt (by omega) (by omega)), if_pos (by omega)]; rfl
theorem r_mostOf (hw : 1 ≤ w) (hh : 1 ≤ h) (hw2 : w ≤ 60) (hh2 : h ≤ 60) {a b H : Nat} (ha1 : 1 ≤ a) (hb1 : 1 ≤ b) (ha : a ≤ 60) (hb : b ≤ H) (hH : H ≤ 60) (hs : ∀ z, z < 61 → (T.2 29 z = 0 ↔ ¬ Sm w h z)) (hT : TabF w h H a b (T.2 28)) : pX2_mostOf T (nI a) (nI b) (nI w) (nI h) = some (nI (Qp w h a b)) := by
  unfold pX2_mostOf
  rw [q_ckn (show a < 61 by omega) (by decide), q_cl (show a < 2 ^ 31 by omega)]
  by_cases c1 : T.2 29 a = 0
  · rw [if_pos c1, show (1 : Int32) = nI 1 from rfl, pk_sub ha1, ix61b, q_ckn (show (a - 1) * 61 + b < 3721 by omega) (by decide), q_cl (show (a - 1) * 61 + b < 2 ^ 31 by omega), hT.1 (a - 1) b (by omega) hb, Q_nsv1 hw hh ha1 ((hs a (by omega)).mp c1)]
  · rw [if_neg c1, q_ckn (show b < 61 by omega) (by decide), q_cl (show b < 2 ^ 31 by omega)]
    by_cases c2 : T.2 29 b = 0
    · rw [if_pos c2, show (1 : Int32) = nI 1 from rfl, ix61b, pk_sub (show 1 ≤ a * 61 + b by omega), q_ckn (show a * 61 + b - 1 < 3721 by omega) (by decide), q_cl (show a * 61 + b - 1 < 2 ^ 31 by omega), show a * 61 + b - 1 = a * 61 + (b - 1) by omega, hT.2 (b - 1) (by omega), Q_nsh1 hw hh hb1 ((hs b (by omega)).mp c2)]
    · rw [if_neg c2]
      refine (fitF (fun t => pX2_mostOf_j73 T (nI a) (nI b) (nI w) (nI h) t) ha (show b ≤ 60 by omega) hw2 hh2 rfl).trans ?_
      have hwh : w * h < 2 ^ 31 := by have := xy_lt hw2 hh2; omega
      have hab : a * b < 2 ^ 31 := by have := xy_lt ha (show b ≤ 60 by omega); omega
      have hp : 0 < w * h := Nat.mul_pos hw hh
      have L := mo_V (T := T) hw hh ha hb hH hs hT (a / 2) 5000 1 (fit2 w h a b) (by omega) (by omega) (by omega) (Q_fit a b) (Nat.le_refl _) (fun c c1 c2 => by omega)
      unfold pX2_mostOf_j73 pX2_mostOf_j95
      rw [q_vl, pk_mul, pk_mul, pk_div hab hp hwh]
      have e0 : fb_c0 (nI (w * h)) (fb_vl (nI (a * b / (w * h))) (fun x6_27 => if nI (fit2 w h a b) = (0 : Int32) then fb_vl 0 (fun x7_23 => fb_vl 1 (fun x8_24 => pX2_mostOf_l100 T 5000 (nI a) (nI b) x6_27 x7_23 x8_24)) else fb_vl 1 (fun x7_23 => fb_vl 1 (fun x8_24 => pX2_mostOf_l100 T 5000 (nI a) (nI b) x6_27 x7_23 x8_24)))) = (if nI (fit2 w h a b) = (0 : Int32) then fb_vl 0 (fun x7_23 => fb_vl 1 (fun x8_24 => pX2_mostOf_l100 T 5000 (nI a) (nI b) (nI (a * b / (w * h))) x7_23 x8_24)) else fb_vl 1 (fun x7_23 => fb_vl 1 (fun x8_24 => pX2_mostOf_l100 T 5000 (nI a) (nI b) (nI (a * b / (w * h))) x7_23 x8_24))) := by
        unfold fb_c0
        rw [if_neg (nI_ne0 hp hwh), q_vl]
      rw [e0]
      have hf : fit2 w h a b = 0 ∨ fit2 w h a b = 1 := by unfold fit2; split <;> simp
      rcases hf with q | q
      · rw [q] at L ⊢
        rw [if_pos (show nI 0 = (0 : Int32) from rfl), q_vl, q_vl]
        exact L
      · rw [q] at L ⊢
        rw [if_neg (by decide), q_vl, q_vl]
        exact L
theorem mp_B (hw : 1 ≤ w) (hh : 1 ≤ h) (hw2 : w ≤ 60) (hh2 : h ≤ 60) (k20 : Sg → Int32 → Int32 → Int32 → Option (Int32 × Sg)) {a H : Nat} (ha1 : 1 ≤ a) (ha : a ≤ 60) (hH : H ≤ 60) (f12 : T.1 12 = nI H) (hs : ∀ z, z < 61 → (T.2 29 z = 0 ↔ ¬ Sm w h z)) : ∀ (d n b : Nat) (f : Nat → Int32), b + d = H + 1 → d < n → 1 ≤ b → TabF w h H a b f → (∀ i, i < 61 ∨ i % 61 = 0 → f i = 0) →
    ∃ g, TabF w h H (a + 1) 1 g ∧ (∀ i, i < 61 ∨ i % 61 = 0 → g i = 0) ∧ pX2_mostPieces_l31 k20 n (sW T 28 f) (nI w) (nI h) (nI a) (nI b) = k20 (sW T 28 g) (nI w) (nI h) (nI (a + 1)) := by
  intro d
  induction d with
  | zero =>
    intro n b f hb hn hb1 hT hz
    obtain ⟨n, rfl⟩ : ∃ k, n = k + 1 := ⟨n - 1, by omega⟩
    obtain rfl : b = H + 1 := by omega
    have f12' : (sW T 28 f).1 12 = nI H := f12
    refine ⟨f, ⟨fun x z hx hz2 => ?_, fun z hz2 => ?_⟩, hz, ?_⟩
    · by_cases e : x = a
      · rw [e]; exact hT.2 z (by omega)
      · exact hT.1 x z (by omega) hz2
    · obtain rfl : z = 0 := by omega
      rw [hz _ (Or.inr (by omega)), Q_x0 hw hh]
      rfl
    · rw [pX2_mostPieces_l31, f12', if_pos (nI_lt (by omega) (by omega)), q_vl, nI_1]
  | succ d ih =>
    intro n b f hb hn hb1 hT hz
    obtain ⟨n, rfl⟩ : ∃ k, n = k + 1 := ⟨n - 1, by omega⟩
    have f12' : (sW T 28 f).1 12 = nI H := f12
    have hs' : ∀ z, z < 61 → ((sW T 28 f).2 29 z = 0 ↔ ¬ Sm w h z) := hs
    have hT' : TabF w h H a b ((sW T 28 f).2 28) := by rw [sW_s]; exact hT
    obtain ⟨g, g1, g2, g3⟩ := ih n (b + 1) (upd f (a * 61 + b) (nI (Qp w h a b))) (by omega) (by omega) (by omega) ⟨fun x z hx hz2 => by rw [pk_un (by omega)]; exact hT.1 x z hx hz2, fun z hz2 => by
      by_cases e : z = b
      · rw [e, pk_us]
      · rw [pk_un (by omega)]; exact hT.2 z (by omega)⟩ (fun i hi => by rw [pk_un (by omega)]; exact hz i hi)
    refine ⟨g, g1, g2, ?_⟩
    rw [← g3, pX2_mostPieces_l31, f12', if_neg (nI_nlt (by omega) (by omega)), r_mostOf hw hh hw2 hh2 ha1 hb1 ha (show b ≤ H by omega) hH hs' hT', q_bd, ix61b, q_ckn (show a * 61 + b < 3721 by omega) (by decide), q_st, q_vl, sA_W, sW_W, sW_s, q_cl (show a * 61 + b < 2 ^ 31 by omega), nI_1]
theorem mp_A (hw : 1 ≤ w) (hh : 1 ≤ h) (hw2 : w ≤ 60) (hh2 : h ≤ 60) {W H : Nat} (hW : W ≤ 60) (hH : H ≤ 60) (f11 : T.1 11 = nI W) (f12 : T.1 12 = nI H) (hs : ∀ z, z < 61 → (T.2 29 z = 0 ↔ ¬ Sm w h z)) : ∀ (d n a : Nat) (f : Nat → Int32), a + d = W + 1 → d < n → 1 ≤ a → TabF w h H a 1 f → (∀ i, i < 61 ∨ i % 61 = 0 → f i = 0) →
    ∃ g, (∀ i, i < 61 ∨ i % 61 = 0 → g i = 0) ∧ pX2_mostPieces_l20 n (sW T 28 f) (nI w) (nI h) (nI a) = some (nI (Qp w h W H), sW T 28 g) := by
  intro d
  induction d with
  | zero =>
    intro n a f ha hn ha1 hT hz
    obtain ⟨n, rfl⟩ : ∃ k, n = k + 1 := ⟨n - 1, by omega⟩
    obtain rfl : a = W + 1 := by omega
    have f11' : (sW T 28 f).1 11 = nI W := f11
    have f12' : (sW T 28 f).1 12 = nI H := f12
    refine ⟨f, hz, ?_⟩
    rw [pX2_mostPieces_l20, f11', f12', if_pos (nI_lt (by omega) (by omega)), ix61b, q_ckn (show W * 61 + H < 3721 by omega) (by decide), q_cl (show W * 61 + H < 2 ^ 31 by omega), sW_s, hT.1 W H (by omega) (Nat.le_refl _)]
  | succ d ih =>
    intro n a f ha hn ha1 hT hz
    obtain ⟨n, rfl⟩ : ∃ k, n = k + 1 := ⟨n - 1, by omega⟩
    have f11' : (sW T 28 f).1 11 = nI W := f11
    obtain ⟨g, g1, g2, g3⟩ := mp_B (T := T) hw hh hw2 hh2 (pX2_mostPieces_l20 n) ha1 (show a ≤ 60 by omega) hH f12 hs H 5000 1 f (by omega) (by omega) (by omega) hT hz
    obtain ⟨g4, g5, g6⟩ := ih n (a + 1) g (by omega) (by omega) (by omega) g1 g2
    refine ⟨g4, g5, ?_⟩
    rw [pX2_mostPieces_l20, f11', if_neg (nI_nlt (by omega) (by omega)), q_vl, ← g6, ← g3]
    rfl
theorem r_pcF (hw : 1 ≤ w) (hh : 1 ≤ h) (hw2 : w ≤ 60) (hh2 : h ≤ 60) {W H : Nat} (hW : W ≤ 60) (hH : H ≤ 60) (f11 : T.1 11 = nI W) (f12 : T.1 12 = nI H) (hz : ∀ i, i < 61 ∨ i % 61 = 0 → T.2 28 i = 0) : ∃ s g, (∀ i, i < 61 ∨ i % 61 = 0 → g i = 0) ∧ pX2_mostPieces T (nI w) (nI h) = some (nI (Qp w h W H), sW (sW T 29 s) 28 g) := by
  obtain ⟨s, s1, s2⟩ := r_mark (T := T) hw hh hw2 hh2
  have hs' : ∀ z, z < 61 → ((sW T 29 s).2 29 z = 0 ↔ ¬ Sm w h z) := by intro z hz2; rw [sW_s]; exact s2 z hz2
  obtain ⟨g, g1, g2⟩ := mp_A (T := sW T 29 s) hw hh hw2 hh2 hW hH f11 f12 hs' W 5000 1 (T.2 28) (by omega) (by omega) (by omega) ⟨fun x z hx hz2 => by
    obtain rfl : x = 0 := by omega
    rw [hz _ (Or.inl (by omega)), Q_0y hw hh]; rfl, fun z hz2 => by
    obtain rfl : z = 0 := by omega
    rw [hz _ (Or.inr (by omega)), Q_x0 hw hh]; rfl⟩ hz
  rw [show sW (sW T 29 s) 28 (T.2 28) = sW T 29 s from sW_id (sW T 29 s) 28] at g2
  refine ⟨s, g, g1, ?_⟩
  unfold pX2_mostPieces
  rw [if_neg (show ¬ nI w < 1 from nI_nlt (b := 1) hw (by omega)), if_pos (show (1 : Int32) ≤ nI h from nI_le (a := 1) hh (by omega)), s1, q_bd, q_vl]
  exact g2
end PF
theorem op_pieces {F M : Sg} (h : Rel F M) (x y : Int32) : Sim (pX7_pieces F x y) (pX8_pieces M x y) := by
  have h0 := Rel_t 0 h
  obtain ⟨nk, nl, nr, nb, no, hK, hB, hY, hO, hE⟩ := id h
  obtain ⟨E1, E2, W, H, w1, w2, w3, w4, w5, w6, w7, w8, w9⟩ := id hE
  unfold pX7_pieces pX8_pieces pX7_isEnd
  rw [q_st, r_within, r_in, r_in, r_within, q_bd, q_bd, q_bd, q_bd, q_cb0, q_cb1]
  by_cases c1 : inb x 1 60 = 0
  · rw [if_pos c1, if_pos c1, q_bd, if_pos rfl, r_refF, q_b2]
    exact Sim_ref 2 h0
  · rw [if_neg c1, if_neg c1]
    by_cases c2 : inb y 1 60 = 0
    · rw [if_pos c2, if_pos c2, q_bd, if_pos rfl, r_refF, q_b2]
      exact Sim_ref 2 h0
    · rw [if_neg c2, if_neg c2, q_bd, if_neg (by decide)]
      obtain ⟨w, hw1, hw2, rfl⟩ := inb_n (a := 1) (b := 60) c1 (by decide) (by decide)
      obtain ⟨v, hv1, hv2, rfl⟩ := inb_n (a := 1) (b := 60) c2 (by decide) (by decide)
      obtain ⟨s, g, g1, g2⟩ := r_pcF (T := F) hw1 hv1 hw2 hv2 w2 w4 w5 w7 w9
      obtain ⟨g3, g4⟩ := r_pcM (M := sS M 0 0) hw1 hv1 hw2 hv2 w2 w4 w6 w8
      rw [g2, g4, q_b2, q_b2, r_ansF, r_ansM, q_b2, q_b2]
      exact ⟨_, _, _, rfl, rfl, Rel_tr 0 ⟨nk, nl, nr, nb, no, hK, hB, hY, hO, E1, E2, W, H, w1, w2, w3, w4, w5, w6, w7, w8, g1⟩⟩
