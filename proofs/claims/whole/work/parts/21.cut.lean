/-! the longest next length -/
def lgn (len wv f : Nat → Int32) (v : Nat) : Nat → Int32
  | 0 => -1
  | l + 1 => if lnk len l ≤ v ∧ wv l + f (v - lnk len l) = f v then (if lgn len wv f v l = -1 then nI l else if lnk len l ≤ lnk len (lgn len wv f v l).toNatClampNeg then lgn len wv f v l else nI l) else lgn len wv f v l
theorem lgn_in (len wv f : Nat → Int32) (v : Nat) : ∀ l, l < 2 ^ 31 → lgn len wv f v l = -1 ∨ ∃ q, q < l ∧ lgn len wv f v l = nI q ∧ lnk len q ≤ v := by
  intro l
  induction l with
  | zero => intro _; exact Or.inl rfl
  | succ l ih =>
    intro hl
    have I := ih (by omega)
    have I2 : lgn len wv f v l = -1 ∨ ∃ q, q < l + 1 ∧ lgn len wv f v l = nI q ∧ lnk len q ≤ v := by
      rcases I with h | ⟨q, h1, h2⟩
      · exact Or.inl h
      · exact Or.inr ⟨q, by omega, h2⟩
    rw [lgn]
    by_cases c : lnk len l ≤ v ∧ wv l + f (v - lnk len l) = f v
    · rw [if_pos c]
      by_cases d : lgn len wv f v l = -1
      · rw [if_pos d]; exact Or.inr ⟨l, by omega, rfl, c.1⟩
      · rw [if_neg d]
        by_cases e : lnk len l ≤ lnk len (lgn len wv f v l).toNatClampNeg
        · rw [if_pos e]; exact I2
        · rw [if_neg e]; exact Or.inr ⟨l, by omega, rfl, c.1⟩
    · rw [if_neg c]; exact I2
theorem lgn_congr {len wv f g : Nat → Int32} {v : Nat} (h : ∀ u, u ≤ v → f u = g u) : ∀ l, lgn len wv f v l = lgn len wv g v l := by
  intro l
  induction l with
  | zero => rfl
  | succ l ih => rw [lgn, lgn, ih, h v (Nat.le_refl _), h (v - lnk len l) (by omega)]
section CUF
variable {T : Sg} {len wv : Nat → Int32} {nl k : Nat}
theorem lg_F (h : FL T len wv nl k) {v : Nat} (h5 : T.1 5 = nI v) (hv : v ≤ 2000) : ∀ (d n l : Nat), l + d = nl → d < n → pX1_longestNext_l4 T n (nI k) (lgn len wv (T.2 13) v l) (nI l) = some (lgn len wv (T.2 13) v nl) := by
  have h3 := h.2.2.1
  have h11 := h.2.2.2.1
  have h6 := h.1.1
  intro d
  induction d with
  | zero =>
    intro n l hl hd
    obtain ⟨n, rfl⟩ : ∃ k, n = k + 1 := ⟨n - 1, by omega⟩
    obtain rfl : l = nl := by omega
    rw [pX1_longestNext_l4, h3, if_pos (nI_le (Nat.le_refl _) (by omega))]
  | succ d ih =>
    intro n l hl hd
    obtain ⟨n, rfl⟩ : ∃ k, n = k + 1 := ⟨n - 1, by omega⟩
    obtain ⟨e1, -, hle⟩ := h.1.2 l (by omega)
    have I := ih n (l + 1) (by omega) (by omega)
    rw [lgn] at I
    have hin := lgn_in len wv (T.2 13) v l (by omega)
    generalize hb : lgn len wv (T.2 13) v l = b at I hin ⊢
    have J0 : pX1_longestNext_j58 T (pX1_longestNext_l4 T n) (nI k) b (nI l) 0 = pX1_longestNext_l4 T n (nI k) b (nI (l + 1)) := by
      unfold pX1_longestNext_j58
      rw [q_vl, if_pos rfl, q_vl, nI_1]
    have J1 : pX1_longestNext_j58 T (pX1_longestNext_l4 T n) (nI k) b (nI l) 1 = pX1_longestNext_l4 T n (nI k) (if b = -1 then nI l else if lnk len l ≤ lnk len b.toNatClampNeg then b else nI l) (nI (l + 1)) := by
      unfold pX1_longestNext_j58
      rw [q_vl, if_neg (by decide)]
      rcases hin with q | ⟨q, q1, q2, q3⟩
      · rw [if_pos q, if_pos q, q_vl, q_vl, nI_1]
      · obtain ⟨e2, -, hle2⟩ := h.1.2 q (by omega)
        rw [q2, if_neg (q_m1 (by omega)), if_neg (q_m1 (by omega)), q_ckn (show l < 6 by omega) (by decide), q_ckn (show q < 6 by omega) (by decide), q_cl (show l < 2 ^ 31 by omega), q_cl (show q < 2 ^ 31 by omega), h11, e1, e2]
        by_cases c : lnk len l ≤ lnk len q
        · rw [if_pos (nI_le c (by omega)), if_pos c, q_vl, nI_1]
        · rw [if_neg (nI_ge (by omega) (by omega)), if_neg c, q_vl, q_vl, nI_1]
    rw [pX1_longestNext_l4, h3, if_neg (lp_c (by omega) (by omega)), q_ckn (show l < 6 by omega) (by decide), q_cl (show l < 2 ^ 31 by omega), h11, e1, h5]
    by_cases c : lnk len l ≤ v
    · rw [if_neg (nI_nlt c (by omega)), r_ww h (by omega) hv c, q_bd, q_ckn (show v < 2001 by omega) (by decide), q_cl (show v < 2 ^ 31 by omega)]
      by_cases e : wv l + T.2 13 (v - lnk len l) = T.2 13 v
      · rw [if_pos e, J1]
        rw [if_pos ⟨c, e⟩] at I
        exact I
      · rw [if_neg e, J0]
        rw [if_neg (fun q => e q.2)] at I
        exact I
    · rw [if_pos (nI_lt (by omega) (by omega)), J0]
      rw [if_neg (fun q => c q.1)] at I
      exact I
theorem r_lgF (h : FL T len wv nl k) {v : Nat} (h5 : T.1 5 = nI v) (hv : v ≤ 2000) : pX1_longestNext T (nI k) = some (lgn len wv (T.2 13) v nl) := by
  have h6 := h.1.1
  unfold pX1_longestNext
  rw [q_vl, q_vl]
  exact lg_F h h5 hv nl 5000 0 (by omega) (by omega)
theorem lg_M (h : ML T len wv nl k) {v : Nat} (hv : v ≤ 2000) : ∀ (d n l : Nat), l + d = nl → d < n → pX8_longest_l5 T n (nI k) (nI v) (lgn len wv (T.2 9) v l) (nI l) = some (lgn len wv (T.2 9) v nl) := by
  have hk := h.2.1
  have h3 := h.2.2.1
  have h4 := h.2.2.2.1
  have h6 := h.1.1
  intro d
  induction d with
  | zero =>
    intro n l hl hd
    obtain ⟨n, rfl⟩ : ∃ k, n = k + 1 := ⟨n - 1, by omega⟩
    obtain rfl : l = nl := by omega
    rw [pX8_longest_l5, h3, if_pos (nI_le (Nat.le_refl _) (by omega))]
  | succ d ih =>
    intro n l hl hd
    obtain ⟨n, rfl⟩ : ∃ k, n = k + 1 := ⟨n - 1, by omega⟩
    obtain ⟨e1, -, hle⟩ := h.1.2 l (by omega)
    have h5 := h.2.2.2.2 l (by omega)
    have I := ih n (l + 1) (by omega) (by omega)
    rw [lgn] at I
    have hin := lgn_in len wv (T.2 9) v l (by omega)
    generalize hb : lgn len wv (T.2 9) v l = b at I hin ⊢
    rw [pX8_longest_l5, h3, if_neg (lp_c (by omega) (by omega)), q_ckn (show l < 6 by omega) (by decide), q_cl (show l < 2 ^ 31 by omega), h4, e1]
    by_cases c : lnk len l ≤ v
    · rw [if_neg (nI_nlt c (by omega)), ix_c, q_ckn (show 6 * k + l < 30 by omega) (by decide), q_ckn (show l < 6 by omega) (by decide), pk_sub c, q_ckn (show v - lnk len l < 2001 by omega) (by decide), q_ckn (show v < 2001 by omega) (by decide), q_cl (show v < 2 ^ 31 by omega), q_cl (show 6 * k + l < 2 ^ 31 by omega), q_cl (show v - lnk len l < 2 ^ 31 by omega), h5]
      by_cases e : wv l + T.2 9 (v - lnk len l) = T.2 9 v
      · rw [if_pos e]
        rw [if_pos ⟨c, e⟩] at I
        rcases hin with q | ⟨q, q1, q2, q3⟩
        · rw [if_pos q] at I ⊢
          rw [q_vl, q_vl, nI_1]
          exact I
        · obtain ⟨e2, -, hle2⟩ := h.1.2 q (by omega)
          rw [q2, if_neg (q_m1 (by omega)), q_cl (show q < 2 ^ 31 by omega)] at I
          rw [q2, if_neg (q_m1 (by omega)), q_ckn (show l < 6 by omega) (by decide), q_ckn (show q < 6 by omega) (by decide), q_cl (show q < 2 ^ 31 by omega), e2]
          by_cases c3 : lnk len l ≤ lnk len q
          · rw [if_pos (nI_le c3 (by omega)), q_vl, nI_1]
            rw [if_pos c3] at I
            exact I
          · rw [if_neg (nI_ge (by omega) (by omega)), q_vl, q_vl, nI_1]
            rw [if_neg c3] at I
            exact I
      · rw [if_neg e, q_vl, nI_1]
        rw [if_neg (fun q => e q.2)] at I
        exact I
    · rw [if_pos (nI_lt (by omega) (by omega)), q_vl, nI_1]
      rw [if_neg (fun q => c q.1)] at I
      exact I
theorem r_lgM (h : ML T len wv nl k) {v : Nat} (hv : v ≤ 2000) : pX8_longest T (nI k) (nI v) = some (lgn len wv (T.2 9) v nl) := by
  have h6 := h.1.1
  unfold pX8_longest
  rw [q_vl, q_vl]
  exact lg_M h hv nl 5000 0 (by omega) (by omega)
end CUF
/-- the lengths that are cut, one behind the other -/
def Chn (len : Nat → Int32) (nl : Nat) (nx : Nat → Int32) : Nat → Nat → (Nat → Nat) → Nat → Prop
  | 0, v, _, w => nx v = -1 ∧ w = v
  | c + 1, v, pl, w => ∃ q, q < nl ∧ nx v = nI q ∧ pl 0 = lnk len q ∧ lnk len q ≤ v ∧ Chn len nl nx c (v - lnk len q) (fun j => pl (j + 1)) w
theorem Chn_ex {len : Nat → Int32} {nl : Nat} (hL : LenOK len nl) {nx : Nat → Int32} (hn : ∀ v, nx v = -1 ∨ ∃ q, q < nl ∧ nx v = nI q ∧ lnk len q ≤ v) : ∀ v, ∃ c pl w, Chn len nl nx c v pl w ∧ 5 * c ≤ v ∧ w ≤ v := by
  intro v
  induction v using Nat.strongRecOn with
  | ind v ih =>
    rcases hn v with h | ⟨q, h1, h2, h3⟩
    · exact ⟨0, fun _ => 0, v, ⟨h, rfl⟩, by omega, Nat.le_refl _⟩
    · have h5 := (hL.2 q h1).2.1
      obtain ⟨c, pl, w, i1, i2, i3⟩ := ih (v - lnk len q) (by omega)
      exact ⟨c + 1, fun j => if j = 0 then lnk len q else pl (j - 1), w, ⟨q, h1, h2, rfl, h3, i1⟩, by omega, by omega⟩
theorem cutM_l {T : Sg} {len wv f : Nat → Int32} {nl k : Nat} (h : ML T len wv nl k) (h9 : T.2 9 = f) : ∀ (c n i v : Nat) (pl : Nat → Nat) (w : Nat) (g : Nat → Int32), Chn len nl (fun v => lgn len wv f v nl) c v pl w → c < n → i + c < 2000 → v ≤ 2000 →
    pX8_cut_l54 n (sW T 10 g) (nI k) (nI v) (nI i) (lgn len wv f v nl) = pX8_cut_l54 1 (sW T 10 (fun j => if i ≤ j ∧ j < i + c then nI (pl (j - i)) else g j)) (nI k) (nI w) (nI (i + c)) (-1) := by
  have h6 := h.1.1
  intro c
  induction c with
  | zero =>
    intro n i v pl w g hc hn hi hv
    obtain ⟨n, rfl⟩ : ∃ k, n = k + 1 := ⟨n - 1, by omega⟩
    obtain ⟨c1, rfl⟩ := hc
    dsimp only at c1
    rw [c1]
    have e : (fun j => if i ≤ j ∧ j < i + 0 then nI (pl (j - i)) else g j) = g := by
      funext j
      rw [if_neg (by omega)]
    rw [e, pX8_cut_l54, pX8_cut_l54, if_pos (show (-1 : Int32) = -1 from rfl), if_pos (show (-1 : Int32) = -1 from rfl)]
    rfl
  | succ c ih =>
    intro n i v pl w g hc hn hi hv
    obtain ⟨n, rfl⟩ : ∃ k, n = k + 1 := ⟨n - 1, by omega⟩
    obtain ⟨q, hq, c1, c2, c3, c4⟩ := hc
    dsimp only at c1
    obtain ⟨e1, hge, hle⟩ := h.1.2 q hq
    have h4 : (sW T 10 g).2 4 = len := h.2.2.2.1
    rw [c1, pX8_cut_l54, if_neg (q_m1 (by omega)), q_ckn (show q < 6 by omega) (by decide), q_ckn (show i < 2000 by omega) (by decide), q_st, q_vl, q_ckn (show q < 6 by omega) (by decide), q_vl, sA_W, sW_W, sW_s, q_cl (show q < 2 ^ 31 by omega), q_cl (show i < 2 ^ 31 by omega), h4, nI_1]
    have h4' : (sW T 10 (upd g i (len q))).2 4 = len := h.2.2.2.1
    rw [h4', e1, pk_sub c3]
    have hM2 : ML (sW T 10 (upd g i (nI (lnk len q)))) len wv nl k := h
    have h92 : (sW T 10 (upd g i (nI (lnk len q)))).2 9 = f := h9
    rw [r_lgM hM2 (show v - lnk len q ≤ 2000 by omega), q_bd, q_vl, h92, ih n (i + 1) _ _ _ _ c4 (by omega) (by omega) (by omega)]
    have e : i + 1 + c = i + (c + 1) := by omega
    rw [e]
    congr 2
    funext j
    by_cases z : j = i
    · rw [z, if_neg (by omega), pk_us, if_pos (by omega), Nat.sub_self, c2]
    · by_cases y : i + 1 ≤ j ∧ j < i + (c + 1)
      · rw [if_pos y, if_pos (by omega), show j - (i + 1) + 1 = j - i by omega]
      · rw [if_neg y, if_neg (by omega), pk_un z]
theorem Chn_congr {len : Nat → Int32} {nl : Nat} {nx ny : Nat → Int32} : ∀ {c v : Nat} {pl : Nat → Nat} {w : Nat}, (∀ u, u ≤ v → nx u = ny u) → Chn len nl nx c v pl w → Chn len nl ny c v pl w
  | 0, v, pl, w, h, hc => ⟨by rw [← h v (Nat.le_refl _)]; exact hc.1, hc.2⟩
  | c + 1, v, pl, w, h, hc => by
    obtain ⟨q, h1, h2, h3, h4, h5⟩ := hc
    exact ⟨q, h1, by rw [← h v (Nat.le_refl _)]; exact h2, h3, h4, Chn_congr (fun u hu => h u (by omega)) h5⟩
