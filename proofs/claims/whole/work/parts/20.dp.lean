/-! what a run is worth -/
def lnk (len : Nat → Int32) (l : Nat) : Nat := (len l).toNatClampNeg
def LenOK (len : Nat → Int32) (nl : Nat) : Prop := nl ≤ 6 ∧ ∀ l, l < nl → len l = nI (lnk len l) ∧ 5 ≤ lnk len l ∧ lnk len l ≤ 80
theorem len_ok {len : Nat → Int32} {nl : Nat} (h6 : nl ≤ 6) (h : ∀ i, i < nl → ∃ c, 5 ≤ c ∧ c ≤ 80 ∧ len i = nI c) : LenOK len nl := by
  refine ⟨h6, fun l hl => ?_⟩
  obtain ⟨c, h1, h2, h3⟩ := h l hl
  have e : lnk len l = c := by unfold lnk; rw [h3]; exact q_cl (by omega)
  rw [e]
  exact ⟨h3, h1, h2⟩
def stp (len wv f : Nat → Int32) (v : Nat) : Nat → Int32
  | 0 => 0
  | l + 1 => if lnk len l ≤ v then (if stp len wv f v l < wv l + f (v - lnk len l) then wv l + f (v - lnk len l) else stp len wv f v l) else stp len wv f v l
theorem stp_congr {len wv f g : Nat → Int32} {v : Nat} : ∀ {l : Nat}, (∀ j, j < l → 5 ≤ lnk len j) → (∀ u, u < v → f u = g u) → stp len wv f v l = stp len wv g v l
  | 0, _, _ => rfl
  | l + 1, hp, h => by
    rw [stp, stp, stp_congr (fun j hj => hp j (by omega)) h]
    by_cases c : lnk len l ≤ v
    · rw [if_pos c, if_pos c, h (v - lnk len l) (by have := hp l (by omega); omega)]
    · rw [if_neg c, if_neg c]
def Tab (len wv : Nat → Int32) (nl : Nat) (f : Nat → Int32) (V : Nat) : Prop := ∀ u, u < V → f u = stp len wv f u nl
theorem Tab_uniq {len wv f g : Nat → Int32} {nl V : Nat} (hL : LenOK len nl) (hf : Tab len wv nl f V) (hg : Tab len wv nl g V) : ∀ u, u < V → f u = g u := by
  intro u
  induction u using Nat.strongRecOn with
  | ind u ih =>
    intro hu
    rw [hf u hu, hg u hu]
    exact stp_congr (fun j hj => (hL.2 j hj).2.1) (fun w hw => ih w hw (by omega))
section DPF
variable {T : Sg} {len wv : Nat → Int32} {nl k : Nat}
def FL (T : Sg) (len wv : Nat → Int32) (nl k : Nat) : Prop := LenOK len nl ∧ k < 5 ∧ T.1 3 = nI nl ∧ T.2 11 = len ∧ ∀ l, l < nl → T.2 12 (l * 5 + k) = wv l
theorem r_ww (h : FL T len wv nl k) {l v : Nat} (hl : l < nl) (hv : v ≤ 2000) (hc : lnk len l ≤ v) : pX1_worthWith T (nI l) (nI k) (nI v) = some (wv l + T.2 13 (v - lnk len l)) := by
  obtain ⟨hL, hk, h3, h11, h12⟩ := h
  have h6 := hL.1
  obtain ⟨e1, -, -⟩ := hL.2 l hl
  unfold pX1_worthWith pX4_worthOf
  rw [ix_a, q_ckn (show l * 5 + k < 30 by omega) (by decide), q_bd, q_cl (show l * 5 + k < 2 ^ 31 by omega), h12 l hl, q_ckn (show l < 6 by omega) (by decide), q_cl (show l < 2 ^ 31 by omega), h11, e1, pk_sub hc, q_ckn (show v - lnk len l < 2001 by omega) (by decide), q_cl (by omega)]
theorem one_l (h : FL T len wv nl k) {v : Nat} (hv : v ≤ 2000) : ∀ (d n l : Nat), l + d = nl → d < n → pX1_mostOfOneMore_l5 T n (nI k) (nI v) (stp len wv (T.2 13) v l) (nI l) = some (stp len wv (T.2 13) v nl) := by
  have h3 := h.2.2.1
  have h11 := h.2.2.2.1
  have h6 := h.1.1
  intro d
  induction d with
  | zero =>
    intro n l hl hd
    obtain ⟨n, rfl⟩ : ∃ k, n = k + 1 := ⟨n - 1, by omega⟩
    obtain rfl : l = nl := by omega
    rw [pX1_mostOfOneMore_l5, h3, if_pos (nI_le (Nat.le_refl _) (by omega))]
  | succ d ih =>
    intro n l hl hd
    obtain ⟨n, rfl⟩ : ∃ k, n = k + 1 := ⟨n - 1, by omega⟩
    obtain ⟨e1, -, hle⟩ := h.1.2 l (by omega)
    have I := ih n (l + 1) (by omega) (by omega)
    rw [stp] at I
    rw [pX1_mostOfOneMore_l5, h3, if_neg (lp_c (by omega) (by omega)), q_ckn (show l < 6 by omega) (by decide), q_cl (by omega), h11, e1]
    by_cases c : lnk len l ≤ v
    · rw [if_neg (nI_nlt c (by omega)), r_ww h (by omega) hv c, q_bd, q_vl, q_vl, nI_1]
      rw [if_pos c] at I
      exact I
    · rw [if_pos (nI_lt (by omega) (by omega)), q_vl, nI_1]
      rw [if_neg c] at I
      exact I
theorem r_one (h : FL T len wv nl k) {v : Nat} (hv : v ≤ 2000) : pX1_mostOfOneMore T (nI k) (nI v) = some (stp len wv (T.2 13) v nl) := by
  have h6 := h.1.1
  unfold pX1_mostOfOneMore
  rw [q_vl, q_vl]
  exact one_l h hv nl 5000 0 (by omega) (by omega)
theorem FL_W (h : FL T len wv nl k) (f : Nat → Int32) : FL (sW T 13 f) len wv nl k := h
theorem mw_l (h : FL T len wv nl k) {V : Nat} (hV : V ≤ 2000) : ∀ (d n r : Nat) (f : Nat → Int32), r + d = V + 1 → d < n → Tab len wv nl f r → ∃ g, pX1_mostWorth_l2 n (sW T 13 f) (nI k) (nI V) (nI r) = some (g V, sW T 13 g) ∧ Tab len wv nl g (V + 1) := by
  intro d
  induction d with
  | zero =>
    intro n r f hr hd ht
    obtain ⟨n, rfl⟩ : ∃ k, n = k + 1 := ⟨n - 1, by omega⟩
    obtain rfl : r = V + 1 := by omega
    refine ⟨f, ?_, ht⟩
    rw [pX1_mostWorth_l2, if_pos (nI_lt (by omega) (by omega)), q_ckn (show V < 2001 by omega) (by decide), q_cl (by omega), sW_s]
  | succ d ih =>
    intro n r f hr hd ht
    obtain ⟨n, rfl⟩ : ∃ k, n = k + 1 := ⟨n - 1, by omega⟩
    rw [pX1_mostWorth_l2, if_neg (nI_nlt (by omega) (by omega)), r_one (FL_W h f) (by omega), q_bd, q_ckn (show r < 2001 by omega) (by decide), q_st, q_vl, sA_W, sW_W, sW_s, q_cl (by omega), nI_1]
    refine ih n (r + 1) _ (by omega) (by omega) (fun u hu => ?_)
    have hc : stp len wv (upd f r (stp len wv f r nl)) u nl = stp len wv f u nl := stp_congr (fun j hj => (h.1.2 j hj).2.1) (fun w hw => pk_un (by omega))
    rw [hc]
    by_cases e : u = r
    · rw [e, pk_us]
    · rw [pk_un e]
      exact ht u (by omega)
theorem r_mw (h : FL T len wv nl k) {V : Nat} (hV : V ≤ 2000) : ∃ g, pX1_mostWorth T (nI k) (nI V) = some (g V, sW T 13 g) ∧ Tab len wv nl g (V + 1) := by
  unfold pX1_mostWorth
  rw [q_vl]
  obtain ⟨g, h1, h2⟩ := mw_l h hV (V + 1) 5000 0 (T.2 13) (by omega) (by omega) (fun u hu => by omega)
  rw [sW_id] at h1
  exact ⟨g, h1, h2⟩
end DPF
section DPM
variable {T : Sg} {len wv : Nat → Int32} {nl k : Nat}
def ML (T : Sg) (len wv : Nat → Int32) (nl k : Nat) : Prop := LenOK len nl ∧ k < 5 ∧ T.1 3 = nI nl ∧ T.2 4 = len ∧ ∀ l, l < nl → T.2 5 (6 * k + l) = wv l
theorem rk_in (h : ML T len wv nl k) (K : Sg → Int32 → Int32 → Int32 → Option Sg) {v : Nat} (V : Int32) (hv : v ≤ 2000) : ∀ (d n l : Nat) (f : Nat → Int32), l + d = nl → d < n → f v = stp len wv f v l →
    pX8_reckons_l17 K n (sW T 9 f) (nI k) V (nI v) (nI l) = K (sW T 9 (upd f v (stp len wv f v nl))) (nI k) V (nI (v + 1)) := by
  have h6 := h.1.1
  have hk := h.2.1
  have hp : ∀ j, j < nl → 5 ≤ lnk len j := fun j hj => (h.1.2 j hj).2.1
  intro d
  induction d with
  | zero =>
    intro n l f hl hd hf
    obtain ⟨n, rfl⟩ : ∃ k, n = k + 1 := ⟨n - 1, by omega⟩
    obtain rfl : l = nl := by omega
    have h3 : (sW T 9 f).1 3 = nI l := h.2.2.1
    rw [pX8_reckons_l17, h3, if_pos (nI_le (Nat.le_refl _) (by omega)), q_vl, nI_1]
    have e : upd f v (stp len wv f v l) = f := by
      funext j
      by_cases c : j = v
      · rw [c, pk_us, hf]
      · rw [pk_un c]
    rw [e]
  | succ d ih =>
    intro n l f hl hd hf
    obtain ⟨n, rfl⟩ : ∃ k, n = k + 1 := ⟨n - 1, by omega⟩
    obtain ⟨e1, hge, hle⟩ := h.1.2 l (by omega)
    have h3 : (sW T 9 f).1 3 = nI nl := h.2.2.1
    have h4 : (sW T 9 f).2 4 = len := h.2.2.2.1
    have h5 : (sW T 9 f).2 5 (6 * k + l) = wv l := h.2.2.2.2 l (by omega)
    rw [pX8_reckons_l17, h3, if_neg (lp_c (by omega) (by omega)), q_ckn (show l < 6 by omega) (by decide), q_cl (show l < 2 ^ 31 by omega), h4, e1]
    by_cases c : lnk len l ≤ v
    · rw [if_neg (nI_nlt c (by omega)), q_ckn (show v < 2001 by omega) (by decide), ix_c, q_ckn (show 6 * k + l < 30 by omega) (by decide), q_ckn (show l < 6 by omega) (by decide), pk_sub c, q_ckn (show v - lnk len l < 2001 by omega) (by decide), q_ckn (show v < 2001 by omega) (by decide), q_st, q_vl, q_cl (show v < 2 ^ 31 by omega), q_cl (show 6 * k + l < 2 ^ 31 by omega), q_cl (show v - lnk len l < 2 ^ 31 by omega), h5, sA_W, sW_W, sW_s, q_cl (show v < 2 ^ 31 by omega), nI_1]
      have hc : ∀ x m, m ≤ nl → stp len wv (upd f v x) v m = stp len wv f v m := fun x m hm => stp_congr (fun j hj => hp j (by omega)) (fun w hw => pk_un (by omega))
      rw [ih n (l + 1) _ (by omega) (by omega) (by rw [pk_us, hc _ _ (by omega), stp, if_pos c, ← hf]), hc _ _ (Nat.le_refl _)]
      congr 2
      funext j
      by_cases e : j = v
      · rw [e, pk_us, pk_us]
      · rw [pk_un e, pk_un e, pk_un e]
    · rw [if_pos (nI_lt (by omega) (by omega)), q_vl, nI_1]
      exact ih n (l + 1) f (by omega) (by omega) (by rw [stp, if_neg c]; exact hf)
theorem rk_l (h : ML T len wv nl k) {V : Nat} (hV : V ≤ 2000) : ∀ (d n r : Nat) (f : Nat → Int32), r + d = V + 1 → d < n → Tab len wv nl f r → ∃ g, pX8_reckons_l2 n (sW T 9 f) (nI k) (nI V) (nI r) = some (sW T 9 g) ∧ Tab len wv nl g (V + 1) := by
  have h6 := h.1.1
  have hp : ∀ j, j < nl → 5 ≤ lnk len j := fun j hj => (h.1.2 j hj).2.1
  intro d
  induction d with
  | zero =>
    intro n r f hr hd ht
    obtain ⟨n, rfl⟩ : ∃ k, n = k + 1 := ⟨n - 1, by omega⟩
    obtain rfl : r = V + 1 := by omega
    refine ⟨f, ?_, ht⟩
    rw [pX8_reckons_l2, if_pos (nI_lt (by omega) (by omega))]
  | succ d ih =>
    intro n r f hr hd ht
    obtain ⟨n, rfl⟩ : ∃ k, n = k + 1 := ⟨n - 1, by omega⟩
    rw [pX8_reckons_l2, if_neg (nI_nlt (by omega) (by omega)), q_ckn (show r < 2001 by omega) (by decide), q_st, q_vl, sA_W, sW_W, sW_s, q_cl (show r < 2 ^ 31 by omega)]
    rw [show (0 : Int32) = nI 0 from rfl, rk_in h (pX8_reckons_l2 n) (nI V) (by omega) nl 5000 0 _ (by omega) (by omega) (by rw [pk_us]; rfl)]
    have hc : ∀ x u, u ≤ r → stp len wv (upd f r x) u nl = stp len wv f u nl := fun x u hu => stp_congr hp (fun w hw => pk_un (by omega))
    refine ih n (r + 1) _ (by omega) (by omega) (fun u hu => ?_)
    have hc2 : ∀ x y u, u ≤ r → stp len wv (upd (upd f r x) r y) u nl = stp len wv f u nl := fun x y u hu => stp_congr hp (fun w hw => by rw [pk_un (by omega), pk_un (by omega)])
    rw [hc2 _ _ u (by omega), hc _ _ (Nat.le_refl _)]
    by_cases e : u = r
    · rw [e, pk_us]
    · rw [pk_un e, pk_un e]
      exact ht u (by omega)
theorem r_rk (h : ML T len wv nl k) {V : Nat} (hV : V ≤ 2000) : ∃ g, pX8_reckons T (nI k) (nI V) = some (sW T 9 g) ∧ Tab len wv nl g (V + 1) := by
  unfold pX8_reckons
  rw [q_vl]
  obtain ⟨g, h1, h2⟩ := rk_l h hV (V + 1) 5000 0 (T.2 9) (by omega) (by omega) (fun u hu => by omega)
  rw [sW_id] at h1
  exact ⟨g, h1, h2⟩
end DPM
theorem op_best {F M : Sg} (h : Rel F M) (x y : Int32) : Sim (pX7_best F x y) (pX8_best M x y) := by
  have h0 := Rel_t 0 h
  obtain ⟨nk, nl, nr, nb, no, hK, hB, hY, hO, hE⟩ := id h
  obtain ⟨⟨e8, e9, e10, e11⟩, hw, ⟨f2, m2, hk5, f3, m3, hl6⟩, hch, hln⟩ := id hK
  unfold pX7_best pX8_best
  rw [q_st, r_has3, r_isKind, q_bd, q_bd, f2, show (sS M 0 0).1 2 = nI nk from m2]
  refine Sim_ite (fun _ => Sim_ref 1 h0) (fun c1 => ?_)
  rw [r_within, r_in, q_bd, q_bd]
  refine Sim_ite (fun _ => Sim_ref 2 h0) (fun c2 => ?_)
  obtain ⟨k, hk, rfl⟩ := hsb_n (by omega) c1
  obtain ⟨v, -, hv, rfl⟩ := inb_n (a := 0) (b := 2000) c2 (by decide) (by decide)
  have hL := len_ok hl6 hln
  have hF : FL F (M.2 4) (fun l => M.2 5 (6 * k + l)) nl k := ⟨hL, by omega, f3, e11, fun l hl => hw l k (by omega) (by omega)⟩
  have hM : ML (sS M 0 0) (M.2 4) (fun l => M.2 5 (6 * k + l)) nl k := ⟨hL, by omega, m3, rfl, fun l hl => rfl⟩
  obtain ⟨g1, a1, a2⟩ := r_mw hF hv
  obtain ⟨g2, b1, b2⟩ := r_rk hM hv
  have e := Tab_uniq hL a2 b2 v (by omega)
  rw [a1, b1, q_b2, q_bd, q_ckn (show v < 2001 by omega) (by decide), q_cl (by omega), sW_s, r_ansF, r_ansM, q_b2, q_b2, e]
  exact ⟨_, _, _, rfl, rfl, Rel_tr 0 ⟨nk, nl, nr, nb, no, hK, hB, hY, hO, hE⟩⟩
