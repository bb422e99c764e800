/-! PIECES by cuts straight through: the plain reckoning, and what may be left out of it -/
def mxv (g : Nat → Nat) : Nat → Nat → Nat
  | 0, a => a
  | n + 1, a => if mxv g n a < g (n + 1) then g (n + 1) else mxv g n a
theorem mxv_a (g : Nat → Nat) (a : Nat) : ∀ n, a ≤ mxv g n a
  | 0 => Nat.le_refl _
  | n + 1 => by
    have := mxv_a g a n
    rw [mxv]
    split <;> omega
theorem mxv_g (g : Nat → Nat) (a : Nat) : ∀ n c, 1 ≤ c → c ≤ n → g c ≤ mxv g n a
  | 0, c, h1, h2 => by omega
  | n + 1, c, h1, h2 => by
    rw [mxv]
    by_cases e : c = n + 1
    · subst e
      split <;> omega
    · have := mxv_g g a n c h1 (by omega)
      split <;> omega
theorem mxv_le (g : Nat → Nat) (a B : Nat) (ha : a ≤ B) : ∀ n, (∀ c, 1 ≤ c → c ≤ n → g c ≤ B) → mxv g n a ≤ B
  | 0, _ => ha
  | n + 1, h => by
    have h1 := mxv_le g a B ha n (fun c a1 a2 => h c a1 (by omega))
    have h2 := h (n + 1) (by omega) (Nat.le_refl _)
    rw [mxv]
    split <;> omega
theorem mxv_congr {g f : Nat → Nat} {a : Nat} : ∀ n, (∀ c, 1 ≤ c → c ≤ n → g c = f c) → mxv g n a = mxv f n a
  | 0, _ => rfl
  | n + 1, h => by rw [mxv, mxv, mxv_congr n (fun c a1 a2 => h c a1 (by omega)), h (n + 1) (by omega) (Nat.le_refl _)]
def fit2 (w h x y : Nat) : Nat := if (w ≤ x ∧ h ≤ y) ∨ (h ≤ x ∧ w ≤ y) then 1 else 0
def gq (w h : Nat) : Nat → Nat → Nat → Nat
  | 0, x, y => fit2 w h x y
  | n + 1, x, y => mxv (fun c => gq w h n x c + gq w h n x (y - c)) (y / 2) (mxv (fun c => gq w h n c y + gq w h n (x - c) y) (x / 2) (fit2 w h x y))
theorem gq_fuel (w h : Nat) : ∀ n m x y, x + y ≤ n → x + y ≤ m → gq w h n x y = gq w h m x y := by
  intro n
  induction n with
  | zero =>
    intro m x y h1 h2
    obtain rfl : x = 0 := by omega
    obtain rfl : y = 0 := by omega
    cases m with
    | zero => rfl
    | succ m => rfl
  | succ n ih =>
    intro m x y h1 h2
    cases m with
    | zero =>
      obtain rfl : x = 0 := by omega
      obtain rfl : y = 0 := by omega
      rfl
    | succ m =>
      rw [gq, gq]
      rw [mxv_congr (x / 2) (fun c a1 a2 => show gq w h n c y + gq w h n (x - c) y = gq w h m c y + gq w h m (x - c) y by
        rw [ih m c y (by omega) (by omega), ih m (x - c) y (by omega) (by omega)])]
      exact mxv_congr (y / 2) (fun c a1 a2 => show gq w h n x c + gq w h n x (y - c) = gq w h m x c + gq w h m x (y - c) by
        rw [ih m x c (by omega) (by omega), ih m x (y - c) (by omega) (by omega)])
def Qp (w h x y : Nat) : Nat := gq w h (x + y) x y
theorem Qp_eq (w h x y : Nat) : Qp w h x y = mxv (fun c => Qp w h x c + Qp w h x (y - c)) (y / 2) (mxv (fun c => Qp w h c y + Qp w h (x - c) y) (x / 2) (fit2 w h x y)) := by
  unfold Qp
  rw [gq_fuel w h (x + y) (x + y + 1) x y (by omega) (by omega), gq]
  rw [mxv_congr (x / 2) (fun c a1 a2 => show gq w h (x + y) c y + gq w h (x + y) (x - c) y = gq w h (c + y) c y + gq w h (x - c + y) (x - c) y by
    rw [gq_fuel w h (x + y) (c + y) c y (by omega) (by omega), gq_fuel w h (x + y) (x - c + y) (x - c) y (by omega) (by omega)])]
  exact mxv_congr (y / 2) (fun c a1 a2 => show gq w h (x + y) x c + gq w h (x + y) x (y - c) = gq w h (x + c) x c + gq w h (x + (y - c)) x (y - c) by
    rw [gq_fuel w h (x + y) (x + c) x c (by omega) (by omega), gq_fuel w h (x + y) (x + (y - c)) x (y - c) (by omega) (by omega)])
section GQ
variable {w h : Nat}
theorem Q_fit (x y : Nat) : fit2 w h x y ≤ Qp w h x y := by
  rw [Qp_eq]
  exact Nat.le_trans (mxv_a _ _ _) (mxv_a _ _ _)
theorem Q_v (x y c : Nat) (h1 : 1 ≤ c) (h2 : c ≤ x / 2) : Qp w h c y + Qp w h (x - c) y ≤ Qp w h x y := by
  rw [Qp_eq w h x y]
  exact Nat.le_trans (mxv_g (fun c => Qp w h c y + Qp w h (x - c) y) _ _ c h1 h2) (mxv_a _ _ _)
theorem Q_h (x y c : Nat) (h1 : 1 ≤ c) (h2 : c ≤ y / 2) : Qp w h x c + Qp w h x (y - c) ≤ Qp w h x y := by
  rw [Qp_eq w h x y]
  exact mxv_g (fun c => Qp w h x c + Qp w h x (y - c)) _ _ c h1 h2
theorem Q_le (x y B : Nat) (hf : fit2 w h x y ≤ B) (hv : ∀ c, 1 ≤ c → c ≤ x / 2 → Qp w h c y + Qp w h (x - c) y ≤ B) (hh : ∀ c, 1 ≤ c → c ≤ y / 2 → Qp w h x c + Qp w h x (y - c) ≤ B) : Qp w h x y ≤ B := by
  rw [Qp_eq]
  exact mxv_le _ _ _ (mxv_le _ _ _ hf _ hv) _ hh
theorem Q_area (hw : 1 ≤ w) (hh : 1 ≤ h) : ∀ n x y, x + y ≤ n → Qp w h x y * (w * h) ≤ x * y := by
  intro n
  induction n with
  | zero =>
    intro x y hn
    obtain rfl : x = 0 := by omega
    obtain rfl : y = 0 := by omega
    have : Qp w h 0 0 ≤ 0 := Q_le 0 0 0 (by unfold fit2; rw [if_neg (by omega)]; exact Nat.le_refl _) (fun c a b => by omega) (fun c a b => by omega)
    have e : Qp w h 0 0 = 0 := by omega
    rw [e]; omega
  | succ n ih =>
    intro x y hn
    have hpos : 0 < w * h := Nat.mul_pos hw hh
    have key : Qp w h x y ≤ x * y / (w * h) := by
      refine Q_le x y _ ?_ (fun c a b => ?_) (fun c a b => ?_)
      · unfold fit2
        by_cases z : (w ≤ x ∧ h ≤ y) ∨ (h ≤ x ∧ w ≤ y)
        · rw [if_pos z, Nat.le_div_iff_mul_le hpos, Nat.one_mul]
          rcases z with z | z
          · exact Nat.mul_le_mul z.1 z.2
          · rw [Nat.mul_comm]; exact Nat.mul_le_mul z.1 z.2
        · rw [if_neg z]; exact Nat.zero_le _
      · rw [Nat.le_div_iff_mul_le hpos, Nat.add_mul]
        have i1 := ih c y (by omega)
        have i2 := ih (x - c) y (by omega)
        have e : c * y + (x - c) * y = x * y := by rw [← Nat.add_mul]; congr 1; omega
        omega
      · rw [Nat.le_div_iff_mul_le hpos, Nat.add_mul]
        have i1 := ih x c (by omega)
        have i2 := ih x (y - c) (by omega)
        have e : x * c + x * (y - c) = x * y := by rw [← Nat.mul_add]; congr 1; omega
        omega
    exact (Nat.le_div_iff_mul_le hpos).mp key
theorem Q_am (hw : 1 ≤ w) (hh : 1 ≤ h) (x y : Nat) : Qp w h x y ≤ x * y / (w * h) := (Nat.le_div_iff_mul_le (Nat.mul_pos hw hh)).mpr (Q_area hw hh (x + y) x y (Nat.le_refl _))
theorem Q_xy (hw : 1 ≤ w) (hh : 1 ≤ h) (x y : Nat) : Qp w h x y ≤ x * y := Nat.le_trans (Q_am hw hh x y) (Nat.div_le_self _ _)
theorem Q_0y (hw : 1 ≤ w) (hh : 1 ≤ h) (y : Nat) : Qp w h 0 y = 0 := by have := Q_xy hw hh 0 y; omega
theorem Q_x0 (hw : 1 ≤ w) (hh : 1 ≤ h) (x : Nat) : Qp w h x 0 = 0 := by have := Q_xy hw hh x 0; omega
theorem Q_addv (hw : 1 ≤ w) (hh : 1 ≤ h) (a b y : Nat) : Qp w h a y + Qp w h b y ≤ Qp w h (a + b) y := by
  by_cases ha : a = 0
  · rw [ha, Q_0y hw hh, Nat.zero_add, Nat.zero_add]; exact Nat.le_refl _
  · by_cases hb : b = 0
    · rw [hb, Q_0y hw hh]; exact Nat.le_refl _
    · by_cases c : a ≤ b
      · have := Q_v (w := w) (h := h) (a + b) y a (by omega) (by omega)
        rw [show a + b - a = b by omega] at this
        exact this
      · have := Q_v (w := w) (h := h) (a + b) y b (by omega) (by omega)
        rw [show a + b - b = a by omega] at this
        omega
theorem Q_addh (hw : 1 ≤ w) (hh : 1 ≤ h) (x a b : Nat) : Qp w h x a + Qp w h x b ≤ Qp w h x (a + b) := by
  by_cases ha : a = 0
  · rw [ha, Q_x0 hw hh, Nat.zero_add, Nat.zero_add]; exact Nat.le_refl _
  · by_cases hb : b = 0
    · rw [hb, Q_x0 hw hh]; exact Nat.le_refl _
    · by_cases c : a ≤ b
      · have := Q_h (w := w) (h := h) x (a + b) a (by omega) (by omega)
        rw [show a + b - a = b by omega] at this
        exact this
      · have := Q_h (w := w) (h := h) x (a + b) b (by omega) (by omega)
        rw [show a + b - b = a by omega] at this
        omega
theorem Q_mono (hw : 1 ≤ w) (hh : 1 ≤ h) {a b c d : Nat} (h1 : a ≤ c) (h2 : b ≤ d) : Qp w h a b ≤ Qp w h c d := by
  have i1 := Q_addv (w := w) (h := h) hw hh a (c - a) b
  have i2 := Q_addh (w := w) (h := h) hw hh c b (d - b)
  rw [show a + (c - a) = c by omega] at i1
  rw [show b + (d - b) = d by omega] at i2
  omega
/-- a sum of w's and h's -/
def Sm (w h x : Nat) : Prop := ∃ i j, x = i * w + j * h
theorem Sm_0 : Sm w h 0 := ⟨0, 0, by omega⟩
theorem Sm_add {x y : Nat} (a : Sm w h x) (b : Sm w h y) : Sm w h (x + y) := by
  obtain ⟨i, j, rfl⟩ := a
  obtain ⟨k, l, rfl⟩ := b
  exact ⟨i + k, j + l, by rw [Nat.add_mul, Nat.add_mul]; omega⟩
theorem Sm_w : Sm w h w := ⟨1, 0, by omega⟩
theorem Sm_h : Sm w h h := ⟨0, 1, by omega⟩
theorem Sm_rec {x : Nat} (hx : 1 ≤ x) : Sm w h x ↔ (w ≤ x ∧ Sm w h (x - w)) ∨ (h ≤ x ∧ Sm w h (x - h)) := by
  constructor
  · rintro ⟨i, j, rfl⟩
    cases i with
    | zero =>
      cases j with
      | zero => omega
      | succ j => exact Or.inr ⟨by rw [Nat.add_mul]; omega, 0, j, by rw [Nat.add_mul]; omega⟩
    | succ i => exact Or.inl ⟨by rw [Nat.add_mul]; omega, i, j, by rw [Nat.add_mul]; omega⟩
  · rintro (⟨a, b⟩ | ⟨a, b⟩)
    · have := Sm_add b (Sm_w (w := w) (h := h))
      rw [show x - w + w = x by omega] at this
      exact this
    · have := Sm_add b (Sm_h (w := w) (h := h))
      rw [show x - h + h = x by omega] at this
      exact this
theorem Q_nsv (hw : 1 ≤ w) (hh : 1 ≤ h) : ∀ n x y, x + y ≤ n → 1 ≤ x → ¬ Sm w h x → Qp w h x y ≤ Qp w h (x - 1) y := by
  intro n
  induction n with
  | zero => intro x y a b; omega
  | succ n ih =>
    intro x y hn hx hs
    refine Q_le x y _ ?_ (fun c a b => ?_) (fun c a b => ?_)
    · have hxw : x ≠ w := fun e => hs (e ▸ Sm_w)
      have hxh : x ≠ h := fun e => hs (e ▸ Sm_h)
      refine Nat.le_trans ?_ (Q_fit (w := w) (h := h) (x - 1) y)
      unfold fit2
      by_cases z : (w ≤ x ∧ h ≤ y) ∨ (h ≤ x ∧ w ≤ y)
      · rw [if_pos z, if_pos (by omega)]; exact Nat.le_refl _
      · rw [if_neg z]; exact Nat.zero_le _
    · by_cases hc : Sm w h c
      · have hd : ¬ Sm w h (x - c) := fun q => hs (by
          have := Sm_add hc q
          rw [show c + (x - c) = x by omega] at this
          exact this)
        have i1 := ih (x - c) y (by omega) (by omega) hd
        have i2 := Q_addv (w := w) (h := h) hw hh c (x - c - 1) y
        rw [show c + (x - c - 1) = x - 1 by omega] at i2
        omega
      · have i1 := ih c y (by omega) a hc
        have i2 := Q_addv (w := w) (h := h) hw hh (c - 1) (x - c) y
        rw [show c - 1 + (x - c) = x - 1 by omega] at i2
        omega
    · have i1 := ih x c (by omega) hx hs
      have i2 := ih x (y - c) (by omega) hx hs
      have i3 := Q_addh (w := w) (h := h) hw hh (x - 1) c (y - c)
      rw [show c + (y - c) = y by omega] at i3
      omega
theorem Q_nsh (hw : 1 ≤ w) (hh : 1 ≤ h) : ∀ n x y, x + y ≤ n → 1 ≤ y → ¬ Sm w h y → Qp w h x y ≤ Qp w h x (y - 1) := by
  intro n
  induction n with
  | zero => intro x y a b; omega
  | succ n ih =>
    intro x y hn hx hs
    refine Q_le x y _ ?_ (fun c a b => ?_) (fun c a b => ?_)
    · have hxw : y ≠ w := fun e => hs (e ▸ Sm_w)
      have hxh : y ≠ h := fun e => hs (e ▸ Sm_h)
      refine Nat.le_trans ?_ (Q_fit (w := w) (h := h) x (y - 1))
      unfold fit2
      by_cases z : (w ≤ x ∧ h ≤ y) ∨ (h ≤ x ∧ w ≤ y)
      · rw [if_pos z, if_pos (by omega)]; exact Nat.le_refl _
      · rw [if_neg z]; exact Nat.zero_le _
    · have i1 := ih c y (by omega) hx hs
      have i2 := ih (x - c) y (by omega) hx hs
      have i3 := Q_addv (w := w) (h := h) hw hh c (x - c) (y - 1)
      rw [show c + (x - c) = x by omega] at i3
      omega
    · by_cases hc : Sm w h c
      · have hd : ¬ Sm w h (y - c) := fun q => hs (by
          have := Sm_add hc q
          rw [show c + (y - c) = y by omega] at this
          exact this)
        have i1 := ih x (y - c) (by omega) (by omega) hd
        have i2 := Q_addh (w := w) (h := h) hw hh x c (y - c - 1)
        rw [show c + (y - c - 1) = y - 1 by omega] at i2
        omega
      · have i1 := ih x c (by omega) a hc
        have i2 := Q_addh (w := w) (h := h) hw hh x (c - 1) (y - c)
        rw [show c - 1 + (y - c) = y - 1 by omega] at i2
        omega
theorem Q_nsv1 (hw : 1 ≤ w) (hh : 1 ≤ h) {x y : Nat} (hx : 1 ≤ x) (hs : ¬ Sm w h x) : Qp w h x y = Qp w h (x - 1) y := Nat.le_antisymm (Q_nsv hw hh (x + y) x y (Nat.le_refl _) hx hs) (Q_mono hw hh (by omega) (Nat.le_refl _))
theorem Q_nsh1 (hw : 1 ≤ w) (hh : 1 ≤ h) {x y : Nat} (hx : 1 ≤ y) (hs : ¬ Sm w h y) : Qp w h x y = Qp w h x (y - 1) := Nat.le_antisymm (Q_nsh hw hh (x + y) x y (Nat.le_refl _) hx hs) (Q_mono hw hh (Nat.le_refl _) (by omega))
/-- the largest sum below: the same number of pieces -/
theorem Q_downv (hw : 1 ≤ w) (hh : 1 ≤ h) (y : Nat) : ∀ c, ∃ r, r ≤ c ∧ Sm w h r ∧ Qp w h c y = Qp w h r y := by
  intro c
  induction c with
  | zero => exact ⟨0, Nat.le_refl _, Sm_0, rfl⟩
  | succ c ih =>
    by_cases hs : Sm w h (c + 1)
    · exact ⟨c + 1, Nat.le_refl _, hs, rfl⟩
    · obtain ⟨r, h1, h2, h3⟩ := ih
      exact ⟨r, by omega, h2, (Q_nsv1 hw hh (by omega) hs).trans h3⟩
theorem Q_downh (hw : 1 ≤ w) (hh : 1 ≤ h) (x : Nat) : ∀ c, ∃ r, r ≤ c ∧ Sm w h r ∧ Qp w h x c = Qp w h x r := by
  intro c
  induction c with
  | zero => exact ⟨0, Nat.le_refl _, Sm_0, rfl⟩
  | succ c ih =>
    by_cases hs : Sm w h (c + 1)
    · exact ⟨c + 1, Nat.le_refl _, hs, rfl⟩
    · obtain ⟨r, h1, h2, h3⟩ := ih
      exact ⟨r, by omega, h2, (Q_nsh1 hw hh (by omega) hs).trans h3⟩
/-- cuts at sums alone are enough -/
theorem Q_rst (hw : 1 ≤ w) (hh : 1 ≤ h) {a b B : Nat} (hf : fit2 w h a b ≤ B) (hv : ∀ c, 1 ≤ c → c ≤ a / 2 → Sm w h c → Qp w h c b + Qp w h (a - c) b ≤ B) (hz : ∀ c, 1 ≤ c → c ≤ b / 2 → Sm w h c → Qp w h a c + Qp w h a (b - c) ≤ B) : ∀ n x y, x + y ≤ n → x ≤ a → y ≤ b → Qp w h x y ≤ B := by
  intro n
  induction n with
  | zero =>
    intro x y hn _ _
    obtain rfl : x = 0 := by omega
    rw [Q_0y hw hh]
    exact Nat.zero_le _
  | succ n ih =>
    intro x y hn hx hy
    refine Q_le x y B ?_ (fun c h1 h2 => ?_) (fun c h1 h2 => ?_)
    · refine Nat.le_trans ?_ hf
      unfold fit2
      by_cases z : (w ≤ x ∧ h ≤ y) ∨ (h ≤ x ∧ w ≤ y)
      · rw [if_pos z, if_pos (by omega)]; exact Nat.le_refl _
      · rw [if_neg z]; exact Nat.zero_le _
    · obtain ⟨r, r1, r2, r3⟩ := Q_downv (w := w) (h := h) hw hh y c
      by_cases r0 : r = 0
      · rw [r3, r0, Q_0y hw hh, Nat.zero_add]
        exact ih (x - c) y (by omega) (by omega) hy
      · have i1 := hv r (by omega) (by omega) r2
        have i2 : Qp w h r y ≤ Qp w h r b := Q_mono hw hh (Nat.le_refl _) hy
        have i3 : Qp w h (x - c) y ≤ Qp w h (a - r) b := Q_mono hw hh (by omega) hy
        rw [r3]
        omega
    · obtain ⟨r, r1, r2, r3⟩ := Q_downh (w := w) (h := h) hw hh x c
      by_cases r0 : r = 0
      · rw [r3, r0, Q_x0 hw hh, Nat.zero_add]
        exact ih x (y - c) (by omega) hx (by omega)
      · have i1 := hz r (by omega) (by omega) r2
        have i2 : Qp w h x r ≤ Qp w h a r := Q_mono hw hh hx (Nat.le_refl _)
        have i3 : Qp w h x (y - c) ≤ Qp w h a (b - r) := Q_mono hw hh hx (by omega)
        rw [r3]
        omega
end GQ
