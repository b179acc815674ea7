/-! THE STREET AND ITS STATE, as numbers: a street is N G S L M, eaters, wanted dreams, values; a state is weights, pillows, tastes, salted, awake, nights, earned, seed -/
abbrev xa_T : Type := Nat × Nat × Nat × Nat × Nat × (Nat → Nat) × (Nat → Nat) × (Nat → Nat)
def tN (t : xa_T) : Nat := t.1
def tG (t : xa_T) : Nat := t.2.1
def tS (t : xa_T) : Nat := t.2.2.1
def tL (t : xa_T) : Nat := t.2.2.2.1
def tM (t : xa_T) : Nat := t.2.2.2.2.1
def tE (t : xa_T) : Nat → Nat := t.2.2.2.2.2.1
def tW (t : xa_T) : Nat → Nat := t.2.2.2.2.2.2.1
def tV (t : xa_T) : Nat → Nat := t.2.2.2.2.2.2.2
abbrev xa_A : Type := (Nat → Nat → Nat) × (Nat → Option Nat) × (Nat → Option Nat) × Nat × Nat × Int32 × Nat × Nat
def qW (a : xa_A) : Nat → Nat → Nat := a.1
def qP (a : xa_A) : Nat → Option Nat := a.2.1
def qT (a : xa_A) : Nat → Option Nat := a.2.2.1
def qS (a : xa_A) : Nat := a.2.2.2.1
def qA (a : xa_A) : Nat := a.2.2.2.2.1
def qN (a : xa_A) : Int32 := a.2.2.2.2.2.1
def qE (a : xa_A) : Nat := a.2.2.2.2.2.2.1
def qR (a : xa_A) : Nat := a.2.2.2.2.2.2.2
def xi_T (t : xa_T) : Prop := tN t ≤ 5 ∧ tG t ≤ 5 ∧ tS t ≤ 6 ∧ tL t ≤ 7 ∧ tM t ≤ 4 ∧ (0 < tS t → 0 < tN t) ∧ ∀ l, l < tL t → tE t l < tS t ∧ tW t l < tN t ∧ tV t l ≤ 99
def xi_A (t : xa_T) (a : xa_A) : Prop := (∀ s d, qW a s d ≤ 9) ∧ (∀ s d, tN t ≤ d → qW a s d = 0) ∧ (∀ s, s < tS t → 0 < xs_sum (qW a s) 5) ∧ (∀ l s, qP a l = some s → l < tL t ∧ s < tS t ∧ s ≠ tE t l) ∧ (∀ l k s, qP a l = some s → qP a k = some s → l = k) ∧ (∀ l d, qT a l = some d → l < tL t ∧ d < tN t) ∧ qS a < 2 ^ tL t ∧ qA a < 2 ^ tS t ∧ qE a ≤ 999999 ∧ qR a < 2 ^ 31
def xi_Tc (σ : xr_S) (t : xa_T) : Prop := σ.1 9 0 = nI (tN t) ∧ σ.1 9 1 = nI (tG t) ∧ σ.1 9 2 = nI (tS t) ∧ σ.1 9 3 = nI (tL t) ∧ σ.1 9 4 = nI (tM t) ∧ ∀ l, l < tL t → σ.1 12 l = nI (tE t l) ∧ σ.1 13 l = nI (tW t l) ∧ σ.1 14 l = nI (tV t l)
def xi_Tm (σ : xr_S) (t : xa_T) : Prop := σ.1 49 2 = nI (tN t) ∧ σ.1 49 3 = nI (tG t) ∧ σ.1 49 4 = nI (tS t) ∧ σ.1 49 5 = nI (tL t) ∧ σ.1 49 6 = nI (tM t) ∧ ∀ l, l < tL t → σ.1 52 l = nI (tE t l) ∧ σ.1 53 l = nI (tW t l) ∧ σ.1 54 l = nI (tV t l)
def xi_C (σ : xr_S) (c : Nat) (a : xa_A) : Prop := (∀ s d, s < 6 → d < 5 → σ.1 (c + 2) (s * 5 + d) = nI (qW a s d)) ∧ (∀ l, l < 7 → σ.1 (c + 3) l = oI (qP a l)) ∧ (∀ l, l < 7 → σ.1 (c + 4) l = oI (qT a l)) ∧ σ.1 c 3 = nI (qS a) ∧ σ.1 c 4 = nI (qA a) ∧ σ.1 c 5 = qN a ∧ σ.1 c 6 = nI (qE a) ∧ σ.1 c 7 = nI (qR a)
def xi_M (σ : xr_S) (b : Nat) (a : xa_A) : Prop := (∀ s d, s < 6 → d < 5 → σ.1 50 (b + 5 * s + d) = nI (qW a s d)) ∧ (∀ l, l < 7 → σ.1 50 (b + (30 + l)) = oI (qP a l)) ∧ (∀ l, l < 7 → σ.1 50 (b + (37 + l)) = oI (qT a l)) ∧ (∀ l, l < 7 → σ.1 50 (b + (44 + l)) = bI ((qS a).testBit l)) ∧ σ.1 50 (b + 51) = nI (qA a) ∧ σ.1 50 (b + 52) = qN a ∧ σ.1 50 (b + 53) = nI (qE a) ∧ σ.1 50 (b + 54) = nI (qR a)
def xi_X (σ : xr_S) (n : Nat) (tx : Nat → Nat) : Prop := n ≤ 240 ∧ σ.1 1 0 = nI n ∧ σ.1 49 11 = nI n ∧ ∀ k, k < n → σ.1 2 k = nI (tx k) ∧ σ.1 55 k = nI (tx k) ∧ tx k ≤ 255
def xi_F (σ : xr_S) : Prop := σ.1 0 11 = σ.1 49 16
def xi_B (σ : xr_S) (t : xa_T) (n : Nat) (f : Nat → Nat) : Prop := n ≤ 8 ∧ σ.1 39 0 = nI n ∧ σ.1 49 28 = nI n ∧ ∀ k, k < n → σ.1 40 k = nI (f k) ∧ σ.1 61 k = nI (f k) ∧ f k < tN t
def xi_K (σ : xr_S) (t : xa_T) (n : Nat) (f g h : Nat → Nat) : Prop := n ≤ 15 ∧ σ.1 45 0 = nI n ∧ σ.1 49 33 = nI n ∧ ∀ k, k < n → (σ.1 46 k = nI (f k) ∧ σ.1 65 k = nI (f k) ∧ f k < tS t) ∧ (σ.1 47 k = nI (g k) ∧ σ.1 66 k = nI (g k) ∧ g k < tN t) ∧ σ.1 48 k = nI (h k) ∧ σ.1 67 k = nI (h k) ∧ h k ≤ 9
def xi_G (σ : xr_S) (t : xa_T) (n : Nat) : Prop := n < 4 ∧ σ.1 0 10 = nI n ∧ ∀ i, i < 2 → σ.1 51 i = bI (n.testBit i) ∧ (n.testBit i = true → ∃ a, xi_A t a ∧ xi_C σ (xr_img i) a ∧ xi_M σ (110 + 55 * i) a)
def xi_I (σ : xr_S) (t : xa_T) (a : xa_A) : Prop := xi_T t ∧ xi_A t a ∧ xi_Tc σ t ∧ xi_Tm σ t ∧ xi_C σ 15 a ∧ xi_M σ 0 a ∧ (∃ n tx, xi_X σ n tx) ∧ xi_F σ ∧ (∃ n f, xi_B σ t n f) ∧ (∃ n f g h, xi_K σ t n f g h) ∧ ∃ n, xi_G σ t n
def xi (σ : xr_S) : Prop := ∃ t a, xi_I σ t a
/-- the rows that hold nothing between calls, and the state's own -/
def xi_free (c : Nat) : Bool := [15, 17, 18, 19, 31, 32, 33, 34, 35, 36, 37, 38, 41, 42, 43, 44, 50, 58, 59, 60, 62, 63].contains c
theorem xi_step {σ τ : xr_S} {t : xa_T} {a b : xa_A} (h : xi_I σ t a) (hf : ∀ c, xi_free c = false → τ.1 c = σ.1 c) (hk : ∀ k, 110 ≤ k → τ.1 50 k = σ.1 50 k) (hA : xi_A t b) (hC : xi_C τ 15 b) (hM : xi_M τ 0 b) : xi_I τ t b := by
  obtain ⟨h1, h2, h3, h4, h5, h6, ⟨n7, f7, h7⟩, h8, ⟨n9, f9, h9⟩, ⟨n10, f10, g10, k10, h10⟩, n11, h11⟩ := h
  have e0 := hf 0 rfl
  have e1 := hf 1 rfl
  have e2 := hf 2 rfl
  have e9 := hf 9 rfl
  have e12 := hf 12 rfl
  have e13 := hf 13 rfl
  have e14 := hf 14 rfl
  have e39 := hf 39 rfl
  have e40 := hf 40 rfl
  have e45 := hf 45 rfl
  have e46 := hf 46 rfl
  have e47 := hf 47 rfl
  have e48 := hf 48 rfl
  have e49 := hf 49 rfl
  have e51 := hf 51 rfl
  have e52 := hf 52 rfl
  have e53 := hf 53 rfl
  have e54 := hf 54 rfl
  have e55 := hf 55 rfl
  have e61 := hf 61 rfl
  have e65 := hf 65 rfl
  have e66 := hf 66 rfl
  have e67 := hf 67 rfl
  refine ⟨h1, hA, ?_, ?_, hC, hM, ⟨n7, f7, ?_⟩, ?_, ⟨n9, f9, ?_⟩, ⟨n10, f10, g10, k10, ?_⟩, n11, ?_⟩
  · simpa only [xi_Tc, e9, e12, e13, e14] using h3
  · simpa only [xi_Tm, e49, e52, e53, e54] using h4
  · simpa only [xi_X, e1, e2, e49, e55] using h7
  · simpa only [xi_F, e0, e49] using h8
  · simpa only [xi_B, e39, e40, e49, e61] using h9
  · simpa only [xi_K, e45, e46, e47, e48, e49, e65, e66, e67] using h10
  · obtain ⟨i1, i2, i3⟩ := h11
    refine ⟨i1, by rw [e0]; exact i2, fun i hi => ?_⟩
    obtain ⟨j1, j2⟩ := i3 i hi
    refine ⟨by rw [e51]; exact j1, fun hb => ?_⟩
    obtain ⟨x, x1, x2, x3⟩ := j2 hb
    refine ⟨x, x1, ?_, ?_⟩
    · have q0 : τ.1 (xr_img i) = σ.1 (xr_img i) := hf _ (by match i, hi with | 0, _ => rfl | 1, _ => rfl)
      have q2 : τ.1 (xr_img i + 2) = σ.1 (xr_img i + 2) := hf _ (by match i, hi with | 0, _ => rfl | 1, _ => rfl)
      have q3 : τ.1 (xr_img i + 3) = σ.1 (xr_img i + 3) := hf _ (by match i, hi with | 0, _ => rfl | 1, _ => rfl)
      have q4 : τ.1 (xr_img i + 4) = σ.1 (xr_img i + 4) := hf _ (by match i, hi with | 0, _ => rfl | 1, _ => rfl)
      simpa only [xi_C, q0, q2, q3, q4] using x2
    · obtain ⟨y1, y2, y3, y4, y5, y6, y7, y8⟩ := x3
      refine ⟨fun s d hs hd => ?_, fun l hl => ?_, fun l hl => ?_, fun l hl => ?_, ?_, ?_, ?_, ?_⟩
      · rw [hk _ (by omega)]; exact y1 s d hs hd
      · rw [hk _ (by omega)]; exact y2 l hl
      · rw [hk _ (by omega)]; exact y3 l hl
      · rw [hk _ (by omega)]; exact y4 l hl
      · rw [hk _ (by omega)]; exact y5
      · rw [hk _ (by omega)]; exact y6
      · rw [hk _ (by omega)]; exact y7
      · rw [hk _ (by omega)]; exact y8
/-- a call that answers alike on both sides and keeps what ties them -/
def xi_ok (σ : xr_S) (x : Option (Int32 × xr_S)) (y : xr_S → Option (Int32 × xr_S)) : Prop := ∃ r σ1 σ2, x = some (r, σ1) ∧ y σ1 = some (r, σ2) ∧ xi σ2
theorem xi_bounds {t : xa_T} {a : xa_A} (hT : xi_T t) (hA : xi_A t a) : (∀ l, oB (qP a l) 1000) ∧ (∀ l, oB (qT a l) 1000) ∧ qA a < 64 ∧ qS a < 128 := by
  obtain ⟨h1, h2, h3, h4, h5, h6, h7⟩ := hT
  obtain ⟨a1, a2, a3, a4, a5, a6, a7, a8, a9, a10⟩ := hA
  refine ⟨fun l n hn => ?_, fun l n hn => ?_, ?_, ?_⟩
  · have := (a4 l n hn).2.1; omega
  · have := (a6 l n hn).2; omega
  · exact Nat.lt_of_lt_of_le a8 (Nat.pow_le_pow_right (by decide) h3 : 2 ^ tS t ≤ 2 ^ 6)
  · exact Nat.lt_of_lt_of_le a7 (Nat.pow_le_pow_right (by decide) h4 : 2 ^ tL t ≤ 2 ^ 7)
theorem xi_W {σ : xr_S} {t : xa_T} {a : xa_A} {c : Nat} (hA : xi_A t a) (hC : xi_C σ c a) : xq_W σ (c + 2) (qW a) := ⟨hC.1, hA.1⟩
theorem xi_V {σ : xr_S} {t : xa_T} {a : xa_A} {b : Nat} (hA : xi_A t a) (hM : xi_M σ b a) : xq_V σ b (qW a) := ⟨hM.1, hA.1⟩
/-! the calls, one by one -/
theorem xy_fault {σ : xr_S} (h : xi σ) : ∃ r, xf_X10_fault σ = some r ∧ xf_X11_fault σ = some r := by
  obtain ⟨t, a, -, -, -, -, -, -, -, h8, -⟩ := h
  exact ⟨_, rfl, by unfold xf_X11_fault; rw [h8]⟩
theorem xy_weight {σ : xr_S} (h : xi σ) (x y : Int32) : ∃ r, xf_X10_weight σ x y = some r ∧ xf_X11_weight σ x y = some r := by
  obtain ⟨t, a, hT, hA, hc, hm, hC, hM, -⟩ := h
  obtain ⟨n1, n2, n3, n4, n5, n6, n7⟩ := id hT
  obtain ⟨c1, c2, c3, c4, c5, c6⟩ := hc
  obtain ⟨m1, m2, m3, m4, m5, m6⟩ := hm
  unfold xf_X10_weight xf_X11_weight
  rw [xe_hasSleeper c3, xe_isSleeper m3 (by omega), xe_hasDream c1, xe_isDream m1 (by omega)]
  cases hs : xs_inr x (tS t) with
  | false => exact ⟨_, rfl, rfl⟩
  | true =>
    cases hd : xs_inr y (tN t) with
    | false => exact ⟨_, rfl, rfl⟩
    | true =>
      obtain ⟨s, hs1, rfl⟩ := xs_inr_t (by omega) hs
      obtain ⟨d, hd1, rfl⟩ := xs_inr_t (by omega) hd
      have e1 := xe_of (c := 16) (xi_W hA hC) (show s < 6 by omega) (show d < 5 by omega)
      have e2 := xe_weightOf (xi_V hA hM) (by omega) (show s < 6 by omega) (show d < 5 by omega)
      exact ⟨nI (qW a s d), by rw [e1]; rfl, by rw [xl_0, e2]; rfl⟩
