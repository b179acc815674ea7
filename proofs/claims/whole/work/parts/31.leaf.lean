/-! the words of the mathematics, and the leaves -/
def xs_sum (g : Nat → Nat) : Nat → Nat
  | 0 => 0
  | n + 1 => xs_sum g n + g n
def xs_top (g : Nat → Nat) : Nat → Nat
  | 0 => 0
  | n + 1 => if g (xs_top g n) < g (n + 1) then n + 1 else xs_top g n
theorem xs_sum_le {g : Nat → Nat} {b : Nat} (h : ∀ k, g k ≤ b) : ∀ n, xs_sum g n ≤ n * b := by
  intro n
  induction n with
  | zero => simp [xs_sum]
  | succ n ih => simp only [xs_sum, Nat.succ_mul]; have := h n; omega
theorem xs_top_le (g : Nat → Nat) : ∀ n, xs_top g n ≤ n := by
  intro n
  induction n with
  | zero => simp [xs_top]
  | succ n ih => simp only [xs_top]; split <;> omega
theorem xs_sum_cut {g : Nat → Nat} {n : Nat} (h : ∀ k, n ≤ k → g k = 0) : ∀ m, n ≤ m → xs_sum g m = xs_sum g n := by
  intro m hm
  induction m with
  | zero => rw [show n = 0 by omega]
  | succ m ih =>
    by_cases hh : n ≤ m
    · simp only [xs_sum]; rw [ih hh, h m hh, Nat.add_zero]
    · rw [show n = m + 1 by omega]
theorem xs_top_cut {g : Nat → Nat} {n : Nat} (h : ∀ k, n < k → g k = 0) : ∀ m, n ≤ m → xs_top g m = xs_top g n := by
  intro m hm
  induction m with
  | zero => rw [show n = 0 by omega]
  | succ m ih =>
    by_cases hh : n ≤ m
    · simp only [xs_top]; rw [h (m + 1) (by omega), if_neg (by omega), ih hh]
    · rw [show n = m + 1 by omega]
/-- the class's weights: the row c holds w -/
def xq_W (σ : xr_S) (c : Nat) (w : Nat → Nat → Nat) : Prop := (∀ s d, s < 6 → d < 5 → σ.1 c (s * 5 + d) = nI (w s d)) ∧ ∀ s d, w s d ≤ 9
/-- the reference's weights, from b on -/
def xq_V (σ : xr_S) (b : Nat) (w : Nat → Nat → Nat) : Prop := (∀ s d, s < 6 → d < 5 → σ.1 50 (b + 5 * s + d) = nI (w s d)) ∧ ∀ s d, w s d ≤ 9
theorem xe_of {σ : xr_S} {c s d : Nat} {w : Nat → Nat → Nat} (h : xq_W σ (c + 1) w) (hs : s < 6) (hd : d < 5) : xf_X9_of σ c (nI s) (nI d) = some (nI (w s d)) := by
  unfold xf_X9_of
  simp (disch := omega) only [↓xp_n1, ↓reduceIte, xp_oIs, xp_v, xp_jn, xp_pf, xp_ld, xp_st, xp_le, xp_lt, xp_eq, nI_add, pk_mul, if_pos, if_neg, xp_same, xp_other, xp_us, xp_un, ne_eq, not_false_eq_true, Option.bind_some, Option.bind, xl_0, xl_1, xl_2, xl_3, xl_4, xl_5, xl_6, xl_7, xl_8, xl_9, xl_10, xl_11, xl_12, xl_13, xl_15, xl_16, xl_30, xl_31, xl_32, xl_37, xl_40, xl_44, xl_48, xl_50, xl_51, xl_52, xl_53, xl_54, xl_55, xl_57, xl_59, xl_63, xl_64, xl_99, xl_100, xl_108, xl_110, xl_115, xl_200, xl_201, xl_220, xl_240, xl_255, xl_512, xl_65536, xl_90000, xl_999999, xl_1000000]
  rw [h.1 s d hs hd]
theorem xe_all {σ : xr_S} {c s : Nat} {w : Nat → Nat → Nat} (h : xq_W σ (c + 1) w) (hs : s < 6) : xf_X9_all σ c (nI s) = some (nI (xs_sum (w s) 5)) := by
  unfold xf_X9_all
  simp (disch := omega) only [↓xp_n1, ↓reduceIte, xp_oIs, xp_v, xp_jn, xp_pf, xp_ld, xp_st, xp_le, xp_lt, xp_eq, nI_add, pk_mul, if_pos, if_neg, xp_same, xp_other, xp_us, xp_un, ne_eq, not_false_eq_true, Option.bind_some, Option.bind, xl_0, xl_1, xl_2, xl_3, xl_4, xl_5, xl_6, xl_7, xl_8, xl_9, xl_10, xl_11, xl_12, xl_13, xl_15, xl_16, xl_30, xl_31, xl_32, xl_37, xl_40, xl_44, xl_48, xl_50, xl_51, xl_52, xl_53, xl_54, xl_55, xl_57, xl_59, xl_63, xl_64, xl_99, xl_100, xl_108, xl_110, xl_115, xl_200, xl_201, xl_220, xl_240, xl_255, xl_512, xl_65536, xl_90000, xl_999999, xl_1000000]
  refine xp_iter (fun k => (nI (xs_sum (w s) k), nI k)) 0 5 rfl (fun j h1 h2 rec => ?_) (fun rec => ?_)
  · simp (disch := omega) only [xf_X9_all_L14, ↓xp_n1, ↓reduceIte, xp_oIs, xp_v, xp_jn, xp_pf, xp_ld, xp_st, xp_le, xp_lt, xp_eq, nI_add, pk_mul, if_pos, if_neg, xp_same, xp_other, xp_us, xp_un, ne_eq, not_false_eq_true, Option.bind_some, Option.bind, xl_0, xl_1, xl_2, xl_3, xl_4, xl_5, xl_6, xl_7, xl_8, xl_9, xl_10, xl_11, xl_12, xl_13, xl_15, xl_16, xl_30, xl_31, xl_32, xl_37, xl_40, xl_44, xl_48, xl_50, xl_51, xl_52, xl_53, xl_54, xl_55, xl_57, xl_59, xl_63, xl_64, xl_99, xl_100, xl_108, xl_110, xl_115, xl_200, xl_201, xl_220, xl_240, xl_255, xl_512, xl_65536, xl_90000, xl_999999, xl_1000000]
    rw [h.1 s j hs (by omega), nI_add]
    rfl
  · simp (disch := omega) only [xf_X9_all_L14, ↓xp_n1, ↓reduceIte, xp_oIs, xp_v, xp_jn, xp_pf, xp_ld, xp_st, xp_le, xp_lt, xp_eq, nI_add, pk_mul, if_pos, if_neg, xp_same, xp_other, xp_us, xp_un, ne_eq, not_false_eq_true, Option.bind_some, Option.bind, xl_0, xl_1, xl_2, xl_3, xl_4, xl_5, xl_6, xl_7, xl_8, xl_9, xl_10, xl_11, xl_12, xl_13, xl_15, xl_16, xl_30, xl_31, xl_32, xl_37, xl_40, xl_44, xl_48, xl_50, xl_51, xl_52, xl_53, xl_54, xl_55, xl_57, xl_59, xl_63, xl_64, xl_99, xl_100, xl_108, xl_110, xl_115, xl_200, xl_201, xl_220, xl_240, xl_255, xl_512, xl_65536, xl_90000, xl_999999, xl_1000000]
theorem xe_top {σ : xr_S} {c s : Nat} {w : Nat → Nat → Nat} (h : xq_W σ (c + 1) w) (hs : s < 6) : xf_X9_top σ c (nI s) = some (nI (xs_top (w s) 4)) := by
  unfold xf_X9_top
  simp (disch := omega) only [↓xp_n1, ↓reduceIte, xp_oIs, xp_v, xp_jn, xp_pf, xp_ld, xp_st, xp_le, xp_lt, xp_eq, nI_add, pk_mul, if_pos, if_neg, xp_same, xp_other, xp_us, xp_un, ne_eq, not_false_eq_true, Option.bind_some, Option.bind, xl_0, xl_1, xl_2, xl_3, xl_4, xl_5, xl_6, xl_7, xl_8, xl_9, xl_10, xl_11, xl_12, xl_13, xl_15, xl_16, xl_30, xl_31, xl_32, xl_37, xl_40, xl_44, xl_48, xl_50, xl_51, xl_52, xl_53, xl_54, xl_55, xl_57, xl_59, xl_63, xl_64, xl_99, xl_100, xl_108, xl_110, xl_115, xl_200, xl_201, xl_220, xl_240, xl_255, xl_512, xl_65536, xl_90000, xl_999999, xl_1000000]
  refine xp_iter (fun k => (nI (xs_top (w s) (k - 1)), nI k)) 1 4 rfl (fun j h1 h2 rec => ?_) (fun rec => ?_)
  · have ht := xs_top_le (w s) (j - 1)
    have b1 := h.2 s j
    have b2 := h.2 s (xs_top (w s) (j - 1))
    simp (disch := omega) only [xf_X9_top_L19, ↓xp_n1, ↓reduceIte, xp_oIs, xp_v, xp_jn, xp_pf, xp_ld, xp_st, xp_le, xp_lt, xp_eq, nI_add, pk_mul, if_pos, if_neg, xp_same, xp_other, xp_us, xp_un, ne_eq, not_false_eq_true, Option.bind_some, Option.bind, xl_0, xl_1, xl_2, xl_3, xl_4, xl_5, xl_6, xl_7, xl_8, xl_9, xl_10, xl_11, xl_12, xl_13, xl_15, xl_16, xl_30, xl_31, xl_32, xl_37, xl_40, xl_44, xl_48, xl_50, xl_51, xl_52, xl_53, xl_54, xl_55, xl_57, xl_59, xl_63, xl_64, xl_99, xl_100, xl_108, xl_110, xl_115, xl_200, xl_201, xl_220, xl_240, xl_255, xl_512, xl_65536, xl_90000, xl_999999, xl_1000000]
    rw [h.1 s j hs (by omega), h.1 s _ hs (by omega)]
    simp (disch := omega) only [↓xp_n1, ↓reduceIte, xp_oIs, xp_v, xp_jn, xp_pf, xp_ld, xp_st, xp_le, xp_lt, xp_eq, nI_add, pk_mul, if_pos, if_neg, xp_same, xp_other, xp_us, xp_un, ne_eq, not_false_eq_true, Option.bind_some, Option.bind, xl_0, xl_1, xl_2, xl_3, xl_4, xl_5, xl_6, xl_7, xl_8, xl_9, xl_10, xl_11, xl_12, xl_13, xl_15, xl_16, xl_30, xl_31, xl_32, xl_37, xl_40, xl_44, xl_48, xl_50, xl_51, xl_52, xl_53, xl_54, xl_55, xl_57, xl_59, xl_63, xl_64, xl_99, xl_100, xl_108, xl_110, xl_115, xl_200, xl_201, xl_220, xl_240, xl_255, xl_512, xl_65536, xl_90000, xl_999999, xl_1000000]
    obtain ⟨i, rfl⟩ : ∃ i, j = i + 1 := ⟨j - 1, by omega⟩
    simp only [Nat.add_sub_cancel, xs_top]
    by_cases hc : w s (i + 1) ≤ w s (xs_top (w s) i)
    · rw [if_pos hc, if_neg (by omega)]
    · rw [if_neg hc, if_pos (by omega)]
  · simp (disch := omega) only [xf_X9_top_L19, ↓xp_n1, ↓reduceIte, xp_oIs, xp_v, xp_jn, xp_pf, xp_ld, xp_st, xp_le, xp_lt, xp_eq, nI_add, pk_mul, if_pos, if_neg, xp_same, xp_other, xp_us, xp_un, ne_eq, not_false_eq_true, Option.bind_some, Option.bind, xl_0, xl_1, xl_2, xl_3, xl_4, xl_5, xl_6, xl_7, xl_8, xl_9, xl_10, xl_11, xl_12, xl_13, xl_15, xl_16, xl_30, xl_31, xl_32, xl_37, xl_40, xl_44, xl_48, xl_50, xl_51, xl_52, xl_53, xl_54, xl_55, xl_57, xl_59, xl_63, xl_64, xl_99, xl_100, xl_108, xl_110, xl_115, xl_200, xl_201, xl_220, xl_240, xl_255, xl_512, xl_65536, xl_90000, xl_999999, xl_1000000]
theorem xe_weightOf {σ : xr_S} {b s d : Nat} {w : Nat → Nat → Nat} (h : xq_V σ b w) (hb : b ≤ 165) (hs : s < 6) (hd : d < 5) : xf_X11_weightOf σ (nI b) (nI s) (nI d) = some (nI (w s d)) := by
  unfold xf_X11_weightOf
  simp (disch := omega) only [↓xp_n1, ↓reduceIte, xp_oIs, xp_v, xp_jn, xp_pf, xp_ld, xp_st, xp_le, xp_lt, xp_eq, nI_add, pk_mul, if_pos, if_neg, xp_same, xp_other, xp_us, xp_un, ne_eq, not_false_eq_true, Option.bind_some, Option.bind, xl_0, xl_1, xl_2, xl_3, xl_4, xl_5, xl_6, xl_7, xl_8, xl_9, xl_10, xl_11, xl_12, xl_13, xl_15, xl_16, xl_30, xl_31, xl_32, xl_37, xl_40, xl_44, xl_48, xl_50, xl_51, xl_52, xl_53, xl_54, xl_55, xl_57, xl_59, xl_63, xl_64, xl_99, xl_100, xl_108, xl_110, xl_115, xl_200, xl_201, xl_220, xl_240, xl_255, xl_512, xl_65536, xl_90000, xl_999999, xl_1000000, Nat.add_zero]
  rw [h.1 s d hs hd]
theorem xe_allOf {σ : xr_S} {b s N : Nat} {w : Nat → Nat → Nat} (h : xq_V σ b w) (hb : b ≤ 165) (hs : s < 6) (hN : σ.1 49 2 = nI N) (hN5 : N ≤ 5) : xf_X11_allOf σ (nI b) (nI s) = some (nI (xs_sum (w s) N)) := by
  unfold xf_X11_allOf
  refine xp_iter (fun k => (nI (xs_sum (w s) k), nI k)) 0 N rfl (fun j h1 h2 rec => ?_) (fun rec => ?_)
  · simp (disch := omega) only [xf_X11_allOf_L5, hN, ↓xp_n1, ↓reduceIte, xp_oIs, xp_v, xp_jn, xp_pf, xp_ld, xp_st, xp_le, xp_lt, xp_eq, nI_add, pk_mul, if_pos, if_neg, xp_same, xp_other, xp_us, xp_un, ne_eq, not_false_eq_true, Option.bind_some, Option.bind, xl_0, xl_1, xl_2, xl_3, xl_4, xl_5, xl_6, xl_7, xl_8, xl_9, xl_10, xl_11, xl_12, xl_13, xl_15, xl_16, xl_30, xl_31, xl_32, xl_37, xl_40, xl_44, xl_48, xl_50, xl_51, xl_52, xl_53, xl_54, xl_55, xl_57, xl_59, xl_63, xl_64, xl_99, xl_100, xl_108, xl_110, xl_115, xl_200, xl_201, xl_220, xl_240, xl_255, xl_512, xl_65536, xl_90000, xl_999999, xl_1000000]
    rw [xe_weightOf h hb hs (by omega)]
    simp (disch := omega) only [↓xp_n1, ↓reduceIte, xp_oIs, xp_v, xp_jn, xp_pf, xp_ld, xp_st, xp_le, xp_lt, xp_eq, nI_add, pk_mul, if_pos, if_neg, xp_same, xp_other, xp_us, xp_un, ne_eq, not_false_eq_true, Option.bind_some, Option.bind, xl_0, xl_1, xl_2, xl_3, xl_4, xl_5, xl_6, xl_7, xl_8, xl_9, xl_10, xl_11, xl_12, xl_13, xl_15, xl_16, xl_30, xl_31, xl_32, xl_37, xl_40, xl_44, xl_48, xl_50, xl_51, xl_52, xl_53, xl_54, xl_55, xl_57, xl_59, xl_63, xl_64, xl_99, xl_100, xl_108, xl_110, xl_115, xl_200, xl_201, xl_220, xl_240, xl_255, xl_512, xl_65536, xl_90000, xl_999999, xl_1000000]
    rfl
  · simp (disch := omega) only [xf_X11_allOf_L5, hN, ↓xp_n1, ↓reduceIte, xp_oIs, xp_v, xp_jn, xp_pf, xp_ld, xp_st, xp_le, xp_lt, xp_eq, nI_add, pk_mul, if_pos, if_neg, xp_same, xp_other, xp_us, xp_un, ne_eq, not_false_eq_true, Option.bind_some, Option.bind, xl_0, xl_1, xl_2, xl_3, xl_4, xl_5, xl_6, xl_7, xl_8, xl_9, xl_10, xl_11, xl_12, xl_13, xl_15, xl_16, xl_30, xl_31, xl_32, xl_37, xl_40, xl_44, xl_48, xl_50, xl_51, xl_52, xl_53, xl_54, xl_55, xl_57, xl_59, xl_63, xl_64, xl_99, xl_100, xl_108, xl_110, xl_115, xl_200, xl_201, xl_220, xl_240, xl_255, xl_512, xl_65536, xl_90000, xl_999999, xl_1000000, Nat.zero_add]
