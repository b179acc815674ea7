theorem xe_likeliestOf {σ : xr_S} {b s N : Nat} {w : Nat → Nat → Nat} (h : xq_V σ b w) (hb : b ≤ 165) (hs : s < 6) (hN : σ.1 49 2 = nI N) (hN5 : N ≤ 5) : xf_X11_likeliestOf σ (nI b) (nI s) = some (nI (xs_top (w s) (N - 1))) := by
  unfold xf_X11_likeliestOf
  refine xp_iter (fun k => (nI (xs_top (w s) (k - 1)), nI k)) 1 (N - 1) rfl (fun j h1 h2 rec => ?_) (fun rec => ?_)
  · have ht := xs_top_le (w s) (j - 1)
    have b1 := h.2 s j
    have b2 := h.2 s (xs_top (w s) (j - 1))
    have e1 := xe_weightOf h hb hs (show j < 5 by omega)
    have e2 := xe_weightOf h hb hs (show xs_top (w s) (j - 1) < 5 by omega)
    simp (disch := omega) only [xf_X11_likeliestOf_L5, hN, ↓xp_n1, ↓reduceIte, xp_oIs, xp_v, xp_jn, xp_pf, xp_ld, xp_st, xp_le, xp_lt, xp_eq, nI_add, pk_mul, if_pos, if_neg, xp_same, xp_other, xp_us, xp_un, ne_eq, not_false_eq_true, Option.bind_some, Option.bind, xl_0, xl_1, xl_2, xl_3, xl_4, xl_5, xl_6, xl_7, xl_8, xl_9, xl_10, xl_11, xl_12, xl_13, xl_15, xl_16, xl_30, xl_31, xl_32, xl_37, xl_40, xl_44, xl_48, xl_50, xl_51, xl_52, xl_53, xl_54, xl_55, xl_57, xl_59, xl_63, xl_64, xl_99, xl_100, xl_108, xl_110, xl_115, xl_200, xl_201, xl_220, xl_240, xl_255, xl_512, xl_65536, xl_90000, xl_999999, xl_1000000, e1, e2]
    obtain ⟨i, rfl⟩ : ∃ i, j = i + 1 := ⟨j - 1, by omega⟩
    simp only [Nat.add_sub_cancel, xs_top]
    by_cases hc : w s (i + 1) ≤ w s (xs_top (w s) i)
    · rw [if_pos hc, if_neg (by omega)]
    · rw [if_neg hc, if_pos (by omega)]
  · simp (disch := omega) only [xf_X11_likeliestOf_L5, hN, ↓xp_n1, ↓reduceIte, xp_oIs, xp_v, xp_jn, xp_pf, xp_ld, xp_st, xp_le, xp_lt, xp_eq, nI_add, pk_mul, if_pos, if_neg, xp_same, xp_other, xp_us, xp_un, ne_eq, not_false_eq_true, Option.bind_some, Option.bind, xl_0, xl_1, xl_2, xl_3, xl_4, xl_5, xl_6, xl_7, xl_8, xl_9, xl_10, xl_11, xl_12, xl_13, xl_15, xl_16, xl_30, xl_31, xl_32, xl_37, xl_40, xl_44, xl_48, xl_50, xl_51, xl_52, xl_53, xl_54, xl_55, xl_57, xl_59, xl_63, xl_64, xl_99, xl_100, xl_108, xl_110, xl_115, xl_200, xl_201, xl_220, xl_240, xl_255, xl_512, xl_65536, xl_90000, xl_999999, xl_1000000]
    rw [show 1 + (N - 1) - 1 = N - 1 by omega]
theorem xi_top {t : xa_T} {a : xa_A} (hA : xi_A t a) (hT : xi_T t) (hN : 0 < tN t) (s : Nat) : xs_top (qW a s) (tN t - 1) = xs_top (qW a s) 4 := by
  have h5 := hT.1
  exact (xs_top_cut (n := tN t - 1) (fun k hk => hA.2.1 s k (by omega)) 4 (by omega)).symm
theorem xi_sum {t : xa_T} {a : xa_A} (hA : xi_A t a) (hT : xi_T t) (s : Nat) : xs_sum (qW a s) (tN t) = xs_sum (qW a s) 5 := by
  have h5 := hT.1
  exact (xs_sum_cut (n := tN t) (fun k hk => hA.2.1 s k hk) 5 h5).symm
theorem xy_likeliest {σ : xr_S} (h : xi σ) (x : Int32) : ∃ r, xf_X10_likeliest σ x = some r ∧ xf_X11_likeliest σ x = some r := by
  obtain ⟨t, a, hT, hA, hc, hm, hC, hM, -⟩ := h
  obtain ⟨n1, n2, n3, n4, n5, n6, n7⟩ := id hT
  obtain ⟨c1, c2, c3, c4, c5, c6⟩ := hc
  obtain ⟨m1, m2, m3, m4, m5, m6⟩ := hm
  unfold xf_X10_likeliest xf_X11_likeliest
  rw [xe_hasSleeper c3, xe_isSleeper m3 (by omega)]
  cases hs : xs_inr x (tS t) with
  | false => exact ⟨_, rfl, rfl⟩
  | true =>
    obtain ⟨s, hs1, rfl⟩ := xs_inr_t (by omega) hs
    have e1 := xe_top (c := 16) (xi_W hA hC) (show s < 6 by omega)
    have e2 := xe_likeliestOf (xi_V hA hM) (by omega) (show s < 6 by omega) m1 n1
    rw [xi_top hA hT (n6 (by omega))] at e2
    exact ⟨nI (xs_top (qW a s) 4), by rw [e1]; rfl, by rw [xl_0, e2]; rfl⟩
/-! worth -/
def xs_worth (t : xa_T) (w : Nat → Nat → Nat) (l s : Nat) : Nat := 1000000 * tV t l * w s (tW t l) / xs_sum (w s) 5
theorem xe_worthOn {σ : xr_S} {t : xa_T} {a : xa_A} {l s : Nat} (hT : xi_T t) (hA : xi_A t a) (hc : xi_Tc σ t) (hC : xi_C σ 15 a) (hl : l < tL t) (hs : s < tS t) : xf_X5_worthOn σ (nI l) (nI s) = some (nI (xs_worth t (qW a) l s)) := by
  obtain ⟨n1, n2, n3, n4, n5, n6, n7⟩ := id hT
  obtain ⟨c1, c2, c3, c4, c5, c6⟩ := hc
  obtain ⟨g1, g2, g3⟩ := c6 l hl
  obtain ⟨k1, k2, k3⟩ := n7 l hl
  have hsum := hA.2.2.1 s hs
  have hsl := xs_sum_le (hA.1 s) 5
  have hw := hA.1 s (tW t l)
  have e1 := xe_all (c := 16) (xi_W hA hC) (show s < 6 by omega)
  have e2 := xe_of (c := 16) (xi_W hA hC) (show s < 6 by omega) (show tW t l < 5 by omega)
  have hp : tV t l * qW a s (tW t l) ≤ 99 * 9 := Nat.mul_le_mul k3 hw
  have hp2 : 1000000 * tV t l * qW a s (tW t l) ≤ 891000000 := by
    rw [Nat.mul_assoc]
    exact Nat.mul_le_mul_left 1000000 hp
  unfold xf_X5_worthOn
  rw [e1]
  simp (disch := omega) only [↓xp_n1, ↓reduceIte, xp_oIs, xp_v, xp_jn, xp_pf, xp_ld, xp_st, xp_le, xp_lt, xp_eq, nI_add, pk_mul, if_pos, if_neg, xp_same, xp_other, xp_us, xp_un, ne_eq, not_false_eq_true, Option.bind_some, Option.bind, xl_0, xl_1, xl_2, xl_3, xl_4, xl_5, xl_6, xl_7, xl_8, xl_9, xl_10, xl_11, xl_12, xl_13, xl_15, xl_16, xl_30, xl_31, xl_32, xl_37, xl_40, xl_44, xl_48, xl_50, xl_51, xl_52, xl_53, xl_54, xl_55, xl_57, xl_59, xl_63, xl_64, xl_99, xl_100, xl_108, xl_110, xl_115, xl_200, xl_201, xl_220, xl_240, xl_255, xl_512, xl_65536, xl_90000, xl_999999, xl_1000000, g2, g3, e2, xp_nz]
  rw [xp_nz (by rw [xl_0, xp_eq (by omega) (by omega)]; omega), pk_div (by omega) (by omega) (by omega)]
  rfl
theorem xe_worthOf {σ : xr_S} {t : xa_T} {a : xa_A} {l s : Nat} (hT : xi_T t) (hA : xi_A t a) (hm : xi_Tm σ t) (hM : xi_M σ 0 a) (hl : l < tL t) (hs : s < tS t) : xf_X11_worthOf σ (nI l) (nI s) = some (nI (xs_worth t (qW a) l s)) := by
  obtain ⟨n1, n2, n3, n4, n5, n6, n7⟩ := id hT
  obtain ⟨m1, m2, m3, m4, m5, m6⟩ := hm
  obtain ⟨g1, g2, g3⟩ := m6 l hl
  obtain ⟨k1, k2, k3⟩ := n7 l hl
  have hsum := hA.2.2.1 s hs
  have hsl := xs_sum_le (hA.1 s) 5
  have hw := hA.1 s (tW t l)
  have e1 := xe_allOf (xi_V hA hM) (by omega) (show s < 6 by omega) m1 n1
  rw [xi_sum hA hT] at e1
  have e2 := xe_weightOf (xi_V hA hM) (by omega) (show s < 6 by omega) (show tW t l < 5 by omega)
  have hp : tV t l * qW a s (tW t l) ≤ 99 * 9 := Nat.mul_le_mul k3 hw
  have hp2 : 1000000 * tV t l * qW a s (tW t l) ≤ 891000000 := by
    rw [Nat.mul_assoc]
    exact Nat.mul_le_mul_left 1000000 hp
  unfold xf_X11_worthOf
  simp (disch := omega) only [↓xp_n1, ↓reduceIte, xp_oIs, xp_v, xp_jn, xp_pf, xp_ld, xp_st, xp_le, xp_lt, xp_eq, nI_add, pk_mul, if_pos, if_neg, xp_same, xp_other, xp_us, xp_un, ne_eq, not_false_eq_true, Option.bind_some, Option.bind, xl_0, xl_1, xl_2, xl_3, xl_4, xl_5, xl_6, xl_7, xl_8, xl_9, xl_10, xl_11, xl_12, xl_13, xl_15, xl_16, xl_30, xl_31, xl_32, xl_37, xl_40, xl_44, xl_48, xl_50, xl_51, xl_52, xl_53, xl_54, xl_55, xl_57, xl_59, xl_63, xl_64, xl_99, xl_100, xl_108, xl_110, xl_115, xl_200, xl_201, xl_220, xl_240, xl_255, xl_512, xl_65536, xl_90000, xl_999999, xl_1000000, g2, g3, e2, e1]
  rw [nI_l (by omega), nI_l (by omega), nI_l (by omega), show (1000000 : Int64) = lN 1000000 from rfl, lN_mul, lN_mul]
  rw [xp_nl (fun h => by
    have := (pk_lEQ (a := xs_sum (qW a s) 5) (b := 0) (by omega) (by omega)).mp h
    omega), pk_lDiv (by omega) (by omega) (by omega), lN_i]
  rfl
theorem xy_worth {σ : xr_S} (h : xi σ) (x y : Int32) : ∃ r, xf_X10_worth σ x y = some r ∧ xf_X11_worth σ x y = some r := by
  obtain ⟨t, a, hT, hA, hc, hm, hC, hM, -⟩ := h
  obtain ⟨n1, n2, n3, n4, n5, n6, n7⟩ := id hT
  obtain ⟨c1, c2, c3, c4, c5, c6⟩ := id hc
  obtain ⟨m1, m2, m3, m4, m5, m6⟩ := id hm
  unfold xf_X10_worth xf_X11_worth
  rw [xe_hasLoaf c4, xe_isLoaf m4 (by omega), xe_hasSleeper c3, xe_isSleeper m3 (by omega)]
  cases hl : xs_inr x (tL t) with
  | false => exact ⟨_, rfl, rfl⟩
  | true =>
    cases hs : xs_inr y (tS t) with
    | false => exact ⟨_, rfl, rfl⟩
    | true =>
      obtain ⟨l, hl1, rfl⟩ := xs_inr_t (by omega) hl
      obtain ⟨s, hs1, rfl⟩ := xs_inr_t (by omega) hs
      obtain ⟨g1, g2, g3⟩ := c6 l hl1
      obtain ⟨i1, i2, i3⟩ := m6 l hl1
      obtain ⟨k1, k2, k3⟩ := n7 l hl1
      simp (disch := omega) only [bI_t, ↓xp_n1, ↓reduceIte, xp_oIs, xp_v, xp_jn, xp_pf, xp_ld, xp_st, xp_le, xp_lt, xp_eq, nI_add, pk_mul, if_pos, if_neg, xp_same, xp_other, xp_us, xp_un, ne_eq, not_false_eq_true, Option.bind_some, Option.bind, xl_0, xl_1, xl_2, xl_3, xl_4, xl_5, xl_6, xl_7, xl_8, xl_9, xl_10, xl_11, xl_12, xl_13, xl_15, xl_16, xl_30, xl_31, xl_32, xl_37, xl_40, xl_44, xl_48, xl_50, xl_51, xl_52, xl_53, xl_54, xl_55, xl_57, xl_59, xl_63, xl_64, xl_99, xl_100, xl_108, xl_110, xl_115, xl_200, xl_201, xl_220, xl_240, xl_255, xl_512, xl_65536, xl_90000, xl_999999, xl_1000000, g1, i1, xe_worthOn hT hA hc hC hl1 hs1, xe_worthOf hT hA hm hM hl1 hs1]
      by_cases he : tE t l = s
      · exact ⟨_, by rw [if_pos he], by rw [if_pos he]⟩
      · exact ⟨_, by rw [if_neg he], by rw [if_neg he]⟩
/-! odds -/
theorem xe_shared {σ : xr_S} {a b : Nat} (hb : 0 < b) (hb2 : b < 1000) (ha : a ≤ b) : xf_X10_greatestShared σ (nI a) (nI b) = some (nI (Nat.gcd a b)) := by
  unfold xf_X10_greatestShared
  have hgb : Nat.gcd a b ≤ b := Nat.gcd_le_right a hb
  have hg0 : 0 < Nat.gcd a b := Nat.gcd_pos_of_pos_right a hb
  refine xp_meas (Q := fun o => o = some (nI (Nat.gcd a b))) (fun x => ∃ k, x = nI k ∧ k ≤ b ∧ Nat.gcd a b ≤ k) (fun x => x.toNatClampNeg) (fun x hI => ?_) (nI b) ⟨b, rfl, Nat.le_refl _, hgb⟩
  obtain ⟨k, rfl, hk, hg⟩ := hI
  by_cases h1 : k ≤ 1
  · left
    refine ⟨some (nI 1), fun rec => ?_, by rw [show Nat.gcd a b = 1 by omega]⟩
    simp (disch := omega) only [xf_X10_greatestShared_L2, ↓xp_n1, ↓reduceIte, xp_oIs, xp_v, xp_jn, xp_pf, xp_ld, xp_st, xp_le, xp_lt, xp_eq, nI_add, pk_mul, if_pos, if_neg, xp_same, xp_other, xp_us, xp_un, ne_eq, not_false_eq_true, Option.bind_some, Option.bind, xl_0, xl_1, xl_2, xl_3, xl_4, xl_5, xl_6, xl_7, xl_8, xl_9, xl_10, xl_11, xl_12, xl_13, xl_15, xl_16, xl_30, xl_31, xl_32, xl_37, xl_40, xl_44, xl_48, xl_50, xl_51, xl_52, xl_53, xl_54, xl_55, xl_57, xl_59, xl_63, xl_64, xl_99, xl_100, xl_108, xl_110, xl_115, xl_200, xl_201, xl_220, xl_240, xl_255, xl_512, xl_65536, xl_90000, xl_999999, xl_1000000]
  · have hk0 : ¬ nI k = 0 := by rw [xl_0, xp_eq (by omega) (by omega)]; omega
    have e1 : nI a - nI a / nI k * nI k = nI (a % k) := pk_rem (by omega) (by omega) (by omega)
    have e2 : nI b - nI b / nI k * nI k = nI (b % k) := pk_rem (by omega) (by omega) (by omega)
    have m1 : a % k < 1000 := Nat.lt_of_le_of_lt (Nat.mod_le a k) (by omega)
    have m2 : b % k < 1000 := Nat.lt_of_le_of_lt (Nat.mod_le b k) (by omega)
    by_cases h2 : a % k = 0 ∧ b % k = 0
    · left
      have hd : k ∣ Nat.gcd a b := Nat.dvd_gcd (Nat.dvd_of_mod_eq_zero h2.1) (Nat.dvd_of_mod_eq_zero h2.2)
      have : k ≤ Nat.gcd a b := Nat.le_of_dvd hg0 hd
      refine ⟨some (nI k), fun rec => ?_, by rw [show Nat.gcd a b = k by omega]⟩
      simp (disch := omega) only [xf_X10_greatestShared_L2, e1, e2, xp_nz hk0, h2.1, h2.2, ↓xp_n1, ↓reduceIte, xp_oIs, xp_v, xp_jn, xp_pf, xp_ld, xp_st, xp_le, xp_lt, xp_eq, nI_add, pk_mul, if_pos, if_neg, xp_same, xp_other, xp_us, xp_un, ne_eq, not_false_eq_true, Option.bind_some, Option.bind, xl_0, xl_1, xl_2, xl_3, xl_4, xl_5, xl_6, xl_7, xl_8, xl_9, xl_10, xl_11, xl_12, xl_13, xl_15, xl_16, xl_30, xl_31, xl_32, xl_37, xl_40, xl_44, xl_48, xl_50, xl_51, xl_52, xl_53, xl_54, xl_55, xl_57, xl_59, xl_63, xl_64, xl_99, xl_100, xl_108, xl_110, xl_115, xl_200, xl_201, xl_220, xl_240, xl_255, xl_512, xl_65536, xl_90000, xl_999999, xl_1000000]
    · right
      have hne : Nat.gcd a b ≠ k := fun h => h2 ⟨Nat.mod_eq_zero_of_dvd (h ▸ Nat.gcd_dvd_left a b), Nat.mod_eq_zero_of_dvd (h ▸ Nat.gcd_dvd_right a b)⟩
      refine ⟨nI (k - 1), ⟨k - 1, rfl, by omega, by omega⟩, by rw [nI_clamp (by omega), nI_clamp (by omega)]; omega, fun rec => ?_⟩
      have e3 : nI k + (-1) = nI (k - 1) := by
        obtain ⟨j, rfl⟩ : ∃ j, k = j + 1 := ⟨k - 1, by omega⟩
        exact pk_m1 j
      simp (disch := omega) only [xf_X10_greatestShared_L2, e1, e2, ↓e3, xp_nz hk0, xp_v, xp_jn, xl_0, xl_1, xp_le, xp_eq, if_pos, if_neg]
      by_cases h3 : a % k = 0
      · first | rfl | (rw [if_pos h3]; done) | (rw [if_pos h3, if_neg (fun h => h2 ⟨h3, h⟩)])
      · first | rfl | rw [if_neg h3]
theorem xe_euclid {a b : Nat} (ha : a < 1000) (hb : b < 1000) {α : Type} (K : Int32 → Option Int32) : xr_lw (xf_X11_odds_L57 K) (nI a, nI b) = K (nI (Nat.gcd a b)) := by
  refine xp_meas (Q := fun o => o = K (nI (Nat.gcd a b))) (fun x => ∃ i j, x = (nI i, nI j) ∧ i < 1000 ∧ j < 1000 ∧ Nat.gcd i j = Nat.gcd a b) (fun x => x.2.toNatClampNeg) (fun x hI => ?_) _ ⟨a, b, rfl, ha, hb, rfl⟩
  obtain ⟨i, j, rfl, hi, hj, hg⟩ := hI
  by_cases h0 : j = 0
  · left
    subst h0
    refine ⟨K (nI i), fun rec => ?_, by rw [← hg, Nat.gcd_zero_right]⟩
    simp (disch := omega) only [xf_X11_odds_L57, ↓xp_n1, ↓reduceIte, xp_oIs, xp_v, xp_jn, xp_pf, xp_ld, xp_st, xp_le, xp_lt, xp_eq, nI_add, pk_mul, if_pos, if_neg, xp_same, xp_other, xp_us, xp_un, ne_eq, not_false_eq_true, Option.bind_some, Option.bind, xl_0, xl_1, xl_2, xl_3, xl_4, xl_5, xl_6, xl_7, xl_8, xl_9, xl_10, xl_11, xl_12, xl_13, xl_15, xl_16, xl_30, xl_31, xl_32, xl_37, xl_40, xl_44, xl_48, xl_50, xl_51, xl_52, xl_53, xl_54, xl_55, xl_57, xl_59, xl_63, xl_64, xl_99, xl_100, xl_108, xl_110, xl_115, xl_200, xl_201, xl_220, xl_240, xl_255, xl_512, xl_65536, xl_90000, xl_999999, xl_1000000]
  · right
    have e1 : nI i - nI i / nI j * nI j = nI (i % j) := pk_rem (by omega) (by omega) (by omega)
    have m1 : i % j < j := Nat.mod_lt i (by omega)
    have hj0 : ¬ nI j = 0 := by rw [xl_0, xp_eq (by omega) (by omega)]; omega
    refine ⟨(nI j, nI (i % j)), ⟨j, i % j, rfl, hj, by omega, by rw [← hg, Nat.gcd_comm j, ← Nat.gcd_rec, Nat.gcd_comm]⟩, ?_, fun rec => ?_⟩
    · show (nI (i % j)).toNatClampNeg < (nI j).toNatClampNeg
      rw [nI_clamp (by omega), nI_clamp (by omega)]; exact m1
    · simp (disch := omega) only [xf_X11_odds_L57, e1, xp_nz hj0, ↓xp_n1, ↓reduceIte, xp_oIs, xp_v, xp_jn, xp_pf, xp_ld, xp_st, xp_le, xp_lt, xp_eq, nI_add, pk_mul, if_pos, if_neg, xp_same, xp_other, xp_us, xp_un, ne_eq, not_false_eq_true, Option.bind_some, Option.bind, xl_0, xl_1, xl_2, xl_3, xl_4, xl_5, xl_6, xl_7, xl_8, xl_9, xl_10, xl_11, xl_12, xl_13, xl_15, xl_16, xl_30, xl_31, xl_32, xl_37, xl_40, xl_44, xl_48, xl_50, xl_51, xl_52, xl_53, xl_54, xl_55, xl_57, xl_59, xl_63, xl_64, xl_99, xl_100, xl_108, xl_110, xl_115, xl_200, xl_201, xl_220, xl_240, xl_255, xl_512, xl_65536, xl_90000, xl_999999, xl_1000000]

theorem xe_inK {a : Int32} {n : Nat} (σ : xr_S) (hn : n < 1000) {lo hi : Int64} (h0 : lo = 0) (h1 : hi = lN n) : xf_X11_in σ a.toInt64 lo hi = some (bI (xs_inr a (n + 1))) := by
  have := xe_inI σ a 0 (nI n)
  rw [show (0 : Int32).toInt64 = 0 by decide, nI_l (by omega)] at this
  rw [h0, h1, this]
  congr 2
  rw [← xs_inr_iff (n := n + 1) (by omega)]
  have : nI (n + 1) - 1 = nI n := nI_pred n
  rw [this]
theorem xe_rng {α : Type} {a k : Int32} {n : Nat} {x y : Option α} (hn : n < 1000) (hk : k = nI n) : (if a < 0 then x else if a ≤ k then y else x) = if xs_inr a (n + 1) = true then y else x := by
  subst hk
  by_cases h : xs_inr a (n + 1) = true
  · obtain ⟨j, hj, rfl⟩ := xs_inr_t (by omega) h
    rw [if_pos h, if_neg (nI_pos (by omega)), if_pos (nI_le (by omega) (by omega))]
  · rw [if_neg h]
    by_cases h0 : a < 0
    · rw [if_pos h0]
    · rw [if_neg h0, if_neg]
      intro hle
      apply h
      have q1 := Int32.le_iff_toInt_le.mp hle
      rw [nI_toInt (by omega)] at q1
      have h2 : ¬ nI (n + 1) ≤ a := fun h2 => by
        have q2 := Int32.le_iff_toInt_le.mp h2
        rw [nI_toInt (by omega)] at q2
        omega
      simp [xs_inr, h0, h2]
theorem xy_odds {σ : xr_S} (h : xi σ) (x y z : Int32) : ∃ r, xf_X10_odds σ x y z = some r ∧ xf_X11_odds σ x y z = some r := by
  obtain ⟨t, a, hT, hA, hc, hm, hC, hM, -⟩ := h
  obtain ⟨n1, n2, n3, n4, n5, n6, n7⟩ := id hT
  obtain ⟨c1, c2, c3, c4, c5, c6⟩ := hc
  obtain ⟨m1, m2, m3, m4, m5, m6⟩ := hm
  unfold xf_X10_odds xf_X11_odds
  rw [xe_hasSleeper c3, xe_isSleeper m3 (by omega), xe_hasDream c1, xe_isDream m1 (by omega), xe_inK (a := z) (n := 1) (lo := 0) (hi := 1) σ (by omega) rfl rfl, xe_rng (a := z) (n := 1) (k := 1) (by omega) rfl]
  cases hs : xs_inr x (tS t) with
  | false => exact ⟨_, rfl, rfl⟩
  | true =>
    cases hd : xs_inr y (tN t) with
    | false => exact ⟨_, rfl, rfl⟩
    | true =>
      obtain ⟨s, hs1, rfl⟩ := xs_inr_t (by omega) hs
      obtain ⟨d, hd1, rfl⟩ := xs_inr_t (by omega) hd
      have hsum := hA.2.2.1 s hs1
      have hsl := xs_sum_le (hA.1 s) 5
      have hle : qW a s d ≤ xs_sum (qW a s) 5 := by
        have key : ∀ n, d < n → qW a s d ≤ xs_sum (qW a s) n := by
          intro n
          induction n with
          | zero => intro h; omega
          | succ n ih =>
            intro h
            simp only [xs_sum]
            by_cases hh : d = n
            · subst hh; omega
            · have := ih (by omega); omega
        exact key 5 (by omega)
      have e1 := xe_of (c := 16) (xi_W hA hC) (show s < 6 by omega) (show d < 5 by omega)
      have e2 := xe_weightOf (xi_V hA hM) (by omega) (show s < 6 by omega) (show d < 5 by omega)
      have e3 := xe_all (c := 16) (xi_W hA hC) (show s < 6 by omega)
      have e4 := xe_allOf (xi_V hA hM) (by omega) (show s < 6 by omega) m1 n1
      rw [xi_sum hA hT] at e4
      have e5 := xe_shared (σ := σ) hsum (by omega) hle
      have hg0 : 0 < Nat.gcd (qW a s d) (xs_sum (qW a s) 5) := Nat.gcd_pos_of_pos_right _ hsum
      have hgb : Nat.gcd (qW a s d) (xs_sum (qW a s) 5) ≤ xs_sum (qW a s) 5 := Nat.gcd_le_right _ hsum
      have hz : ¬ nI (Nat.gcd (qW a s d) (xs_sum (qW a s) 5)) = 0 := by rw [xl_0, xp_eq (by omega) (by omega)]; omega
      cases hi : xs_inr z 2 with
      | false => exact ⟨_, rfl, rfl⟩
      | true =>
        obtain ⟨i, hi1, rfl⟩ := xs_inr_t (by omega) hi
        simp (disch := omega) only [bI_t, ↓xp_n1, ↓reduceIte, xp_oIs, xp_v, xp_jn, xp_pf, xp_ld, xp_st, xp_le, xp_lt, xp_eq, nI_add, pk_mul, if_pos, if_neg, xp_same, xp_other, xp_us, xp_un, ne_eq, not_false_eq_true, Option.bind_some, Option.bind, xl_0, xl_1, xl_2, xl_3, xl_4, xl_5, xl_6, xl_7, xl_8, xl_9, xl_10, xl_11, xl_12, xl_13, xl_15, xl_16, xl_30, xl_31, xl_32, xl_37, xl_40, xl_44, xl_48, xl_50, xl_51, xl_52, xl_53, xl_54, xl_55, xl_57, xl_59, xl_63, xl_64, xl_99, xl_100, xl_108, xl_110, xl_115, xl_200, xl_201, xl_220, xl_240, xl_255, xl_512, xl_65536, xl_90000, xl_999999, xl_1000000, if_true, e1, e2, e3, e4, e5, xe_euclid (α := Nat) (show qW a s d < 1000 by omega) (show xs_sum (qW a s) 5 < 1000 by omega), xp_nz hz]
        by_cases h0 : i = 0
        · exact ⟨_, by rw [if_pos h0], by rw [if_pos h0]⟩
        · exact ⟨_, by rw [if_neg h0], by rw [if_neg h0]⟩
