theorem xe_loavesBy9 {σ : xr_S} {L : Nat} {f : Nat → Option Nat} (hL : σ.1 49 5 = nI L) (hL7 : L ≤ 7) (h : ∀ l, l < 7 → σ.1 50 (30 + l) = oI (f l)) (hb : ∀ l, oB (f l) 1000) : xf_X11_loavesBy σ 9 = some (nI (xs_bits (fun l => (f l).isSome) L)) := by
  unfold xf_X11_loavesBy
  refine xp_iter (fun k => (nI (xs_bits (fun l => (f l).isSome) k), nI k)) 0 L rfl (fun j h1 h2 rec => ?_) (fun rec => ?_)
  · simp (disch := omega) only [xf_X11_loavesBy_L4, hL, ↓xp_n1, ↓reduceIte, xp_oIs, xp_v, xp_jn, xp_pf, xp_ld, xp_st, xp_le, xp_lt, xp_eq, nI_add, pk_mul, if_pos, if_neg, xp_same, xp_other, xp_us, xp_un, ne_eq, not_false_eq_true, Option.bind_some, Option.bind, xl_0, xl_1, xl_2, xl_3, xl_4, xl_5, xl_6, xl_7, xl_8, xl_9, xl_10, xl_11, xl_12, xl_13, xl_15, xl_16, xl_30, xl_31, xl_32, xl_37, xl_40, xl_44, xl_48, xl_50, xl_51, xl_52, xl_53, xl_54, xl_55, xl_57, xl_59, xl_63, xl_64, xl_99, xl_100, xl_108, xl_110, xl_115, xl_200, xl_201, xl_220, xl_240, xl_255, xl_512, xl_65536, xl_90000, xl_999999, xl_1000000, h j (by omega), xp_on (hb j), xs_bits, xp_shl1 j (by omega), xp_or, Nat.or_zero]
    by_cases hj : f j = none
    · simp [hj]
    · have h3 : (f j).isSome = true := by cases hh : f j with
        | none => exact absurd hh hj
        | some d => rfl
      simp [hj, h3]
  · simp (disch := omega) only [xf_X11_loavesBy_L4, hL, ↓xp_n1, ↓reduceIte, xp_oIs, xp_v, xp_jn, xp_pf, xp_ld, xp_st, xp_le, xp_lt, xp_eq, nI_add, pk_mul, if_pos, if_neg, xp_same, xp_other, xp_us, xp_un, ne_eq, not_false_eq_true, Option.bind_some, Option.bind, xl_0, xl_1, xl_2, xl_3, xl_4, xl_5, xl_6, xl_7, xl_8, xl_9, xl_10, xl_11, xl_12, xl_13, xl_15, xl_16, xl_30, xl_31, xl_32, xl_37, xl_40, xl_44, xl_48, xl_50, xl_51, xl_52, xl_53, xl_54, xl_55, xl_57, xl_59, xl_63, xl_64, xl_99, xl_100, xl_108, xl_110, xl_115, xl_200, xl_201, xl_220, xl_240, xl_255, xl_512, xl_65536, xl_90000, xl_999999, xl_1000000, Nat.zero_add]
theorem xe_loavesBy10 {σ : xr_S} {L : Nat} {f : Nat → Option Nat} (hL : σ.1 49 5 = nI L) (hL7 : L ≤ 7) (h : ∀ l, l < 7 → σ.1 50 (37 + l) = oI (f l)) (hb : ∀ l, oB (f l) 1000) : xf_X11_loavesBy σ 10 = some (nI (xs_bits (fun l => (f l).isSome) L)) := by
  unfold xf_X11_loavesBy
  refine xp_iter (fun k => (nI (xs_bits (fun l => (f l).isSome) k), nI k)) 0 L rfl (fun j h1 h2 rec => ?_) (fun rec => ?_)
  · simp (disch := omega) only [xf_X11_loavesBy_L4, hL, ↓xp_n1, ↓reduceIte, xp_oIs, xp_v, xp_jn, xp_pf, xp_ld, xp_st, xp_le, xp_lt, xp_eq, nI_add, pk_mul, if_pos, if_neg, xp_same, xp_other, xp_us, xp_un, ne_eq, not_false_eq_true, Option.bind_some, Option.bind, xl_0, xl_1, xl_2, xl_3, xl_4, xl_5, xl_6, xl_7, xl_8, xl_9, xl_10, xl_11, xl_12, xl_13, xl_15, xl_16, xl_30, xl_31, xl_32, xl_37, xl_40, xl_44, xl_48, xl_50, xl_51, xl_52, xl_53, xl_54, xl_55, xl_57, xl_59, xl_63, xl_64, xl_99, xl_100, xl_108, xl_110, xl_115, xl_200, xl_201, xl_220, xl_240, xl_255, xl_512, xl_65536, xl_90000, xl_999999, xl_1000000, h j (by omega), xp_on (hb j), xs_bits, xp_shl1 j (by omega), xp_or, Nat.or_zero]
    by_cases hj : f j = none
    · simp [hj]
    · have h3 : (f j).isSome = true := by cases hh : f j with
        | none => exact absurd hh hj
        | some d => rfl
      simp [hj, h3]
  · simp (disch := omega) only [xf_X11_loavesBy_L4, hL, ↓xp_n1, ↓reduceIte, xp_oIs, xp_v, xp_jn, xp_pf, xp_ld, xp_st, xp_le, xp_lt, xp_eq, nI_add, pk_mul, if_pos, if_neg, xp_same, xp_other, xp_us, xp_un, ne_eq, not_false_eq_true, Option.bind_some, Option.bind, xl_0, xl_1, xl_2, xl_3, xl_4, xl_5, xl_6, xl_7, xl_8, xl_9, xl_10, xl_11, xl_12, xl_13, xl_15, xl_16, xl_30, xl_31, xl_32, xl_37, xl_40, xl_44, xl_48, xl_50, xl_51, xl_52, xl_53, xl_54, xl_55, xl_57, xl_59, xl_63, xl_64, xl_99, xl_100, xl_108, xl_110, xl_115, xl_200, xl_201, xl_220, xl_240, xl_255, xl_512, xl_65536, xl_90000, xl_999999, xl_1000000, Nat.zero_add]
theorem xe_loavesBy11 {σ : xr_S} {L : Nat} {f : Nat → Bool} (hL : σ.1 49 5 = nI L) (hL7 : L ≤ 7) (h : ∀ l, l < 7 → σ.1 50 (44 + l) = bI (f l)) : xf_X11_loavesBy σ 11 = some (nI (xs_bits f L)) := by
  unfold xf_X11_loavesBy
  refine xp_iter (fun k => (nI (xs_bits f k), nI k)) 0 L rfl (fun j h1 h2 rec => ?_) (fun rec => ?_)
  · simp (disch := omega) only [xf_X11_loavesBy_L4, hL, ↓xp_n1, ↓reduceIte, xp_oIs, xp_v, xp_jn, xp_pf, xp_ld, xp_st, xp_le, xp_lt, xp_eq, nI_add, pk_mul, if_pos, if_neg, xp_same, xp_other, xp_us, xp_un, ne_eq, not_false_eq_true, Option.bind_some, Option.bind, xl_0, xl_1, xl_2, xl_3, xl_4, xl_5, xl_6, xl_7, xl_8, xl_9, xl_10, xl_11, xl_12, xl_13, xl_15, xl_16, xl_30, xl_31, xl_32, xl_37, xl_40, xl_44, xl_48, xl_50, xl_51, xl_52, xl_53, xl_54, xl_55, xl_57, xl_59, xl_63, xl_64, xl_99, xl_100, xl_108, xl_110, xl_115, xl_200, xl_201, xl_220, xl_240, xl_255, xl_512, xl_65536, xl_90000, xl_999999, xl_1000000, h j (by omega), xp_b1, xs_bits, xp_shl1 j (by omega), xp_or, Nat.or_zero]
    by_cases hj : f j = true <;> simp [hj]
  · simp (disch := omega) only [xf_X11_loavesBy_L4, hL, ↓xp_n1, ↓reduceIte, xp_oIs, xp_v, xp_jn, xp_pf, xp_ld, xp_st, xp_le, xp_lt, xp_eq, nI_add, pk_mul, if_pos, if_neg, xp_same, xp_other, xp_us, xp_un, ne_eq, not_false_eq_true, Option.bind_some, Option.bind, xl_0, xl_1, xl_2, xl_3, xl_4, xl_5, xl_6, xl_7, xl_8, xl_9, xl_10, xl_11, xl_12, xl_13, xl_15, xl_16, xl_30, xl_31, xl_32, xl_37, xl_40, xl_44, xl_48, xl_50, xl_51, xl_52, xl_53, xl_54, xl_55, xl_57, xl_59, xl_63, xl_64, xl_99, xl_100, xl_108, xl_110, xl_115, xl_200, xl_201, xl_220, xl_240, xl_255, xl_512, xl_65536, xl_90000, xl_999999, xl_1000000, Nat.zero_add]
theorem xs_bits_id {n L : Nat} (h : n < 2 ^ L) : xs_bits n.testBit L = n := by
  apply Nat.eq_of_testBit_eq
  intro i
  rw [xs_bits_bit]
  by_cases hi : i < L
  · simp [hi]
  · rw [xs_bit_lt h (by omega)]; simp
theorem xe_lying {σ : xr_S} {t : xa_T} {a : xa_A} (hT : xi_T t) (hA : xi_A t a) (hC : xi_C σ 15 a) : xf_X5_lyingSet σ = some (nI (xs_bits (fun l => (qP a l).isSome) (tL t))) := by
  have hb := xi_bounds hT hA
  unfold xf_X5_lyingSet
  rw [xe_setOf hC.2.1 hb.1, xs_bits_cut hT.2.2.2.1 (fun k hk => ?_)]
  · rfl
  · cases hp : qP a k with
    | none => rfl
    | some s => have := (hA.2.2.2.1 k s hp).1; omega
theorem xe_slept {σ : xr_S} {t : xa_T} {a : xa_A} (hT : xi_T t) (hA : xi_A t a) (hC : xi_C σ 15 a) : xf_X5_sleptOnSet σ = some (nI (xs_bits (fun l => (qT a l).isSome) (tL t))) := by
  have hb := xi_bounds hT hA
  unfold xf_X5_sleptOnSet
  rw [xe_setOf hC.2.2.1 hb.2.1, xs_bits_cut hT.2.2.2.1 (fun k hk => ?_)]
  · rfl
  · cases hp : qT a k with
    | none => rfl
    | some s => have := (hA.2.2.2.2.2.1 k s hp).1; omega
theorem xi_M0 {σ : xr_S} {a : xa_A} (h : xi_M σ 0 a) : (∀ s d, s < 6 → d < 5 → σ.1 50 (5 * s + d) = nI (qW a s d)) ∧ (∀ l, l < 7 → σ.1 50 (30 + l) = oI (qP a l)) ∧ (∀ l, l < 7 → σ.1 50 (37 + l) = oI (qT a l)) ∧ (∀ l, l < 7 → σ.1 50 (44 + l) = bI ((qS a).testBit l)) ∧ σ.1 50 51 = nI (qA a) ∧ σ.1 50 52 = qN a ∧ σ.1 50 53 = nI (qE a) ∧ σ.1 50 54 = nI (qR a) := by
  simpa only [xi_M, Nat.zero_add] using h
theorem xi_M0' {σ : xr_S} {a : xa_A} (h : (∀ s d, s < 6 → d < 5 → σ.1 50 (5 * s + d) = nI (qW a s d)) ∧ (∀ l, l < 7 → σ.1 50 (30 + l) = oI (qP a l)) ∧ (∀ l, l < 7 → σ.1 50 (37 + l) = oI (qT a l)) ∧ (∀ l, l < 7 → σ.1 50 (44 + l) = bI ((qS a).testBit l)) ∧ σ.1 50 51 = nI (qA a) ∧ σ.1 50 52 = qN a ∧ σ.1 50 53 = nI (qE a) ∧ σ.1 50 54 = nI (qR a)) : xi_M σ 0 a := by
  simpa only [xi_M, Nat.zero_add] using h

theorem xy_told {σ : xr_S} (h : xi σ) (x : Int32) : ∃ r, xf_X10_told σ x = some r ∧ xf_X11_told σ x = some r := by
  obtain ⟨t, a, hT, hA, hc, hm, hC, hM, ⟨nx, fx, hX⟩, hF, ⟨nb, fb, hB⟩, ⟨nk, fk, gk, kk, hK⟩, -⟩ := h
  obtain ⟨n1, n2, n3, n4, n5, n6, n7⟩ := id hT
  obtain ⟨c1, c2, c3, c4, c5, c6⟩ := id hc
  obtain ⟨m1, m2, m3, m4, m5, m6⟩ := id hm
  obtain ⟨p1, p2, p3, p4, p5, p6, p7, p8⟩ := id hC
  obtain ⟨o1, o2, o3, o4, o5, o6, o7, o8⟩ := xi_M0 hM
  have hb := xi_bounds hT hA
  by_cases h0 : x = 0
  · subst h0
    unfold xf_X10_told xf_X11_told
    exact ⟨_, by rw [if_pos rfl, c1], by rw [if_pos rfl, m1]⟩
  by_cases h1 : x = 1
  · subst h1
    unfold xf_X10_told xf_X11_told
    exact ⟨_, by rw [if_neg (by decide), if_pos rfl, c2], by rw [if_neg (by decide), if_pos rfl, m2]⟩
  by_cases h2 : x = 2
  · subst h2
    unfold xf_X10_told xf_X11_told
    exact ⟨_, by rw [if_neg (by decide), if_neg (by decide), if_pos rfl, c3], by rw [if_neg (by decide), if_neg (by decide), if_pos rfl, m3]⟩
  by_cases h3 : x = 3
  · subst h3
    unfold xf_X10_told xf_X11_told
    exact ⟨_, by rw [if_neg (by decide), if_neg (by decide), if_neg (by decide), if_pos rfl, c4], by rw [if_neg (by decide), if_neg (by decide), if_neg (by decide), if_pos rfl, m4]⟩
  by_cases h4 : x = 4
  · subst h4
    unfold xf_X10_told xf_X11_told
    exact ⟨_, by rw [if_neg (by decide), if_neg (by decide), if_neg (by decide), if_neg (by decide), if_pos rfl, c5], by rw [if_neg (by decide), if_neg (by decide), if_neg (by decide), if_neg (by decide), if_pos rfl, m5]⟩
  by_cases h5 : x = 5
  · subst h5
    unfold xf_X10_told xf_X11_told
    exact ⟨_, by rw [if_neg (by decide), if_neg (by decide), if_neg (by decide), if_neg (by decide), if_neg (by decide), if_pos rfl, hX.2.1], by rw [if_neg (by decide), if_neg (by decide), if_neg (by decide), if_neg (by decide), if_neg (by decide), if_pos rfl, hX.2.2.1]⟩
  by_cases h6 : x = 6
  · subst h6
    unfold xf_X10_told xf_X11_told
    exact ⟨_, by rw [if_neg (by decide), if_neg (by decide), if_neg (by decide), if_neg (by decide), if_neg (by decide), if_neg (by decide), if_pos rfl, p6], by rw [if_neg (by decide), if_neg (by decide), if_neg (by decide), if_neg (by decide), if_neg (by decide), if_neg (by decide), if_pos rfl, xl_52, xp_ld (by omega) (by omega), o6]⟩
  by_cases h7 : x = 7
  · subst h7
    unfold xf_X10_told xf_X11_told
    exact ⟨_, by rw [if_neg (by decide), if_neg (by decide), if_neg (by decide), if_neg (by decide), if_neg (by decide), if_neg (by decide), if_neg (by decide), if_pos rfl, p7], by rw [if_neg (by decide), if_neg (by decide), if_neg (by decide), if_neg (by decide), if_neg (by decide), if_neg (by decide), if_neg (by decide), if_pos rfl, xl_53, xp_ld (by omega) (by omega), o7]⟩
  by_cases h8 : x = 8
  · subst h8
    unfold xf_X10_told xf_X11_told
    exact ⟨_, by rw [if_neg (by decide), if_neg (by decide), if_neg (by decide), if_neg (by decide), if_neg (by decide), if_neg (by decide), if_neg (by decide), if_neg (by decide), if_pos rfl, p5], by rw [if_neg (by decide), if_neg (by decide), if_neg (by decide), if_neg (by decide), if_neg (by decide), if_neg (by decide), if_neg (by decide), if_neg (by decide), if_pos rfl, xl_51, xp_ld (by omega) (by omega), o5]⟩
  by_cases h9 : x = 9
  · subst h9
    unfold xf_X10_told xf_X11_told
    have hin : xf_X11_in σ (Int32.toInt64 9) 9 11 = some (bI true) := by rw [xe_in]; rfl
    exact ⟨_, by rw [if_neg (by decide), if_neg (by decide), if_neg (by decide), if_neg (by decide), if_neg (by decide), if_neg (by decide), if_neg (by decide), if_neg (by decide), if_neg (by decide), if_pos rfl, xe_lying hT hA hC]; rfl, by rw [if_neg (by decide), if_neg (by decide), if_neg (by decide), if_neg (by decide), if_neg (by decide), if_neg (by decide), if_neg (by decide), if_neg (by decide), if_neg (by decide), if_pos rfl, hin, xe_loavesBy9 m4 n4 o2 hb.1]; rfl⟩
  by_cases h10 : x = 10
  · subst h10
    unfold xf_X10_told xf_X11_told
    have hin : xf_X11_in σ (Int32.toInt64 10) 9 11 = some (bI true) := by rw [xe_in]; rfl
    exact ⟨_, by rw [if_neg (by decide), if_neg (by decide), if_neg (by decide), if_neg (by decide), if_neg (by decide), if_neg (by decide), if_neg (by decide), if_neg (by decide), if_neg (by decide), if_neg (by decide), if_pos rfl, xe_slept hT hA hC]; rfl, by rw [if_neg (by decide), if_neg (by decide), if_neg (by decide), if_neg (by decide), if_neg (by decide), if_neg (by decide), if_neg (by decide), if_neg (by decide), if_neg (by decide), if_neg (by decide), if_pos rfl, hin, xe_loavesBy10 m4 n4 o3 hb.2.1]; rfl⟩
  by_cases h11 : x = 11
  · subst h11
    unfold xf_X10_told xf_X11_told
    have hin : xf_X11_in σ (Int32.toInt64 11) 9 11 = some (bI true) := by rw [xe_in]; rfl
    exact ⟨_, by rw [if_neg (by decide), if_neg (by decide), if_neg (by decide), if_neg (by decide), if_neg (by decide), if_neg (by decide), if_neg (by decide), if_neg (by decide), if_neg (by decide), if_neg (by decide), if_neg (by decide), if_pos rfl, p4], by rw [if_neg (by decide), if_neg (by decide), if_neg (by decide), if_neg (by decide), if_neg (by decide), if_neg (by decide), if_neg (by decide), if_neg (by decide), if_neg (by decide), if_neg (by decide), if_neg (by decide), if_pos rfl, hin, xe_loavesBy11 m4 n4 o4, xs_bits_id hA.2.2.2.2.2.2.1]; rfl⟩
  by_cases h12 : x = 12
  · subst h12
    unfold xf_X10_told xf_X11_told
    exact ⟨_, by rw [if_neg (by decide), if_neg (by decide), if_neg (by decide), if_neg (by decide), if_neg (by decide), if_neg (by decide), if_neg (by decide), if_neg (by decide), if_neg (by decide), if_neg (by decide), if_neg (by decide), if_neg (by decide), if_pos rfl, hB.2.1], by rw [if_neg (by decide), if_neg (by decide), if_neg (by decide), if_neg (by decide), if_neg (by decide), if_neg (by decide), if_neg (by decide), if_neg (by decide), if_neg (by decide), if_neg (by decide), if_neg (by decide), if_neg (by decide), if_pos rfl, hB.2.2.1]⟩
  by_cases h13 : x = 13
  · subst h13
    unfold xf_X10_told xf_X11_told
    exact ⟨_, by rw [if_neg (by decide), if_neg (by decide), if_neg (by decide), if_neg (by decide), if_neg (by decide), if_neg (by decide), if_neg (by decide), if_neg (by decide), if_neg (by decide), if_neg (by decide), if_neg (by decide), if_neg (by decide), if_neg (by decide), if_pos rfl, hK.2.1], by rw [if_neg (by decide), if_neg (by decide), if_neg (by decide), if_neg (by decide), if_neg (by decide), if_neg (by decide), if_neg (by decide), if_neg (by decide), if_neg (by decide), if_neg (by decide), if_neg (by decide), if_neg (by decide), if_neg (by decide), if_pos rfl, hK.2.2.1]⟩
  have hin : xf_X11_in σ x.toInt64 9 11 = some (bI false) := by
    have e9 : (9 : Int64) = (9 : Int32).toInt64 := by decide
    have e11 : (11 : Int64) = (11 : Int32).toInt64 := by decide
    rw [e9, e11, xe_inI]
    congr 2
    apply decide_eq_false
    rintro ⟨q1, q2⟩
    have r1 := Int32.le_iff_toInt_le.mp q1
    have r2 := Int32.le_iff_toInt_le.mp q2
    rw [show (9 : Int32).toInt = 9 by decide] at r1
    rw [show (11 : Int32).toInt = 11 by decide] at r2
    have z9 : x.toInt ≠ 9 := fun z => h9 (Int32.toInt_inj.mp (by rw [z]; decide))
    have z10 : x.toInt ≠ 10 := fun z => h10 (Int32.toInt_inj.mp (by rw [z]; decide))
    have z11 : x.toInt ≠ 11 := fun z => h11 (Int32.toInt_inj.mp (by rw [z]; decide))
    omega
  unfold xf_X10_told xf_X11_told
  rw [if_neg h0, if_neg h1, if_neg h2, if_neg h3, if_neg h4, if_neg h5, if_neg h6, if_neg h7, if_neg h8, if_neg h9, if_neg h10, if_neg h11, if_neg h12, if_neg h13]
  exact ⟨_, rfl, by rw [if_neg h0, if_neg h1, if_neg h2, if_neg h3, if_neg h4, if_neg h5, if_neg h6, if_neg h7, if_neg h8, if_neg h9, if_neg h10, if_neg h11, if_neg h12, if_neg h13, hin]; rfl⟩
theorem xy_loaf {σ : xr_S} (h : xi σ) (x y : Int32) : ∃ r, xf_X10_loaf σ x y = some r ∧ xf_X11_loaf σ x y = some r := by
  obtain ⟨t, a, hT, hA, hc, hm, hC, hM, -⟩ := h
  obtain ⟨n1, n2, n3, n4, n5, n6, n7⟩ := id hT
  obtain ⟨c1, c2, c3, c4, c5, c6⟩ := id hc
  obtain ⟨m1, m2, m3, m4, m5, m6⟩ := id hm
  obtain ⟨p1, p2, p3, p4, p5, p6, p7, p8⟩ := id hC
  obtain ⟨o1, o2, o3, o4, o5, o6, o7, o8⟩ := xi_M0 hM
  have hb := xi_bounds hT hA
  unfold xf_X10_loaf xf_X11_loaf
  rw [xe_hasLoaf c4, xe_isLoaf m4 (by omega)]
  cases hl : xs_inr x (tL t) with
  | false => exact ⟨_, rfl, rfl⟩
  | true =>
    obtain ⟨l, hl1, rfl⟩ := xs_inr_t (by omega) hl
    obtain ⟨g1, g2, g3⟩ := c6 l hl1
    obtain ⟨i1, i2, i3⟩ := m6 l hl1
    have e5 : xf_X10_bit σ (σ.1 15 3) (nI l) = some (bI ((qS a).testBit l)) := by
      unfold xf_X10_bit
      rw [p4, xl_1, xl_31, xp_bitb (by omega) (by omega)]
    simp only [Option.bind_some, bI_t, show ¬ nI 1 = 0 from by decide, if_false]
    by_cases h0 : y = 0
    · exact ⟨_, by rw [if_pos h0, xp_ld (by omega) (by omega), g1], by rw [if_pos h0, xp_ld (by omega) (by omega), i1]⟩
    · by_cases h1 : y = 1
      · exact ⟨_, by rw [if_neg h0, if_pos h1, xp_ld (by omega) (by omega), g2], by rw [if_neg h0, if_pos h1, xp_ld (by omega) (by omega), i2]⟩
      · by_cases h2 : y = 2
        · exact ⟨_, by rw [if_neg h0, if_neg h1, if_pos h2, xp_ld (by omega) (by omega), g3], by rw [if_neg h0, if_neg h1, if_pos h2, xp_ld (by omega) (by omega), i3]⟩
        · by_cases h3 : y = 3
          · exact ⟨_, by rw [if_neg h0, if_neg h1, if_neg h2, if_pos h3, xp_ld (by omega) (by omega), p2 l (by omega)], by rw [if_neg h0, if_neg h1, if_neg h2, if_pos h3, xl_30, nI_add, xp_ld (by omega) (by omega), o2 l (by omega)]⟩
          · by_cases h4 : y = 4
            · exact ⟨_, by rw [if_neg h0, if_neg h1, if_neg h2, if_neg h3, if_pos h4, xp_ld (by omega) (by omega), p3 l (by omega)], by rw [if_neg h0, if_neg h1, if_neg h2, if_neg h3, if_pos h4, xl_37, nI_add, xp_ld (by omega) (by omega), o3 l (by omega)]⟩
            · by_cases h5 : y = 5
              · exact ⟨_, by rw [if_neg h0, if_neg h1, if_neg h2, if_neg h3, if_neg h4, if_pos h5, e5]; rfl, by rw [if_neg h0, if_neg h1, if_neg h2, if_neg h3, if_neg h4, if_pos h5, xl_44, nI_add, xp_ld (by omega) (by omega), o4 l (by omega)]⟩
              · exact ⟨_, by rw [if_neg h0, if_neg h1, if_neg h2, if_neg h3, if_neg h4, if_neg h5], by rw [if_neg h0, if_neg h1, if_neg h2, if_neg h3, if_neg h4, if_neg h5]⟩

