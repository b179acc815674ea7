theorem xi_C_fr {σ τ : xr_S} {a : xa_A} {c : Nat} (h : xi_C σ c a) (h0 : τ.1 c = σ.1 c) (h2 : τ.1 (c + 2) = σ.1 (c + 2)) (h3 : τ.1 (c + 3) = σ.1 (c + 3)) (h4 : τ.1 (c + 4) = σ.1 (c + 4)) : xi_C τ c a := by
  simpa only [xi_C, h0, h2, h3, h4] using h
theorem xi_G_fr {σ τ : xr_S} {t : xa_T} {n : Nat} (h : xi_G σ t n) (hf : ∀ c, c = 0 ∨ (21 ≤ c ∧ c ≤ 30) ∨ c = 50 ∨ c = 51 → τ.1 c = σ.1 c) : xi_G τ t n := by
  obtain ⟨i1, i2, i3⟩ := h
  refine ⟨i1, by rw [hf 0 (by omega)]; exact i2, fun i hi => ?_⟩
  obtain ⟨j1, j2⟩ := i3 i hi
  refine ⟨by rw [hf 51 (by omega)]; exact j1, fun hb => ?_⟩
  obtain ⟨x, x1, x2, x3⟩ := j2 hb
  have hr : 21 ≤ xr_img i ∧ xr_img i ≤ 26 := by unfold xr_img; split <;> omega
  exact ⟨x, x1, xi_C_fr x2 (hf _ (by omega)) (hf _ (by omega)) (hf _ (by omega)) (hf _ (by omega)), xi_M_fr x3 (hf 50 (by omega))⟩
/-- bites and book changed -/
theorem xi_bk {σ τ : xr_S} {t : xa_T} {a : xa_A} {nb nk : Nat} {f fk gk hk : Nat → Nat} (h : xi_I σ t a) (hf : ∀ c, c ≠ 39 → c ≠ 40 → c ≠ 45 → c ≠ 46 → c ≠ 47 → c ≠ 48 → c ≠ 49 → c ≠ 61 → c ≠ 65 → c ≠ 66 → c ≠ 67 → τ.1 c = σ.1 c) (h49 : ∀ k, k ≠ 28 → k ≠ 33 → τ.1 49 k = σ.1 49 k) (hB : xi_B τ t nb f) (hK : xi_K τ t nk fk gk hk) : xi_I τ t a := by
  obtain ⟨h1, h2, h3, h4, h5, h6, ⟨n7, f7, h7⟩, h8, -, -, n11, h11⟩ := h
  have e : ∀ c, (c < 39 ∨ (50 ≤ c ∧ c < 61)) → τ.1 c = σ.1 c := fun c hc => hf c (by omega) (by omega) (by omega) (by omega) (by omega) (by omega) (by omega) (by omega) (by omega) (by omega) (by omega)
  refine ⟨h1, h2, ?_, ?_, ?_, xi_M_fr h6 (e 50 (by omega)), ⟨n7, f7, ?_⟩, ?_, ⟨nb, f, hB⟩, ⟨nk, fk, gk, hk, hK⟩, n11, xi_G_fr h11 (fun c hc => e c (by omega))⟩
  · simpa only [xi_Tc, e 9 (by omega), e 12 (by omega), e 13 (by omega), e 14 (by omega)] using h3
  · simpa only [xi_Tm, h49 2 (by decide) (by decide), h49 3 (by decide) (by decide), h49 4 (by decide) (by decide), h49 5 (by decide) (by decide), h49 6 (by decide) (by decide), e 52 (by omega), e 53 (by omega), e 54 (by omega)] using h4
  · exact xi_C_fr h5 (e _ (by omega)) (e _ (by omega)) (e _ (by omega)) (e _ (by omega))
  · simpa only [xi_X, h49 11 (by decide) (by decide), e 1 (by omega), e 2 (by omega), e 55 (by omega)] using h7
  · simpa only [xi_F, h49 16 (by decide) (by decide), e 0 (by omega)] using h8
/-- the text changed -/
theorem xi_tx {σ τ : xr_S} {t : xa_T} {a : xa_A} {n : Nat} {f : Nat → Nat} (h : xi_I σ t a) (hf : ∀ c, c ≠ 1 → c ≠ 2 → c ≠ 49 → c ≠ 55 → τ.1 c = σ.1 c) (h49 : ∀ k, k ≠ 11 → τ.1 49 k = σ.1 49 k) (hX : xi_X τ n f) : xi_I τ t a := by
  obtain ⟨h1, h2, h3, h4, h5, h6, -, h8, ⟨n9, f9, h9⟩, ⟨n10, f10, g10, k10, h10⟩, n11, h11⟩ := h
  have e : ∀ c, (c = 0 ∨ (3 ≤ c ∧ c < 49) ∨ (50 ≤ c ∧ c < 55) ∨ 56 ≤ c) → τ.1 c = σ.1 c := fun c hc => hf c (by omega) (by omega) (by omega) (by omega)
  refine ⟨h1, h2, ?_, ?_, ?_, xi_M_fr h6 (e 50 (by omega)), ⟨n, f, hX⟩, ?_, ⟨n9, f9, ?_⟩, ⟨n10, f10, g10, k10, ?_⟩, n11, xi_G_fr h11 (fun c hc => e c (by omega))⟩
  · simpa only [xi_Tc, e 9 (by omega), e 12 (by omega), e 13 (by omega), e 14 (by omega)] using h3
  · simpa only [xi_Tm, h49 2 (by decide), h49 3 (by decide), h49 4 (by decide), h49 5 (by decide), h49 6 (by decide), e 52 (by omega), e 53 (by omega), e 54 (by omega)] using h4
  · exact xi_C_fr h5 (e _ (by omega)) (e _ (by omega)) (e _ (by omega)) (e _ (by omega))
  · simpa only [xi_F, h49 16 (by decide), e 0 (by omega)] using h8
  · simpa only [xi_B, h49 28 (by decide), e 39 (by omega), e 40 (by omega), e 61 (by omega)] using h9
  · simpa only [xi_K, h49 33 (by decide), e 45 (by omega), e 46 (by omega), e 47 (by omega), e 48 (by omega), e 65 (by omega), e 66 (by omega), e 67 (by omega)] using h10
theorem xy_tear {σ : xr_S} (h : xi σ) : xi_ok σ (xf_X10_tear σ) (fun τ => xf_X11_tear τ) := by
  obtain ⟨t, a, hI⟩ := h
  obtain ⟨-, -, -, -, -, -, -, -, ⟨nb, fb, hB⟩, ⟨nk, fk, gk, kk, hK⟩, -⟩ := id hI
  obtain ⟨b1, b2, b3, b4⟩ := hB
  obtain ⟨k1, k2, k3, k4⟩ := hK
  refine ⟨nI (nb + nk), xr_up (xr_up σ 39 0 0) 45 0 0, xr_up (xr_up (xr_up (xr_up σ 39 0 0) 45 0 0) 49 28 0) 49 33 0, ?_, ?_, xi_ofI (xi_bk (nb := 0) (nk := 0) (f := fb) (fk := fk) (gk := gk) (hk := kk) hI ?_ ?_ ?_ ?_)⟩
  · unfold xf_X10_tear
    rw [xp_v, xp_pf, xp_pf, b2, k2, nI_add]
  · show xf_X11_tear _ = _
    unfold xf_X11_tear
    rw [xp_v, xp_pf, xp_pf, xp_other (by decide), xp_other (by decide), b3, k3, nI_add]
  · intro c c1 c2 c3 c4 c5 c6 c7 c8 c9 c10 c11
    rw [xp_other c7, xp_other c7, xp_other c3, xp_other c1]
  · intro k hk1 hk2
    rw [xp_same, xp_un hk2, xp_same, xp_un hk1, xp_other (by decide), xp_other (by decide)]
  · refine ⟨by omega, ?_, ?_, fun k hk => by omega⟩
    · rw [xp_other (by decide), xp_other (by decide), xp_other (by decide), xp_same, xp_us]; rfl
    · rw [xp_same, xp_un (by decide), xp_same, xp_us]; rfl
  · refine ⟨by omega, ?_, ?_, fun k hk => by omega⟩
    · rw [xp_other (by decide), xp_other (by decide), xp_same, xp_us]; rfl
    · rw [xp_same, xp_us]; rfl
theorem xy_bite {σ : xr_S} (h : xi σ) (x : Int32) : xi_ok σ (xf_X10_bite σ x) (fun τ => xf_X11_bite τ x) := by
  obtain ⟨t, a, hI⟩ := h
  obtain ⟨hT, -, hc, hm, -, -, -, -, ⟨nb, fb, hB⟩, ⟨nk, fk, gk, kk, hK⟩, -⟩ := id hI
  obtain ⟨n1, n2, n3, n4, n5, n6, n7⟩ := id hT
  obtain ⟨b1, b2, b3, b4⟩ := id hB
  cases hl : xs_inr x (tN t) with
  | false =>
    refine ⟨-1000000001, σ, σ, ?_, ?_, ⟨t, a, hI⟩⟩
    · unfold xf_X10_bite; rw [xe_hasDream hc.1, hl]; rfl
    · show xf_X11_bite _ _ = _
      unfold xf_X11_bite; rw [xe_isDream hm.1 (by omega), hl]; rfl
  | true =>
    obtain ⟨d, hd, rfl⟩ := xs_inr_t (by omega) hl
    by_cases h8 : nb < 8
    · refine ⟨nI (nb + 1), xr_up (xr_up σ 40 nb (nI d)) 39 0 (nI (nb + 1)), xr_up (xr_up (xr_up (xr_up σ 40 nb (nI d)) 39 0 (nI (nb + 1))) 61 nb (nI d)) 49 28 (nI (nb + 1)), ?_, ?_, xi_ofI (xi_bk (nb := nb + 1) (f := fun k => if k = nb then d else fb k) (nk := nk) (fk := fk) (gk := gk) (hk := kk) hI ?_ ?_ ?_ ?_)⟩
      · unfold xf_X10_bite xf_X1_add
        rw [xe_hasDream hc.1, hl, b2]
        simp (disch := omega) only [bI_t, ↓xp_n1, ↓reduceIte, xp_oIs, xp_v, xp_jn, xp_pf, xp_ld, xp_st, xp_le, xp_lt, xp_eq, nI_add, pk_mul, if_pos, if_neg, xp_same, xp_other, xp_us, xp_un, ne_eq, not_false_eq_true, Option.bind_some, Option.bind, xl_0, xl_1, xl_2, xl_3, xl_4, xl_5, xl_6, xl_7, xl_8, xl_9, xl_10, xl_11, xl_12, xl_13, xl_15, xl_16, xl_30, xl_31, xl_32, xl_37, xl_40, xl_44, xl_48, xl_50, xl_51, xl_52, xl_53, xl_54, xl_55, xl_57, xl_59, xl_63, xl_64, xl_99, xl_100, xl_108, xl_110, xl_115, xl_200, xl_201, xl_220, xl_240, xl_255, xl_512, xl_65536, xl_90000, xl_999999, xl_1000000, b2]
      · show xf_X11_bite _ _ = _
        unfold xf_X11_bite
        rw [xe_isDream (show (xr_up (xr_up σ 40 nb (nI d)) 39 0 (nI (nb + 1))).1 49 2 = nI (tN t) from hm.1) (by omega), hl]
        simp (disch := omega) only [bI_t, ↓xp_n1, ↓reduceIte, xp_oIs, xp_v, xp_jn, xp_pf, xp_ld, xp_st, xp_le, xp_lt, xp_eq, nI_add, pk_mul, if_pos, if_neg, xp_same, xp_other, xp_us, xp_un, ne_eq, not_false_eq_true, Option.bind_some, Option.bind, xl_0, xl_1, xl_2, xl_3, xl_4, xl_5, xl_6, xl_7, xl_8, xl_9, xl_10, xl_11, xl_12, xl_13, xl_15, xl_16, xl_30, xl_31, xl_32, xl_37, xl_40, xl_44, xl_48, xl_50, xl_51, xl_52, xl_53, xl_54, xl_55, xl_57, xl_59, xl_63, xl_64, xl_99, xl_100, xl_108, xl_110, xl_115, xl_200, xl_201, xl_220, xl_240, xl_255, xl_512, xl_65536, xl_90000, xl_999999, xl_1000000, b3]
      · intro c c1 c2 c3 c4 c5 c6 c7 c8 c9 c10 c11
        rw [xp_other c7, xp_other c8, xp_other c1, xp_other c2]
      · intro k hk1 hk2
        rw [xp_same, xp_un hk1, xp_other (by decide), xp_other (by decide), xp_other (by decide)]
      · refine ⟨by omega, ?_, ?_, fun k hk => ?_⟩
        · rw [xp_other (by decide), xp_other (by decide), xp_same, xp_us]
        · rw [xp_same, xp_us]
        · have e1 : (xr_up (xr_up (xr_up (xr_up σ 40 nb (nI d)) 39 0 (nI (nb + 1))) 61 nb (nI d)) 49 28 (nI (nb + 1))).1 40 = upd (σ.1 40) nb (nI d) := by
            rw [xp_other (by decide), xp_other (by decide), xp_other (by decide), xp_same]
          have e2 : (xr_up (xr_up (xr_up (xr_up σ 40 nb (nI d)) 39 0 (nI (nb + 1))) 61 nb (nI d)) 49 28 (nI (nb + 1))).1 61 = upd (σ.1 61) nb (nI d) := by
            rw [xp_other (by decide), xp_same, xp_other (by decide), xp_other (by decide)]
          rw [e1, e2]
          by_cases hkn : k = nb
          · subst hkn
            rw [xp_us, xp_us]
            simp [hd]
          · rw [xp_un hkn, xp_un hkn]
            have := b4 k (by omega)
            simpa [hkn] using this
      · have e : ∀ c, c ≠ 39 → c ≠ 40 → c ≠ 61 → c ≠ 49 → (xr_up (xr_up (xr_up (xr_up σ 40 nb (nI d)) 39 0 (nI (nb + 1))) 61 nb (nI d)) 49 28 (nI (nb + 1))).1 c = σ.1 c := fun c c1 c2 c3 c4 => by
          rw [xp_other c4, xp_other c3, xp_other c1, xp_other c2]
        have e49 : (xr_up (xr_up (xr_up (xr_up σ 40 nb (nI d)) 39 0 (nI (nb + 1))) 61 nb (nI d)) 49 28 (nI (nb + 1))).1 49 33 = σ.1 49 33 := by
          rw [xp_same, xp_un (by decide), xp_other (by decide), xp_other (by decide), xp_other (by decide)]
        simpa only [xi_K, e49, e 45 (by decide) (by decide) (by decide) (by decide), e 46 (by decide) (by decide) (by decide) (by decide), e 47 (by decide) (by decide) (by decide) (by decide), e 48 (by decide) (by decide) (by decide) (by decide), e 65 (by decide) (by decide) (by decide) (by decide), e 66 (by decide) (by decide) (by decide) (by decide), e 67 (by decide) (by decide) (by decide) (by decide)] using hK
    · have h8' : nb = 8 := by omega
      subst h8'
      refine ⟨-1000000004, σ, σ, ?_, ?_, ⟨t, a, hI⟩⟩
      · unfold xf_X10_bite xf_X1_add
        rw [xe_hasDream hc.1, hl, b2]
        simp only [bI_t, Option.bind_some, show ¬ nI 1 = 0 from by decide, if_false, show ¬ nI 8 < 8 from by decide, if_true]
      · show xf_X11_bite _ _ = _
        unfold xf_X11_bite
        rw [xe_isDream hm.1 (by omega), hl, b3]
        simp only [bI_t, Option.bind_some, show ¬ nI 1 = 0 from by decide, if_false, show (nI 8 = 8) from rfl, if_true]

theorem xy_write {σ : xr_S} (h : xi σ) (x y z : Int32) : xi_ok σ (xf_X10_write σ x y z) (fun τ => xf_X11_write τ x y z) := by
  obtain ⟨t, a, hI⟩ := h
  obtain ⟨hT, -, hc, hm, -, -, -, -, ⟨nb, fb, hB⟩, ⟨nk, fk, gk, kk, hK⟩, -⟩ := id hI
  obtain ⟨n1, n2, n3, n4, n5, n6, n7⟩ := id hT
  obtain ⟨k1, k2, k3, k4⟩ := id hK
  cases hl : xs_inr x (tS t) with
  | false =>
    refine ⟨-1000000001, σ, σ, ?_, ?_, ⟨t, a, hI⟩⟩
    · unfold xf_X10_write; rw [xe_hasSleeper hc.2.2.1, hl]; rfl
    · show xf_X11_write _ _ _ _ = _
      unfold xf_X11_write; rw [xe_isSleeper hm.2.2.1 (by omega), hl]; rfl
  | true =>
    cases hl2 : xs_inr y (tN t) with
    | false =>
      refine ⟨-1000000001, σ, σ, ?_, ?_, ⟨t, a, hI⟩⟩
      · unfold xf_X10_write; rw [xe_hasSleeper hc.2.2.1, hl, xe_hasDream hc.1, hl2]; rfl
      · show xf_X11_write _ _ _ _ = _
        unfold xf_X11_write; rw [xe_isSleeper hm.2.2.1 (by omega), hl, xe_isDream hm.1 (by omega), hl2]; rfl
    | true =>
      cases hl3 : xs_inr z 10 with
      | false =>
        refine ⟨-1000000002, σ, σ, ?_, ?_, ⟨t, a, hI⟩⟩
        · unfold xf_X10_write; rw [xe_hasSleeper hc.2.2.1, hl, xe_hasDream hc.1, hl2, xe_rng (a := z) (n := 9) (k := 9) (by omega) rfl, hl3]; rfl
        · show xf_X11_write _ _ _ _ = _
          unfold xf_X11_write; rw [xe_isSleeper hm.2.2.1 (by omega), hl, xe_isDream hm.1 (by omega), hl2, xe_inK (a := z) (n := 9) (lo := 0) (hi := 9) σ (by omega) rfl rfl, hl3]; rfl
      | true =>
        obtain ⟨s, hs, rfl⟩ := xs_inr_t (by omega) hl
        obtain ⟨d, hd, rfl⟩ := xs_inr_t (by omega) hl2
        obtain ⟨v, hv, rfl⟩ := xs_inr_t (by omega) hl3
        by_cases h15 : nk < 15
        · obtain ⟨σ1, hσ1⟩ : ∃ τ, τ = xr_up (xr_up (xr_up (xr_up σ 46 nk (nI s)) 47 nk (nI d)) 48 nk (nI v)) 45 0 (nI (nk + 1)) := ⟨_, rfl⟩
          obtain ⟨σ2, hσ2⟩ : ∃ τ, τ = xr_up (xr_up (xr_up (xr_up σ1 65 nk (nI s)) 66 nk (nI d)) 67 nk (nI v)) 49 33 (nI (nk + 1)) := ⟨_, rfl⟩
          have f1 : ∀ c, c ≠ 45 → c ≠ 46 → c ≠ 47 → c ≠ 48 → σ1.1 c = σ.1 c := fun c c1 c2 c3 c4 => by
            rw [hσ1, xp_other c1, xp_other c4, xp_other c3, xp_other c2]
          have f2 : ∀ c, c ≠ 49 → c ≠ 65 → c ≠ 66 → c ≠ 67 → σ2.1 c = σ1.1 c := fun c c1 c2 c3 c4 => by
            rw [hσ2, xp_other c1, xp_other c4, xp_other c3, xp_other c2]
          have f3 : ∀ k, k ≠ 33 → σ2.1 49 k = σ.1 49 k := fun k hk => by
            rw [hσ2, xp_same, xp_un hk, xp_other (by decide), xp_other (by decide), xp_other (by decide), f1 49 (by decide) (by decide) (by decide) (by decide)]
          refine ⟨nI (nk + 1), σ1, σ2, ?_, ?_, xi_ofI (xi_bk (nb := nb) (f := fb) (nk := nk + 1) (fk := fun k => if k = nk then s else fk k) (gk := fun k => if k = nk then d else gk k) (hk := fun k => if k = nk then v else kk k) hI ?_ ?_ ?_ ?_)⟩
          · unfold xf_X10_write xf_X2_add
            rw [xe_hasSleeper hc.2.2.1, hl, xe_hasDream hc.1, hl2, xe_rng (a := nI v) (n := 9) (k := 9) (by omega) rfl, hl3, k2]
            simp (disch := omega) only [bI_t, ↓xp_n1, ↓reduceIte, xp_oIs, xp_v, xp_jn, xp_pf, xp_ld, xp_st, xp_le, xp_lt, xp_eq, nI_add, pk_mul, if_pos, if_neg, xp_same, xp_other, xp_us, xp_un, ne_eq, not_false_eq_true, Option.bind_some, Option.bind, xl_0, xl_1, xl_2, xl_3, xl_4, xl_5, xl_6, xl_7, xl_8, xl_9, xl_10, xl_11, xl_12, xl_13, xl_15, xl_16, xl_30, xl_31, xl_32, xl_37, xl_40, xl_44, xl_48, xl_50, xl_51, xl_52, xl_53, xl_54, xl_55, xl_57, xl_59, xl_63, xl_64, xl_99, xl_100, xl_108, xl_110, xl_115, xl_200, xl_201, xl_220, xl_240, xl_255, xl_512, xl_65536, xl_90000, xl_999999, xl_1000000, if_true, k2]
            rw [hσ1]
          · show xf_X11_write _ _ _ _ = _
            unfold xf_X11_write
            have e49 : ∀ k, σ1.1 49 k = σ.1 49 k := fun k => by rw [f1 49 (by decide) (by decide) (by decide) (by decide)]
            rw [xe_isSleeper ((e49 4).trans hm.2.2.1) (by omega), hl, xe_isDream ((e49 2).trans hm.1) (by omega), hl2, xe_inK (a := nI v) (n := 9) (lo := 0) (hi := 9) σ1 (by omega) rfl rfl, hl3]
            simp (disch := omega) only [bI_t, ↓xp_n1, ↓reduceIte, xp_oIs, xp_v, xp_jn, xp_pf, xp_ld, xp_st, xp_le, xp_lt, xp_eq, nI_add, pk_mul, if_pos, if_neg, xp_same, xp_other, xp_us, xp_un, ne_eq, not_false_eq_true, Option.bind_some, Option.bind, xl_0, xl_1, xl_2, xl_3, xl_4, xl_5, xl_6, xl_7, xl_8, xl_9, xl_10, xl_11, xl_12, xl_13, xl_15, xl_16, xl_30, xl_31, xl_32, xl_37, xl_40, xl_44, xl_48, xl_50, xl_51, xl_52, xl_53, xl_54, xl_55, xl_57, xl_59, xl_63, xl_64, xl_99, xl_100, xl_108, xl_110, xl_115, xl_200, xl_201, xl_220, xl_240, xl_255, xl_512, xl_65536, xl_90000, xl_999999, xl_1000000, e49, k3]
            rw [hσ2]
          · intro c c1 c2 c3 c4 c5 c6 c7 c8 c9 c10 c11
            rw [f2 c c7 c9 c10 c11, f1 c c3 c4 c5 c6]
          · intro k hk1 hk2
            exact f3 k hk2
          · obtain ⟨b1, b2, b3, b4⟩ := hB
            refine ⟨b1, ?_, ?_, fun k hk => ?_⟩
            · rw [f2 39 (by decide) (by decide) (by decide) (by decide), f1 39 (by decide) (by decide) (by decide) (by decide)]; exact b2
            · rw [f3 28 (by decide)]; exact b3
            · rw [f2 40 (by decide) (by decide) (by decide) (by decide), f1 40 (by decide) (by decide) (by decide) (by decide), f2 61 (by decide) (by decide) (by decide) (by decide), f1 61 (by decide) (by decide) (by decide) (by decide)]; exact b4 k hk
          · have g46 : σ2.1 46 = upd (σ.1 46) nk (nI s) := by rw [f2 46 (by decide) (by decide) (by decide) (by decide), hσ1, xp_other (by decide), xp_other (by decide), xp_other (by decide), xp_same]
            have g47 : σ2.1 47 = upd (σ.1 47) nk (nI d) := by rw [f2 47 (by decide) (by decide) (by decide) (by decide), hσ1, xp_other (by decide), xp_other (by decide), xp_same, xp_other (by decide)]
            have g48 : σ2.1 48 = upd (σ.1 48) nk (nI v) := by rw [f2 48 (by decide) (by decide) (by decide) (by decide), hσ1, xp_other (by decide), xp_same, xp_other (by decide), xp_other (by decide)]
            have g45 : σ2.1 45 0 = nI (nk + 1) := by rw [f2 45 (by decide) (by decide) (by decide) (by decide), hσ1, xp_same, xp_us]
            have g65 : σ2.1 65 = upd (σ.1 65) nk (nI s) := by rw [hσ2, xp_other (by decide), xp_other (by decide), xp_other (by decide), xp_same, f1 65 (by decide) (by decide) (by decide) (by decide)]
            have g66 : σ2.1 66 = upd (σ.1 66) nk (nI d) := by rw [hσ2, xp_other (by decide), xp_other (by decide), xp_same, xp_other (by decide), f1 66 (by decide) (by decide) (by decide) (by decide)]
            have g67 : σ2.1 67 = upd (σ.1 67) nk (nI v) := by rw [hσ2, xp_other (by decide), xp_same, xp_other (by decide), xp_other (by decide), f1 67 (by decide) (by decide) (by decide) (by decide)]
            have g49 : σ2.1 49 33 = nI (nk + 1) := by rw [hσ2, xp_same, xp_us]
            refine ⟨by omega, g45, g49, fun k hk => ?_⟩
            rw [g46, g47, g48, g65, g66, g67]
            by_cases hkn : k = nk
            · subst hkn
              simp only [xp_us, if_true]
              exact ⟨⟨trivial, trivial, hs⟩, ⟨trivial, trivial, hd⟩, trivial, trivial, by omega⟩
            · rw [xp_un hkn, xp_un hkn, xp_un hkn, xp_un hkn, xp_un hkn, xp_un hkn]
              have := k4 k (by omega)
              simpa [hkn] using this
        · have h15' : nk = 15 := by omega
          subst h15'
          refine ⟨-1000000004, σ, σ, ?_, ?_, ⟨t, a, hI⟩⟩
          · unfold xf_X10_write xf_X2_add
            rw [xe_hasSleeper hc.2.2.1, hl, xe_hasDream hc.1, hl2, xe_rng (a := nI v) (n := 9) (k := 9) (by omega) rfl, hl3, k2]
            simp only [bI_t, Option.bind_some, show ¬ nI 1 = 0 from by decide, if_false, show ¬ nI 15 < 15 from by decide, if_true]
          · show xf_X11_write _ _ _ _ = _
            unfold xf_X11_write
            rw [xe_isSleeper hm.2.2.1 (by omega), hl, xe_isDream hm.1 (by omega), hl2, xe_inK (a := nI v) (n := 9) (lo := 0) (hi := 9) σ (by omega) rfl rfl, hl3, k3]
            simp only [bI_t, Option.bind_some, show ¬ nI 1 = 0 from by decide, if_false, show (nI 15 = 15) from rfl, if_true]

theorem xs_find_nx {p : Nat → Bool} {n : Nat} (h : xs_find p n = none) (hp : p n = false) : xs_find p (n + 1) = none := by
  simp only [xs_find, h, hp]
  rfl
theorem xe_firstWrong {σ : xr_S} {w : Nat → Nat → Nat} {n : Nat} {f g h : Nat → Nat} (hW : xq_W σ 17 w) (hn : σ.1 45 0 = nI n) (hn15 : n ≤ 15) (hk : ∀ k, k < n → σ.1 46 k = nI (f k) ∧ f k < 6 ∧ σ.1 47 k = nI (g k) ∧ g k < 5 ∧ σ.1 48 k = nI (h k) ∧ h k ≤ 9) : xf_X2_firstWrong σ = some (oI (xs_find (fun k => decide (w (f k) (g k) ≠ h k)) n)) := by
  unfold xf_X2_firstWrong
  refine xp_inv (Q := fun o => o = some (oI (xs_find (fun k => decide (w (f k) (g k) ≠ h k)) n))) (fun j t => t = nI j ∧ xs_find (fun k => decide (w (f k) (g k) ≠ h k)) j = none) n (fun j t hj hI => ?_) (fun t hI => ?_) 0 _ (by omega) ⟨rfl, rfl⟩
  · obtain ⟨rfl, hnone⟩ := hI
    obtain ⟨k1, k2, k3, k4, k5, k6⟩ := hk j hj
    have e1 := xe_of (c := 16) hW k2 k4
    have b1 := hW.2 (f j) (g j)
    by_cases hp : w (f j) (g j) = h j
    · right
      refine ⟨nI (j + 1), ⟨rfl, xs_find_nx hnone (by simpa using hp)⟩, fun rec => ?_⟩
      simp (disch := omega) only [xf_X2_firstWrong_L2, hn, ↓xp_n1, ↓reduceIte, xp_oIs, xp_v, xp_jn, xp_pf, xp_ld, xp_st, xp_le, xp_lt, xp_eq, nI_add, pk_mul, if_pos, if_neg, xp_same, xp_other, xp_us, xp_un, ne_eq, not_false_eq_true, Option.bind_some, Option.bind, xl_0, xl_1, xl_2, xl_3, xl_4, xl_5, xl_6, xl_7, xl_8, xl_9, xl_10, xl_11, xl_12, xl_13, xl_15, xl_16, xl_30, xl_31, xl_32, xl_37, xl_40, xl_44, xl_48, xl_50, xl_51, xl_52, xl_53, xl_54, xl_55, xl_57, xl_59, xl_63, xl_64, xl_99, xl_100, xl_108, xl_110, xl_115, xl_200, xl_201, xl_220, xl_240, xl_255, xl_512, xl_65536, xl_90000, xl_999999, xl_1000000, k1, k3, k5, e1, hp]
    · left
      refine ⟨some (nI j), fun rec => ?_, ?_⟩
      · simp (disch := omega) only [xf_X2_firstWrong_L2, hn, ↓xp_n1, ↓reduceIte, xp_oIs, xp_v, xp_jn, xp_pf, xp_ld, xp_st, xp_le, xp_lt, xp_eq, nI_add, pk_mul, if_pos, if_neg, xp_same, xp_other, xp_us, xp_un, ne_eq, not_false_eq_true, Option.bind_some, Option.bind, xl_0, xl_1, xl_2, xl_3, xl_4, xl_5, xl_6, xl_7, xl_8, xl_9, xl_10, xl_11, xl_12, xl_13, xl_15, xl_16, xl_30, xl_31, xl_32, xl_37, xl_40, xl_44, xl_48, xl_50, xl_51, xl_52, xl_53, xl_54, xl_55, xl_57, xl_59, xl_63, xl_64, xl_99, xl_100, xl_108, xl_110, xl_115, xl_200, xl_201, xl_220, xl_240, xl_255, xl_512, xl_65536, xl_90000, xl_999999, xl_1000000, k1, k3, k5, e1]
      · rw [xs_find_some.mpr ⟨hj, by simpa using hp, fun i hi => xs_find_none.mp hnone i hi⟩]; rfl
  · obtain ⟨rfl, hnone⟩ := hI
    refine ⟨some (-1), fun rec => ?_, by rw [hnone]; rfl⟩
    simp (disch := omega) only [xf_X2_firstWrong_L2, hn, ↓xp_n1, ↓reduceIte, xp_oIs, xp_v, xp_jn, xp_pf, xp_ld, xp_st, xp_le, xp_lt, xp_eq, nI_add, pk_mul, if_pos, if_neg, xp_same, xp_other, xp_us, xp_un, ne_eq, not_false_eq_true, Option.bind_some, Option.bind, xl_0, xl_1, xl_2, xl_3, xl_4, xl_5, xl_6, xl_7, xl_8, xl_9, xl_10, xl_11, xl_12, xl_13, xl_15, xl_16, xl_30, xl_31, xl_32, xl_37, xl_40, xl_44, xl_48, xl_50, xl_51, xl_52, xl_53, xl_54, xl_55, xl_57, xl_59, xl_63, xl_64, xl_99, xl_100, xl_108, xl_110, xl_115, xl_200, xl_201, xl_220, xl_240, xl_255, xl_512, xl_65536, xl_90000, xl_999999, xl_1000000]
theorem xe_judge {σ : xr_S} {w : Nat → Nat → Nat} {n : Nat} {f g h : Nat → Nat} (hW : xq_V σ 0 w) (hn : σ.1 49 33 = nI n) (hn15 : n ≤ 15) (hk : ∀ k, k < n → σ.1 65 k = nI (f k) ∧ f k < 6 ∧ σ.1 66 k = nI (g k) ∧ g k < 5 ∧ σ.1 67 k = nI (h k) ∧ h k ≤ 9) : xf_X11_judge σ = some (oI (xs_find (fun k => decide (w (f k) (g k) ≠ h k)) n)) := by
  unfold xf_X11_judge
  refine xp_inv (Q := fun o => o = some (oI (xs_find (fun k => decide (w (f k) (g k) ≠ h k)) n))) (fun j t => t = nI j ∧ xs_find (fun k => decide (w (f k) (g k) ≠ h k)) j = none) n (fun j t hj hI => ?_) (fun t hI => ?_) 0 _ (by omega) ⟨rfl, rfl⟩
  · obtain ⟨rfl, hnone⟩ := hI
    obtain ⟨k1, k2, k3, k4, k5, k6⟩ := hk j hj
    have e1 := xe_weightOf hW (by omega) k2 k4
    have b1 := hW.2 (f j) (g j)
    by_cases hp : w (f j) (g j) = h j
    · right
      refine ⟨nI (j + 1), ⟨rfl, xs_find_nx hnone (by simpa using hp)⟩, fun rec => ?_⟩
      simp (disch := omega) only [xf_X11_judge_L2, hn, ↓xp_n1, ↓reduceIte, xp_oIs, xp_v, xp_jn, xp_pf, xp_ld, xp_st, xp_le, xp_lt, xp_eq, nI_add, pk_mul, if_pos, if_neg, xp_same, xp_other, xp_us, xp_un, ne_eq, not_false_eq_true, Option.bind_some, Option.bind, xl_0, xl_1, xl_2, xl_3, xl_4, xl_5, xl_6, xl_7, xl_8, xl_9, xl_10, xl_11, xl_12, xl_13, xl_15, xl_16, xl_30, xl_31, xl_32, xl_37, xl_40, xl_44, xl_48, xl_50, xl_51, xl_52, xl_53, xl_54, xl_55, xl_57, xl_59, xl_63, xl_64, xl_99, xl_100, xl_108, xl_110, xl_115, xl_200, xl_201, xl_220, xl_240, xl_255, xl_512, xl_65536, xl_90000, xl_999999, xl_1000000, k1, k3, k5, e1, hp]
    · left
      refine ⟨some (nI j), fun rec => ?_, ?_⟩
      · simp (disch := omega) only [xf_X11_judge_L2, hn, ↓xp_n1, ↓reduceIte, xp_oIs, xp_v, xp_jn, xp_pf, xp_ld, xp_st, xp_le, xp_lt, xp_eq, nI_add, pk_mul, if_pos, if_neg, xp_same, xp_other, xp_us, xp_un, ne_eq, not_false_eq_true, Option.bind_some, Option.bind, xl_0, xl_1, xl_2, xl_3, xl_4, xl_5, xl_6, xl_7, xl_8, xl_9, xl_10, xl_11, xl_12, xl_13, xl_15, xl_16, xl_30, xl_31, xl_32, xl_37, xl_40, xl_44, xl_48, xl_50, xl_51, xl_52, xl_53, xl_54, xl_55, xl_57, xl_59, xl_63, xl_64, xl_99, xl_100, xl_108, xl_110, xl_115, xl_200, xl_201, xl_220, xl_240, xl_255, xl_512, xl_65536, xl_90000, xl_999999, xl_1000000, k1, k3, k5, e1]
      · rw [xs_find_some.mpr ⟨hj, by simpa using hp, fun i hi => xs_find_none.mp hnone i hi⟩]; rfl
  · obtain ⟨rfl, hnone⟩ := hI
    refine ⟨some (-1), fun rec => ?_, by rw [hnone]; rfl⟩
    simp (disch := omega) only [xf_X11_judge_L2, hn, ↓xp_n1, ↓reduceIte, xp_oIs, xp_v, xp_jn, xp_pf, xp_ld, xp_st, xp_le, xp_lt, xp_eq, nI_add, pk_mul, if_pos, if_neg, xp_same, xp_other, xp_us, xp_un, ne_eq, not_false_eq_true, Option.bind_some, Option.bind, xl_0, xl_1, xl_2, xl_3, xl_4, xl_5, xl_6, xl_7, xl_8, xl_9, xl_10, xl_11, xl_12, xl_13, xl_15, xl_16, xl_30, xl_31, xl_32, xl_37, xl_40, xl_44, xl_48, xl_50, xl_51, xl_52, xl_53, xl_54, xl_55, xl_57, xl_59, xl_63, xl_64, xl_99, xl_100, xl_108, xl_110, xl_115, xl_200, xl_201, xl_220, xl_240, xl_255, xl_512, xl_65536, xl_90000, xl_999999, xl_1000000]
theorem xy_judge {σ : xr_S} (h : xi σ) : ∃ r, xf_X10_judge σ = some r ∧ xf_X11_judge σ = some r := by
  obtain ⟨t, a, hT, hA, hc, hm, hC, hM, -, -, -, ⟨nk, fk, gk, kk, hK⟩, -⟩ := h
  obtain ⟨n1, n2, n3, n4, n5, n6, n7⟩ := id hT
  obtain ⟨k1, k2, k3, k4⟩ := hK
  refine ⟨_, ?_, xe_judge (f := fk) (g := gk) (h := kk) (xi_V hA hM) k3 k1 (fun k hk => ?_)⟩
  · unfold xf_X10_judge
    rw [xe_firstWrong (f := fk) (g := gk) (h := kk) (xi_W hA hC) k2 k1 (fun k hk => ?_)]
    · rfl
    · obtain ⟨⟨x1, x2, x3⟩, ⟨y1, y2, y3⟩, z1, z2, z3⟩ := k4 k hk
      exact ⟨x1, by omega, y1, by omega, z1, z3⟩
  · obtain ⟨⟨x1, x2, x3⟩, ⟨y1, y2, y3⟩, z1, z2, z3⟩ := k4 k hk
    exact ⟨x2, by omega, y2, by omega, z2, z3⟩
theorem xy_feed {σ : xr_S} (h : xi σ) (x : Int32) : xi_ok σ (xf_X10_feed σ x) (fun τ => xf_X11_feed τ x) := by
  obtain ⟨t, a, hI⟩ := h
  obtain ⟨-, -, -, -, -, -, ⟨n, tx, hX⟩, -⟩ := id hI
  obtain ⟨x1, x2, x3, x4⟩ := hX
  cases hl : xs_inr x 256 with
  | false =>
    refine ⟨-1000000002, σ, σ, ?_, ?_, ⟨t, a, hI⟩⟩
    · unfold xf_X10_feed; rw [xe_rng (a := x) (n := 255) (k := 255) (by omega) rfl, hl]; rfl
    · show xf_X11_feed _ _ = _
      unfold xf_X11_feed; rw [xe_inK (a := x) (n := 255) (lo := 0) (hi := 255) σ (by omega) rfl rfl, hl]; rfl
  | true =>
    obtain ⟨v, hv, rfl⟩ := xs_inr_t (by omega) hl
    by_cases h240 : n < 240
    · obtain ⟨σ1, hσ1⟩ : ∃ τ, τ = xr_up (xr_up σ 2 n (nI v)) 1 0 (nI (n + 1)) := ⟨_, rfl⟩
      obtain ⟨σ2, hσ2⟩ : ∃ τ, τ = xr_up (xr_up σ1 55 n (nI v)) 49 11 (nI (n + 1)) := ⟨_, rfl⟩
      have f1 : ∀ c, c ≠ 1 → c ≠ 2 → σ1.1 c = σ.1 c := fun c c1 c2 => by rw [hσ1, xp_other c1, xp_other c2]
      have f2 : ∀ c, c ≠ 49 → c ≠ 55 → σ2.1 c = σ1.1 c := fun c c1 c2 => by rw [hσ2, xp_other c1, xp_other c2]
      have f3 : ∀ k, k ≠ 11 → σ2.1 49 k = σ.1 49 k := fun k hk => by rw [hσ2, xp_same, xp_un hk, xp_other (by decide), f1 49 (by decide) (by decide)]
      refine ⟨nI (n + 1), σ1, σ2, ?_, ?_, xi_ofI (xi_tx (n := n + 1) (f := fun k => if k = n then v else tx k) hI (fun c c1 c2 c3 c4 => (f2 c c3 c4).trans (f1 c c1 c2)) f3 ⟨by omega, ?_, ?_, fun k hk => ?_⟩)⟩
      · unfold xf_X10_feed xf_X6_add
        rw [xe_rng (a := nI v) (n := 255) (k := 255) (by omega) rfl, hl, x2]
        simp (disch := omega) only [↓xp_n1, ↓reduceIte, xp_oIs, xp_v, xp_jn, xp_pf, xp_ld, xp_st, xp_le, xp_lt, xp_eq, nI_add, pk_mul, if_pos, if_neg, xp_same, xp_other, xp_us, xp_un, ne_eq, not_false_eq_true, Option.bind_some, Option.bind, xl_0, xl_1, xl_2, xl_3, xl_4, xl_5, xl_6, xl_7, xl_8, xl_9, xl_10, xl_11, xl_12, xl_13, xl_15, xl_16, xl_30, xl_31, xl_32, xl_37, xl_40, xl_44, xl_48, xl_50, xl_51, xl_52, xl_53, xl_54, xl_55, xl_57, xl_59, xl_63, xl_64, xl_99, xl_100, xl_108, xl_110, xl_115, xl_200, xl_201, xl_220, xl_240, xl_255, xl_512, xl_65536, xl_90000, xl_999999, xl_1000000, if_true, x2]
        rw [hσ1]
      · show xf_X11_feed _ _ = _
        unfold xf_X11_feed
        have e49 : ∀ k, σ1.1 49 k = σ.1 49 k := fun k => by rw [f1 49 (by decide) (by decide)]
        rw [xe_inK (a := nI v) (n := 255) (lo := 0) (hi := 255) σ1 (by omega) rfl rfl, hl]
        simp (disch := omega) only [bI_t, ↓xp_n1, ↓reduceIte, xp_oIs, xp_v, xp_jn, xp_pf, xp_ld, xp_st, xp_le, xp_lt, xp_eq, nI_add, pk_mul, if_pos, if_neg, xp_same, xp_other, xp_us, xp_un, ne_eq, not_false_eq_true, Option.bind_some, Option.bind, xl_0, xl_1, xl_2, xl_3, xl_4, xl_5, xl_6, xl_7, xl_8, xl_9, xl_10, xl_11, xl_12, xl_13, xl_15, xl_16, xl_30, xl_31, xl_32, xl_37, xl_40, xl_44, xl_48, xl_50, xl_51, xl_52, xl_53, xl_54, xl_55, xl_57, xl_59, xl_63, xl_64, xl_99, xl_100, xl_108, xl_110, xl_115, xl_200, xl_201, xl_220, xl_240, xl_255, xl_512, xl_65536, xl_90000, xl_999999, xl_1000000, e49, x3]
        rw [hσ2]
      · rw [f2 1 (by decide) (by decide), hσ1, xp_same, xp_us]
      · rw [hσ2, xp_same, xp_us]
      · have g2 : σ2.1 2 = upd (σ.1 2) n (nI v) := by rw [f2 2 (by decide) (by decide), hσ1, xp_other (by decide), xp_same]
        have g55 : σ2.1 55 = upd (σ.1 55) n (nI v) := by rw [hσ2, xp_other (by decide), xp_same, f1 55 (by decide) (by decide)]
        rw [g2, g55]
        by_cases hkn : k = n
        · subst hkn
          simp only [xp_us, if_true]
          exact ⟨trivial, trivial, by omega⟩
        · rw [xp_un hkn, xp_un hkn]
          have := x4 k (by omega)
          simpa [hkn] using this
    · have h240' : n = 240 := by omega
      subst h240'
      refine ⟨-1000000004, σ, σ, ?_, ?_, ⟨t, a, hI⟩⟩
      · unfold xf_X10_feed xf_X6_add
        rw [xe_rng (a := nI v) (n := 255) (k := 255) (by omega) rfl, hl, x2]
        simp only [Option.bind_some, show ¬ nI 240 < 240 from by decide, if_false, if_true]
      · show xf_X11_feed _ _ = _
        unfold xf_X11_feed
        rw [xe_inK (a := nI v) (n := 255) (lo := 0) (hi := 255) σ (by omega) rfl rfl, hl, x3]
        simp only [bI_t, Option.bind_some, show ¬ nI 1 = 0 from by decide, if_false, show (nI 240 = 240) from rfl, if_true]
