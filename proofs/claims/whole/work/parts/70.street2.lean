/-! street: the call -/
theorem xe_told {σ : xr_S} : ∃ τ, xf_X7_become σ = some τ ∧ (∀ k, k < 5 → τ.1 9 k = σ.1 3 k) ∧ (∀ i, i < 30 → τ.1 11 i = σ.1 5 i) ∧ (∀ l, l < 7 → τ.1 12 l = σ.1 6 l ∧ τ.1 13 l = σ.1 7 l ∧ τ.1 14 l = σ.1 8 l) ∧ ∀ c, c ≠ 9 → c ≠ 11 → c ≠ 12 → c ≠ 13 → c ≠ 14 → τ.1 c = σ.1 c := by
  obtain ⟨s5, h5⟩ : ∃ s5, s5 = xr_up (xr_up (xr_up (xr_up (xr_up σ 9 0 (σ.1 3 0)) 9 1 (σ.1 3 1)) 9 2 (σ.1 3 2)) 9 3 (σ.1 3 3)) 9 4 (σ.1 3 4) := ⟨_, rfl⟩
  have g5 : ∀ c, c ≠ 9 → s5.1 c = σ.1 c := fun c h => by rw [h5, xp_other h, xp_other h, xp_other h, xp_other h, xp_other h]
  have g59 : ∀ k, k < 5 → s5.1 9 k = σ.1 3 k := fun k hk => by
    rw [h5, xp_same]
    by_cases h4 : k = 4
    · rw [h4, xp_us]
    · rw [xp_un h4, xp_same]
      by_cases h3 : k = 3
      · rw [h3, xp_us]
      · rw [xp_un h3, xp_same]
        by_cases h2 : k = 2
        · rw [h2, xp_us]
        · rw [xp_un h2, xp_same]
          by_cases h1 : k = 1
          · rw [h1, xp_us]
          · rw [xp_un h1, xp_same, show k = 0 by omega, xp_us]
  obtain ⟨s6, h6⟩ : ∃ s6, s6 = xr_upF s5 11 (va_cpy (s5.1 5) (s5.1 11) 0 0 30) := ⟨_, rfl⟩
  obtain ⟨s7, h7⟩ : ∃ s7, s7 = xr_upF s6 12 (va_cpy (s6.1 6) (s6.1 12) 0 0 7) := ⟨_, rfl⟩
  obtain ⟨s8, h8⟩ : ∃ s8, s8 = xr_upF s7 13 (va_cpy (s7.1 7) (s7.1 13) 0 0 7) := ⟨_, rfl⟩
  obtain ⟨s9, h9⟩ : ∃ s9, s9 = xr_upF s8 14 (va_cpy (s8.1 8) (s8.1 14) 0 0 7) := ⟨_, rfl⟩
  have g6 : ∀ c, c ≠ 11 → s6.1 c = s5.1 c := fun c h => by rw [h6, xp_otherF h]
  have g7 : ∀ c, c ≠ 12 → s7.1 c = s6.1 c := fun c h => by rw [h7, xp_otherF h]
  have g8 : ∀ c, c ≠ 13 → s8.1 c = s7.1 c := fun c h => by rw [h8, xp_otherF h]
  have g9 : ∀ c, c ≠ 14 → s9.1 c = s8.1 c := fun c h => by rw [h9, xp_otherF h]
  refine ⟨s9, ?_, fun k hk => ?_, fun i hi => ?_, fun l hl => ⟨?_, ?_, ?_⟩, fun c a b d e f => by rw [g9 c f, g8 c e, g7 c d, g6 c b, g5 c a]⟩
  · unfold xf_X7_become xf_X9_become
    simp only [xp_pf]
    have q1 : (xr_up σ 9 0 (σ.1 3 0)).1 3 = σ.1 3 := xp_other (by decide)
    have q2 : (xr_up (xr_up σ 9 0 (σ.1 3 0)) 9 1 (σ.1 3 1)).1 3 = σ.1 3 := by rw [xp_other (by decide), xp_other (by decide)]
    have q3 : (xr_up (xr_up (xr_up σ 9 0 (σ.1 3 0)) 9 1 (σ.1 3 1)) 9 2 (σ.1 3 2)).1 3 = σ.1 3 := by rw [xp_other (by decide), xp_other (by decide), xp_other (by decide)]
    have q4 : (xr_up (xr_up (xr_up (xr_up σ 9 0 (σ.1 3 0)) 9 1 (σ.1 3 1)) 9 2 (σ.1 3 2)) 9 3 (σ.1 3 3)).1 3 = σ.1 3 := by rw [xp_other (by decide), xp_other (by decide), xp_other (by decide), xp_other (by decide)]
    rw [q1, q2, q3, q4, ← h5, xp_cp (n := 30) (m := 30) (by decide) rfl, Option.bind_some, xp_cp (n := 7) (m := 7) (by decide) rfl, xp_cp (n := 7) (m := 7) (by decide) rfl, xp_cp (n := 7) (m := 7) (by decide) rfl]
    have q6 : xr_upF s5 (10 + 1) (va_cpy (s5.1 (4 + 1)) (s5.1 (10 + 1)) 0 0 30) = s6 := h6.symm
    rw [q6, ← h7, ← h8, ← h9]
  · rw [g9 9 (by decide), g8 9 (by decide), g7 9 (by decide), g6 9 (by decide), g59 k hk]
  · rw [g9 11 (by decide), g8 11 (by decide), g7 11 (by decide), h6, xp_sameF, xp_cpy hi, g5 5 (by decide)]
  · rw [g9 12 (by decide), g8 12 (by decide), h7, xp_sameF, xp_cpy hl, g6 6 (by decide), g5 6 (by decide)]
  · rw [g9 13 (by decide), h8, xp_sameF, xp_cpy hl, g7 7 (by decide), g6 7 (by decide), g5 7 (by decide)]
  · rw [h9, xp_sameF, xp_cpy hl, g8 8 (by decide), g7 8 (by decide), g6 8 (by decide), g5 8 (by decide)]
theorem xe_begin {σ : xr_S} : ∃ τ, xf_X5_begin σ = some τ ∧ (∀ i, i < 30 → τ.1 17 i = σ.1 11 i) ∧ (∀ l, l < 7 → τ.1 18 l = -1 ∧ τ.1 19 l = -1) ∧ τ.1 15 3 = 0 ∧ τ.1 15 4 = 0 ∧ τ.1 15 5 = 0 ∧ τ.1 15 6 = 0 ∧ τ.1 15 7 = σ.1 15 7 ∧ ∀ c, c ≠ 15 → c ≠ 17 → c ≠ 18 → c ≠ 19 → τ.1 c = σ.1 c := by
  obtain ⟨s1, h1⟩ : ∃ s1, s1 = xr_upF σ 17 (va_cpy (σ.1 11) (σ.1 17) 0 0 30) := ⟨_, rfl⟩
  obtain ⟨s2, h2⟩ : ∃ s2, s2 = xr_upF s1 18 (fun k => if k < 7 then (-1 : Int32) else s1.1 18 k) := ⟨_, rfl⟩
  obtain ⟨s3, h3⟩ : ∃ s3, s3 = xr_upF s2 19 (fun k => if k < 7 then (-1 : Int32) else s2.1 19 k) := ⟨_, rfl⟩
  have g1 : ∀ c, c ≠ 17 → s1.1 c = σ.1 c := fun c h => by rw [h1, xp_otherF h]
  have g2 : ∀ c, c ≠ 18 → s2.1 c = s1.1 c := fun c h => by rw [h2, xp_otherF h]
  have g3 : ∀ c, c ≠ 19 → s3.1 c = s2.1 c := fun c h => by rw [h3, xp_otherF h]
  obtain ⟨s7, h7⟩ : ∃ s7, s7 = xr_up (xr_up (xr_up (xr_up s3 15 3 0) 15 4 0) 15 5 0) 15 6 0 := ⟨_, rfl⟩
  have g7 : ∀ c, c ≠ 15 → s7.1 c = s3.1 c := fun c h => by rw [h7, xp_other h, xp_other h, xp_other h, xp_other h]
  refine ⟨s7, ?_, fun i hi => ?_, fun l hl => ⟨?_, ?_⟩, ?_, ?_, ?_, ?_, ?_, fun c a b d e => by rw [g7 c a, g3 c e, g2 c d, g1 c b]⟩
  · unfold xf_X5_begin xf_X9_become
    rw [xp_cp (n := 30) (m := 30) (by decide) rfl, Option.bind_some]
    have q1 : xr_upF σ (16 + 1) (va_cpy (σ.1 (10 + 1)) (σ.1 (16 + 1)) 0 0 30) = s1 := h1.symm
    rw [q1, xe_fill (n := 7) (by decide), Option.bind_some, ← h2, xe_fill (n := 7) (by decide), Option.bind_some, ← h3]
    simp only [xp_pf]
    rw [← h7]
  · rw [g7 17 (by decide), g3 17 (by decide), g2 17 (by decide), h1, xp_sameF, xp_cpy hi]
  · rw [g7 18 (by decide), g3 18 (by decide), h2, xp_sameF, if_pos hl]
  · rw [g7 19 (by decide), h3, xp_sameF, if_pos hl]
  · rw [h7, xp_same, xp_un (by decide), xp_same, xp_un (by decide), xp_same, xp_un (by decide), xp_same, xp_us]
  · rw [h7, xp_same, xp_un (by decide), xp_same, xp_un (by decide), xp_same, xp_us]
  · rw [h7, xp_same, xp_un (by decide), xp_same, xp_us]
  · rw [h7, xp_same, xp_us]
  · rw [h7, xp_same, xp_un (by decide), xp_same, xp_un (by decide), xp_same, xp_un (by decide), xp_same, xp_un (by decide), g3 15 (by decide), g2 15 (by decide), g1 15 (by decide)]
theorem xi_txt {σ τ : xr_S} {t : xa_T} {a : xa_A} (h : xi_I σ t a) (hf : ∀ c, 8 < c → c ≠ 49 → c ≠ 56 → c ≠ 57 → τ.1 c = σ.1 c) (h0 : τ.1 0 10 = σ.1 0 10) (h49 : ∀ k, (k < 11 ∨ 22 < k) → τ.1 49 k = σ.1 49 k) (h1 : τ.1 1 0 = 0) (h11 : τ.1 49 11 = 0) (hF : τ.1 0 11 = τ.1 49 16) : xi τ := by
  obtain ⟨h1', h2, h3, h4, h5, h6, -, -, ⟨n9, f9, h9⟩, ⟨n10, f10, g10, k10, h10⟩, n11, h11'⟩ := h
  have e : ∀ c, 8 < c → c ≠ 49 → c ≠ 56 → c ≠ 57 → τ.1 c = σ.1 c := hf
  have q50 : τ.1 50 = σ.1 50 := e 50 (by omega) (by omega) (by omega) (by omega)
  refine ⟨t, a, h1', h2, xi_Tc_fr h3 (fun c hc => e c (by omega) (by omega) (by omega) (by omega)), ?_, xi_C_fr h5 (e _ (by omega) (by omega) (by omega) (by omega)) (e _ (by omega) (by omega) (by omega) (by omega)) (e _ (by omega) (by omega) (by omega) (by omega)) (e _ (by omega) (by omega) (by omega) (by omega)), xi_M_fr h6 q50, ⟨0, fun _ => 0, Nat.zero_le _, h1, h11, fun k hk => absurd hk (Nat.not_lt_zero k)⟩, hF, ⟨n9, f9, ?_⟩, ⟨n10, f10, g10, k10, ?_⟩, n11, ?_⟩
  · simpa only [xi_Tm, h49 2 (by omega), h49 3 (by omega), h49 4 (by omega), h49 5 (by omega), h49 6 (by omega), e 52 (by omega) (by omega) (by omega) (by omega), e 53 (by omega) (by omega) (by omega) (by omega), e 54 (by omega) (by omega) (by omega) (by omega)] using h4
  · simpa only [xi_B, e 39 (by omega) (by omega) (by omega) (by omega), e 40 (by omega) (by omega) (by omega) (by omega), h49 28 (by omega), e 61 (by omega) (by omega) (by omega) (by omega)] using h9
  · simpa only [xi_K, e 45 (by omega) (by omega) (by omega) (by omega), e 46 (by omega) (by omega) (by omega) (by omega), e 47 (by omega) (by omega) (by omega) (by omega), e 48 (by omega) (by omega) (by omega) (by omega), h49 33 (by omega), e 65 (by omega) (by omega) (by omega) (by omega), e 66 (by omega) (by omega) (by omega) (by omega), e 67 (by omega) (by omega) (by omega) (by omega)] using h10
  · obtain ⟨i1, i2, i3⟩ := h11'
    refine ⟨i1, by rw [h0]; exact i2, fun i hi => ?_⟩
    obtain ⟨j1, j2⟩ := i3 i hi
    refine ⟨by rw [e 51 (by omega) (by omega) (by omega) (by omega)]; exact j1, fun hb => ?_⟩
    obtain ⟨x, x1, x2, x3⟩ := j2 hb
    have hr : 21 ≤ xr_img i ∧ xr_img i ≤ 26 := by unfold xr_img; split <;> omega
    exact ⟨x, x1, xi_C_fr x2 (e _ (by omega) (by omega) (by omega) (by omega)) (e _ (by omega) (by omega) (by omega) (by omega)) (e _ (by omega) (by omega) (by omega) (by omega)) (e _ (by omega) (by omega) (by omega) (by omega)), xi_M_fr x3 q50⟩
theorem xe_streetM0 {σ : xr_S} {n : Nat} {tx : Nat → Nat} (hX : mX σ n tx) : ∃ v τ, (∀ G : (Int32 × xr_S) → Option (Int32 × xr_S), xr_pf σ 49 12 0 (fun s1 => xr_pf s1 49 15 0 (fun s2 => xr_pf s2 49 16 (-1) (fun s3 => xr_pf s3 49 17 0 (fun s4 => xr_pf s4 49 18 0 (fun s5 => xr_pf s5 49 19 0 (fun s6 => xr_pf s6 49 20 0 (fun s7 => xr_pf s7 49 21 0 (fun s8 => xr_pf s8 49 22 0 (fun s9 => xr_lw (xf_X11_street_L47 G) (1, s9)))))))))) = G (v, τ)) ∧ (∀ c, c ≠ 49 → c ≠ 56 → c ≠ 57 → τ.1 c = σ.1 c) ∧ (∀ k, (k < 12 ∨ 22 < k) → τ.1 49 k = σ.1 49 k) ∧ mQ (xs_prs n tx 241 xs_p0) v τ := by
  obtain ⟨s9, h9⟩ : ∃ s9, s9 = xr_up (xr_up (xr_up (xr_up (xr_up (xr_up (xr_up (xr_up (xr_up σ 49 12 0) 49 15 0) 49 16 (-1)) 49 17 0) 49 18 0) 49 19 0) 49 20 0) 49 21 0) 49 22 0 := ⟨_, rfl⟩
  have gc : ∀ c, c ≠ 49 → s9.1 c = σ.1 c := fun c h => by rw [h9, xp_other h, xp_other h, xp_other h, xp_other h, xp_other h, xp_other h, xp_other h, xp_other h, xp_other h]
  have u49 : s9.1 49 = upd (upd (upd (upd (upd (upd (upd (upd (upd (σ.1 49) 12 0) 15 0) 16 (-1)) 17 0) 18 0) 19 0) 20 0) 21 0) 22 0 := by rw [h9]; simp only [xp_same]
  have gk : ∀ k, (k < 12 ∨ 22 < k) → s9.1 49 k = σ.1 49 k := fun k hk => by rw [u49, xp_un (by omega), xp_un (by omega), xp_un (by omega), xp_un (by omega), xp_un (by omega), xp_un (by omega), xp_un (by omega), xp_un (by omega), xp_un (by omega)]
  have X9 : mX s9 n tx := ⟨hX.1, hX.2.1, by rw [gk 11 (by omega)]; exact hX.2.2.1, fun k hk => by rw [gc 55 (by decide)]; exact hX.2.2.2 k hk⟩
  have hS9 : mS s9 xs_p0 := by
    refine ⟨?_, ?_, ?_, ?_, ?_, ?_, fun i d hi _ => absurd hi (Nat.not_lt_zero i), fun l hl => absurd hl (Nat.not_lt_zero l)⟩
    · rw [u49]; simp [upd]; rfl
    · rw [u49]; simp [upd]; rfl
    · rw [u49]; simp [upd]; rfl
    · rw [u49]; simp [upd]; rfl
    · rw [u49]; simp [upd]; rfl
    · rw [u49]; simp [upd]; rfl
  obtain ⟨v, τ, k1, k2, k3, k4⟩ := xe_parseM X9 (by rw [u49]; simp [upd]) hS9 (by rw [u49]; simp [upd])
  refine ⟨v, τ, fun G => ?_, fun c a b d => by rw [k2 c a b d, gc c a], fun k hk => by rw [k3 k hk, gk k hk], k4⟩
  simp only [xp_pf]
  rw [← h9]
  exact k1 G
theorem xy_street {σ : xr_S} (h : xi σ) : xi_ok σ (xf_X10_street σ) (fun τ => xf_X11_street τ) := by
  obtain ⟨t, a, hI⟩ := h
  obtain ⟨hT, hA, hc, hm, hC, hM, ⟨n, tx, x1, x2, x3, x4⟩, hF, -, -, -⟩ := id hI
  have hvX : vX σ n tx := ⟨x1, fun k hk => (x4 k hk).2.2, x2, fun k hk => (x4 k hk).1⟩
  have hmX : mX σ n tx := ⟨x1, fun k hk => (x4 k hk).2.2, x3, fun k hk => (x4 k hk).2.1⟩
  obtain ⟨v, τ, p1, p2, p3, p4⟩ := xe_parse hvX
  obtain ⟨s3, h3⟩ : ∃ s3, s3 = xr_up (xr_up τ 0 11 (τ.1 1 1)) 1 0 0 := ⟨_, rfl⟩
  have g3 : ∀ c, c ≠ 0 → c ≠ 1 → s3.1 c = τ.1 c := fun c a b => by rw [h3, xp_other b, xp_other a]
  have g3c : ∀ c, 8 < c → s3.1 c = σ.1 c := fun c hc => by rw [g3 c (by omega) (by omega), p3 c (by omega) (by omega) (by omega) (by omega) (by omega) (by omega)]
  have g30 : s3.1 0 10 = σ.1 0 10 := by rw [h3, xp_other (by decide), xp_same, xp_un (by decide), p3 0 (by decide) (by decide) (by decide) (by decide) (by decide) (by decide)]
  have g311 : s3.1 0 11 = τ.1 1 1 := by rw [h3, xp_other (by decide), xp_same, xp_us]
  have g310 : s3.1 1 0 = 0 := by rw [h3, xp_same, xp_us]
  have hcl : xf_X10_street σ = if v = 0 then ((xf_X7_become s3).bind (fun s4 => (xf_X5_begin s4).bind (fun s5 => xr_pf s5 39 0 0 (fun s6 => xr_pf s6 45 0 0 (fun s7 => xr_pf s7 0 10 0 (fun s8 => some ((s8.1 9 2), s8))))))) else (some (((-10) - v), s3)) := by
    unfold xf_X10_street
    rw [p1, Option.bind_some]
    dsimp only
    rw [xp_pf, xp_pf, ← h3]
  cases hR : xs_prs n tx 241 xs_p0 with
  | error e =>
    rw [hR] at p4
    obtain ⟨q1, q2, q3⟩ := p4
    have hv0 : ¬ v = 0 := by
      rw [q1, xl_0, xp_eq (by have := q2.2.1; omega) (by omega)]
      have := q2.1
      omega
    have hmX3 : mX s3 n tx := ⟨hmX.1, hmX.2.1, by rw [g3c 49 (by omega)]; exact hmX.2.2.1, fun k hk => by rw [g3c 55 (by omega)]; exact hmX.2.2.2 k hk⟩
    obtain ⟨v2, τ2, k1, k2, k3, k4⟩ := xe_streetM0 hmX3
    rw [hR] at k4
    obtain ⟨w1, w2, w3⟩ := k4
    obtain ⟨σ2, hσ2⟩ : ∃ σ2, σ2 = xr_up τ2 49 11 0 := ⟨_, rfl⟩
    have u2 : ∀ k, k ≠ 11 → σ2.1 49 k = τ2.1 49 k := fun k h => by rw [hσ2, xp_same, xp_un h]
    have u2c : ∀ c, c ≠ 49 → σ2.1 c = τ2.1 c := fun c h => by rw [hσ2, xp_other h]
    refine ⟨-10 - nI e.1, s3, σ2, ?_, ?_, xi_txt hI (fun c a b d e' => by rw [u2c c b, k2 c b d e', g3c c a]) (by rw [u2c 0 (by decide), k2 0 (by decide) (by decide) (by decide), g30]) (fun k hk => by rw [u2 k (by omega), k3 k (by omega), g3c 49 (by omega)]) (by rw [u2c 1 (by decide), k2 1 (by decide) (by decide) (by decide), g310]) (by rw [hσ2, xp_same, xp_us]) (by rw [u2c 0 (by decide), k2 0 (by decide) (by decide) (by decide), g311, q3, u2 16 (by decide), w3])⟩
    · rw [hcl, if_neg hv0, q1]
    · show xf_X11_street s3 = _
      unfold xf_X11_street
      rw [k1]
      dsimp only
      rw [xp_pf, if_pos w1, ← hσ2, u2 15 (by decide), w2]
  | ok s =>
    rw [hR] at p4
    obtain ⟨q1, q2, q3, q4⟩ := p4
    obtain ⟨⟨t1, t2, t3, t4, t5, t6, t7⟩, w1, w2, w3, w4⟩ := id q2
    obtain ⟨v0, v1, v2, v3, v4, v5, v6, v7⟩ := q3
    -- the class
    obtain ⟨s4, b1, b2, b3, b4, b5⟩ := xe_told (σ := s3)
    obtain ⟨s5, d1, d2, d3, d4, d5, d6, d7, d8, d9⟩ := xe_begin (σ := s4)
    obtain ⟨s8, h8⟩ : ∃ s8, s8 = xr_up (xr_up (xr_up s5 39 0 0) 45 0 0) 0 10 0 := ⟨_, rfl⟩
    have g8 : ∀ c, c ≠ 0 → c ≠ 39 → c ≠ 45 → s8.1 c = s5.1 c := fun c a b d => by rw [h8, xp_other a, xp_other d, xp_other b]
    have g5 : ∀ c, c ≠ 9 → c ≠ 11 → c ≠ 12 → c ≠ 13 → c ≠ 14 → c ≠ 15 → c ≠ 17 → c ≠ 18 → c ≠ 19 → s5.1 c = s3.1 c := fun c a1 a2 a3 a4 a5 a6 a7 a8 a9 => by rw [d9 c a6 a7 a8 a9, b5 c a1 a2 a3 a4 a5]
    have hcl2 : xf_X10_street σ = some (s8.1 9 2, s8) := by
      rw [hcl, if_pos q1, b1, Option.bind_some, d1, Option.bind_some, xp_pf, xp_pf, xp_pf, ← h8]
    have e9 : ∀ k, k < 5 → s8.1 9 k = τ.1 3 k := fun k hk => by rw [g8 9 (by decide) (by decide) (by decide), d9 9 (by decide) (by decide) (by decide) (by decide), b2 k hk, g3 3 (by decide) (by decide)]
    have e17 : ∀ i d, i < 6 → d < 5 → s8.1 17 (i * 5 + d) = nI (s.2.2.1 i d) := fun i d hi hd => by rw [g8 17 (by decide) (by decide) (by decide), d2 _ (by omega), b3 _ (by omega), g3 5 (by decide) (by decide)]; exact v5 i d hi hd
    have eL : ∀ l, l < tL s.2.1 → s8.1 12 l = nI (tE s.2.1 l) ∧ s8.1 13 l = nI (tW s.2.1 l) ∧ s8.1 14 l = nI (tV s.2.1 l) := fun l hl => by
      rw [g8 12 (by decide) (by decide) (by decide), g8 13 (by decide) (by decide) (by decide), g8 14 (by decide) (by decide) (by decide), d9 12 (by decide) (by decide) (by decide) (by decide), d9 13 (by decide) (by decide) (by decide) (by decide), d9 14 (by decide) (by decide) (by decide) (by decide), (b4 l (by omega)).1, (b4 l (by omega)).2.1, (b4 l (by omega)).2.2, g3 6 (by decide) (by decide), g3 7 (by decide) (by decide), g3 8 (by decide) (by decide)]
      exact v6 l hl
    have g8c : ∀ c, 49 ≤ c → s8.1 c = σ.1 c := fun c hc => by rw [g8 c (by omega) (by omega) (by omega), g5 c (by omega) (by omega) (by omega) (by omega) (by omega) (by omega) (by omega) (by omega) (by omega), g3c c (by omega)]
    have e157 : s8.1 15 7 = nI (qR a) := by rw [g8 15 (by decide) (by decide) (by decide), d8, b5 15 (by decide) (by decide) (by decide) (by decide) (by decide), g3c 15 (by omega)]; exact hC.2.2.2.2.2.2.2
    -- the reference
    have hmX8 : mX s8 n tx := ⟨hmX.1, hmX.2.1, by rw [g8c 49 (by omega)]; exact hmX.2.2.1, fun k hk => by rw [g8c 55 (by omega)]; exact hmX.2.2.2 k hk⟩
    obtain ⟨vm, τ2, k1, k2, k3, k4⟩ := xe_streetM0 hmX8
    rw [hR] at k4
    obtain ⟨y1, -, ⟨m0, m1, m2, m3, m4, m5, m6, m7⟩, y2⟩ := k4
    obtain ⟨r1, hr1⟩ : ∃ r1, r1 = xr_up (xr_up (xr_up (xr_up (xr_up (xr_up τ2 49 11 0) 49 2 (nI (tN s.2.1))) 49 3 (nI (tG s.2.1))) 49 4 (nI (tS s.2.1))) 49 5 (nI (tL s.2.1))) 49 6 (nI (tM s.2.1)) := ⟨_, rfl⟩
    have c1 : ∀ c, c ≠ 49 → r1.1 c = τ2.1 c := fun c h => by rw [hr1, xp_other h, xp_other h, xp_other h, xp_other h, xp_other h, xp_other h]
    have u1 : r1.1 49 = upd (upd (upd (upd (upd (upd (τ2.1 49) 11 0) 2 (nI (tN s.2.1))) 3 (nI (tG s.2.1))) 4 (nI (tS s.2.1))) 5 (nI (tL s.2.1))) 6 (nI (tM s.2.1)) := by rw [hr1]; simp only [xp_same]
    have u1k : ∀ k, 12 ≤ k → r1.1 49 k = τ2.1 49 k := fun k hk => by rw [u1, xp_un (by omega), xp_un (by omega), xp_un (by omega), xp_un (by omega), xp_un (by omega), xp_un (by omega)]
    obtain ⟨r2, z1, z2, z3, z4, z5, z6, z7, z8, z9⟩ := xe_begins (σ := r1)
    have e494 : r2.1 49 4 = nI (tS s.2.1) := by rw [z2 49 (by decide), u1]; simp [upd]
    have e492 : r2.1 49 2 = nI (tN s.2.1) := by rw [z2 49 (by decide), u1]; simp [upd]
    obtain ⟨r3, f1, f2, f3, f4⟩ := xe_copyW e494 e492 t3 t1
    have e495 : r3.1 49 5 = nI (tL s.2.1) := by rw [f3 49 (by decide), z2 49 (by decide), u1]; simp [upd]
    obtain ⟨r4, l1, l2, l3⟩ := xe_copyL e495 t4
    obtain ⟨r5, hr5⟩ : ∃ r5, r5 = xr_up (xr_up (xr_up (xr_up r4 49 28 0) 49 33 0) 51 0 0) 51 1 0 := ⟨_, rfl⟩
    have c5 : ∀ c, c ≠ 49 → c ≠ 51 → r5.1 c = r4.1 c := fun c a b => by rw [hr5, xp_other b, xp_other b, xp_other a, xp_other a]
    have u5 : r5.1 49 = upd (upd (r1.1 49) 28 0) 33 0 := by rw [hr5, xp_other (by decide), xp_other (by decide), xp_same, xp_same, l2 49 (by decide) (by decide) (by decide), f3 49 (by decide), z2 49 (by decide)]
    have c5' : ∀ c, c ≠ 49 → c ≠ 50 → c ≠ 51 → c ≠ 52 → c ≠ 53 → c ≠ 54 → c ≠ 56 → c ≠ 57 → r5.1 c = s8.1 c := fun c a1 a2 a3 a4 a5 a6 a7 a8 => by rw [c5 c a1 a3, l2 c a4 a5 a6, f3 c a2, z2 c a2, c1 c a1, k2 c a1 a7 a8]
    have r50 : ∀ k, r5.1 50 k = r3.1 50 k := fun k => by rw [c5 50 (by decide) (by decide), l2 50 (by decide) (by decide) (by decide)]
    have r50' : ∀ k, 30 ≤ k → r5.1 50 k = r2.1 50 k := fun k hk => by rw [r50, f2 k (fun i d hi hd => by omega)]
    have hans : s8.1 9 2 = nI (tS s.2.1) := by rw [e9 2 (by decide)]; exact v2
    have hs_A : xi_A s.2.1 (s.2.2.1, fun _ => none, fun _ => none, 0, 0, 0, 0, qR a) := ⟨w1, w2, w4, fun l s h => (by cases h), fun l k s h => (by cases h), fun l d h => (by cases h), Nat.two_pow_pos _, Nat.two_pow_pos _, Nat.zero_le _, hA.2.2.2.2.2.2.2.2.2⟩
    have k49 : ∀ k, k ≠ 28 → k ≠ 33 → r5.1 49 k = r1.1 49 k := fun k a b => by rw [u5, xp_un b, xp_un a]
    have r57 : r3.1 57 = τ2.1 57 := by rw [f3 57 (by decide), z2 57 (by decide), c1 57 (by decide)]
    have r56 : r2.1 56 = τ2.1 56 := by rw [z2 56 (by decide), c1 56 (by decide)]
    have seed : r1.1 50 54 = nI (qR a) := by rw [c1 50 (by decide), k2 50 (by decide) (by decide) (by decide), g8c 50 (by omega)]; exact (xi_M0 hM).2.2.2.2.2.2.2
    refine ⟨nI (tS s.2.1), s8, r5, by rw [hcl2, hans], ?_, s.2.1, (s.2.2.1, fun _ => none, fun _ => none, 0, 0, 0, 0, qR a), q2.1, hs_A, ?_, ?_, ?_, ?_, ⟨0, fun _ => 0, Nat.zero_le _, ?_, ?_, fun k hk => absurd hk (Nat.not_lt_zero k)⟩, ?_, ⟨0, fun _ => 0, Nat.zero_le _, ?_, ?_, fun k hk => absurd hk (Nat.not_lt_zero k)⟩, ⟨0, fun _ => 0, fun _ => 0, fun _ => 0, Nat.zero_le _, ?_, ?_, fun k hk => absurd hk (Nat.not_lt_zero k)⟩, 0, by decide, ?_, fun i hi => ⟨?_, fun hb => absurd hb (by simp)⟩⟩
    · show xf_X11_street s8 = _
      have e0 : ∀ (ρ : xr_S) (K : xr_S → Option (Int32 × xr_S)), xr_st ρ 51 2 0 0 K = K (xr_up ρ 51 0 0) := fun ρ K => xp_st (j := 0) (by omega) (by omega)
      have e1 : ∀ (ρ : xr_S) (K : xr_S → Option (Int32 × xr_S)), xr_st ρ 51 2 1 0 K = K (xr_up ρ 51 1 0) := fun ρ K => xp_st (j := 1) (by omega) (by omega)
      unfold xf_X11_street
      rw [k1]
      dsimp only
      rw [xp_pf, if_neg (by rw [y1]; decide)]
      simp (disch := decide) only [xp_pf, xp_same, xp_un, m0, m1, m2, m3, m4]
      rw [← hr1, z1, Option.bind_some]
      refine (f4 _).trans ((l3 _).trans ?_)
      rw [e0, e1, ← hr5, k49 4 (by decide) (by decide), u1]
      simp [upd]
    · have q9 : r5.1 9 = s8.1 9 := c5' 9 (by decide) (by decide) (by decide) (by decide) (by decide) (by decide) (by decide) (by decide)
      refine ⟨by rw [q9, e9 0 (by decide)]; exact v0, by rw [q9, e9 1 (by decide)]; exact v1, by rw [q9, e9 2 (by decide)]; exact v2, by rw [q9, e9 3 (by decide)]; exact v3, by rw [q9, e9 4 (by decide)]; exact v4, fun l hl => ?_⟩
      rw [c5' 12 (by decide) (by decide) (by decide) (by decide) (by decide) (by decide) (by decide) (by decide), c5' 13 (by decide) (by decide) (by decide) (by decide) (by decide) (by decide) (by decide) (by decide), c5' 14 (by decide) (by decide) (by decide) (by decide) (by decide) (by decide) (by decide) (by decide)]
      exact eL l hl
    · refine ⟨by rw [k49 2 (by decide) (by decide), u1]; simp [upd], by rw [k49 3 (by decide) (by decide), u1]; simp [upd], by rw [k49 4 (by decide) (by decide), u1]; simp [upd], by rw [k49 5 (by decide) (by decide), u1]; simp [upd], by rw [k49 6 (by decide) (by decide), u1]; simp [upd], fun l hl => ?_⟩
      rw [c5 52 (by decide) (by decide), c5 53 (by decide) (by decide), c5 54 (by decide) (by decide), (l1 l hl).1, (l1 l hl).2.1, (l1 l hl).2.2, r57]
      exact m7 l hl
    · have q : ∀ c, c < 49 → r5.1 c = s8.1 c := fun c hc => c5' c (by omega) (by omega) (by omega) (by omega) (by omega) (by omega) (by omega) (by omega)
      have q8 : ∀ c, c ≠ 0 → c ≠ 39 → c ≠ 45 → c < 49 → r5.1 c = s5.1 c := fun c a b d e => by rw [q c e, g8 c a b d]
      refine ⟨fun i d hi hd => by rw [q 17 (by decide)]; exact e17 i d hi hd, fun l hl => ?_, fun l hl => ?_, ?_, ?_, ?_, ?_, ?_⟩
      · rw [q8 18 (by decide) (by decide) (by decide) (by decide), (d3 l hl).1]; rfl
      · rw [q8 19 (by decide) (by decide) (by decide) (by decide), (d3 l hl).2]; rfl
      · rw [q8 15 (by decide) (by decide) (by decide) (by decide), d4]; rfl
      · rw [q8 15 (by decide) (by decide) (by decide) (by decide), d5]; rfl
      · rw [q8 15 (by decide) (by decide) (by decide) (by decide), d6]; rfl
      · rw [q8 15 (by decide) (by decide) (by decide) (by decide), d7]; rfl
      · rw [q 15 (by decide)]; exact e157
    · refine xi_M0' ⟨fun i d hi hd => ?_, fun l hl => ?_, fun l hl => ?_, fun l hl => ?_, ?_, ?_, ?_, ?_⟩
      · show r5.1 50 (5 * i + d) = nI (s.2.2.1 i d)
        rw [r50]
        by_cases hid : i < tS s.2.1 ∧ d < tN s.2.1
        · rw [f1 i d hid.1 hid.2, r56]
          exact m6 i d hid.1 hid.2
        · rw [f2 _ (fun i' d' hi' hd' => by
            intro e
            apply hid
            have : i = i' := by omega
            have : d = d' := by omega
            omega), z3 _ (by omega)]
          have hz : s.2.2.1 i d = 0 := by
            rcases Nat.lt_or_ge i (tS s.2.1) with h | h
            · exact w2 i d (by omega)
            · exact w3 i d h
          rw [hz]; rfl
      · rw [r50' _ (by omega), (z4 l hl).1]; rfl
      · rw [r50' _ (by omega), (z4 l hl).2.1]; rfl
      · rw [r50' _ (by omega), (z4 l hl).2.2]
        show (0 : Int32) = bI (Nat.testBit 0 l)
        rw [Nat.zero_testBit]; rfl
      · rw [r50' _ (by omega), z5]; rfl
      · rw [r50' _ (by omega), z6]; rfl
      · rw [r50' _ (by omega), z7]; rfl
      · rw [r50' _ (by omega), z8, seed]; rfl
    · rw [c5' 1 (by decide) (by decide) (by decide) (by decide) (by decide) (by decide) (by decide) (by decide), g8 1 (by decide) (by decide) (by decide), g5 1 (by decide) (by decide) (by decide) (by decide) (by decide) (by decide) (by decide) (by decide) (by decide), g310]; rfl
    · rw [k49 11 (by decide) (by decide), u1]; simp [upd]; rfl
    · show r5.1 0 11 = r5.1 49 16
      rw [c5' 0 (by decide) (by decide) (by decide) (by decide) (by decide) (by decide) (by decide) (by decide), k49 16 (by decide) (by decide), u1k 16 (by omega), y2, h8, xp_same, xp_un (by decide), xp_other (by decide), xp_other (by decide), g5 0 (by decide) (by decide) (by decide) (by decide) (by decide) (by decide) (by decide) (by decide) (by decide), g311, q4]
    · rw [c5' 39 (by decide) (by decide) (by decide) (by decide) (by decide) (by decide) (by decide) (by decide), h8, xp_other (by decide), xp_other (by decide), xp_same, xp_us]; rfl
    · rw [u5, xp_un (by decide), xp_us]; rfl
    · rw [c5' 45 (by decide) (by decide) (by decide) (by decide) (by decide) (by decide) (by decide) (by decide), h8, xp_other (by decide), xp_same, xp_us]; rfl
    · rw [u5, xp_us]; rfl
    · rw [c5' 0 (by decide) (by decide) (by decide) (by decide) (by decide) (by decide) (by decide) (by decide), h8, xp_same, xp_us]; rfl
    · rw [Nat.zero_testBit, hr5, xp_same]
      match i, hi with
      | 0, _ => rw [xp_un (by decide), xp_same, xp_us]; rfl
      | 1, _ => rw [xp_us]; rfl
