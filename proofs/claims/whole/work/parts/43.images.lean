/-! copies: rows become rows -/
theorem xp_cp {α : Type} {σ : xr_S} {c0 c1 n : Nat} {m : Int32} {K : xr_S → Option α} (hn : n < 2 ^ 30) (hm : m = nI n) : xr_cp σ c0 c1 n n 0 0 m K = K (xr_upF σ c1 (va_cpy (σ.1 c0) (σ.1 c1) 0 0 n)) := by
  subst hm
  have e0 : (0 : Int32).toNatClampNeg = 0 := by decide
  have e1 : (nI n).toNatClampNeg = n := nI_clamp (by omega)
  have e2 : ¬ nI n < 0 := nI_pos (by omega)
  have e3 : ¬ (0 : Int32) < 0 := by decide
  unfold xr_cp
  rw [e0, e1, if_neg]
  rintro (h | h | h | h | h)
  · exact e3 h
  · exact e3 h
  · exact e2 h
  · omega
  · omega
theorem xp_cpy {f g : Nat → Int32} {n k : Nat} (hk : k < n) : va_cpy f g 0 0 n k = f k := by
  unfold va_cpy
  rw [if_pos ⟨by omega, by omega⟩]
  simp
theorem xp_upF_id (σ : xr_S) (c : Nat) : xr_upF σ c (σ.1 c) = σ := by
  unfold xr_upF
  refine Prod.ext ?_ rfl
  funext i
  simp only [va_up]
  split
  next h => rw [h]
  next => rfl
theorem xp_upF_up (σ : xr_S) (c k : Nat) (g : Nat → Int32) (v : Int32) : xr_up (xr_upF σ c g) c k v = xr_upF σ c (upd g k v) := by
  unfold xr_up xr_upF
  refine Prod.ext ?_ rfl
  funext i
  simp only [va_up]
  split
  next h => simp
  next => rfl
theorem xe_fill {σ : xr_S} {c n : Nat} {v : Int32} (hn : n < 2 ^ 30) : xf_J7_fill_53178 σ c n v = some (xr_upF σ c (fun k => if k < n then v else σ.1 c k)) := by
  unfold xf_J7_fill_53178
  rw [xp_v]
  refine xp_iter (fun k => (nI k, xr_upF σ c (fun i => if i < k then v else σ.1 c i))) 0 n ?_ (fun j h1 h2 rec => ?_) (fun rec => ?_)
  · refine Prod.ext rfl ?_
    exact (xp_upF_id σ c).symm
  · have hq : Int32.ofNat n = nI n := rfl
    simp (disch := omega) only [xf_J7_fill_53178_L5, hq, xp_le, if_neg, xp_st, xl_1, nI_add]
    congr 2
    rw [xp_upF_up]
    congr 1
    funext i
    unfold upd
    by_cases hij : i = j
    · rw [if_pos hij, if_pos (by omega)]
    · rw [if_neg hij]
      dsimp only
      by_cases h3 : i < j
      · rw [if_pos h3, if_pos (by omega)]
      · rw [if_neg h3, if_neg (by omega)]
  · have hq : Int32.ofNat n = nI n := rfl
    simp (disch := omega) only [xf_J7_fill_53178_L5, hq, Nat.zero_add, xp_le, if_pos]
theorem xe_copy {σ : xr_S} {a b : Nat} (ha : a ≤ 165) (hb : b ≤ 165) (hd : a + 55 ≤ b ∨ b + 55 ≤ a) : xf_X11_copy σ (nI a) (nI b) = some (xr_upF σ 50 (fun k => if b ≤ k ∧ k < b + 55 then σ.1 50 (a + (k - b)) else σ.1 50 k)) := by
  unfold xf_X11_copy
  refine xp_iter (fun j => (nI j, xr_upF σ 50 (fun k => if b ≤ k ∧ k < b + j then σ.1 50 (a + (k - b)) else σ.1 50 k))) 0 55 ?_ (fun j h1 h2 rec => ?_) (fun rec => ?_)
  · refine Prod.ext rfl ?_
    have : (fun k => if b ≤ k ∧ k < b + 0 then σ.1 50 (a + (k - b)) else σ.1 50 k) = σ.1 50 := by
      funext k; rw [if_neg (by omega)]
    rw [this]
    exact (xp_upF_id σ 50).symm
  · simp (disch := omega) only [xf_X11_copy_L2, xl_55, xl_1, xp_le, if_neg, nI_add, xp_ld, xp_st]
    congr 2
    rw [xp_upF_up, xp_sameF, if_neg (by omega)]
    congr 1
    funext k
    unfold upd
    by_cases hk : k = b + j
    · rw [if_pos hk, if_pos (by omega), hk, show b + j - b = j by omega]
    · rw [if_neg hk]
      dsimp only
      by_cases h3 : b ≤ k ∧ k < b + j
      · rw [if_pos h3, if_pos (by omega)]
      · rw [if_neg h3, if_neg (by omega)]
  · simp (disch := omega) only [xf_X11_copy_L2, xl_55, Nat.zero_add, xp_le, if_pos]
theorem xi_M_cp {σ τ : xr_S} {a b : Nat} {x : xa_A} (h : xi_M σ a x) (hc : ∀ k, k < 55 → τ.1 50 (b + k) = σ.1 50 (a + k)) : xi_M τ b x := by
  obtain ⟨y1, y2, y3, y4, y5, y6, y7, y8⟩ := h
  refine ⟨fun s d hs hd => ?_, fun l hl => ?_, fun l hl => ?_, fun l hl => ?_, ?_, ?_, ?_, ?_⟩
  · rw [Nat.add_assoc, hc _ (by omega), ← Nat.add_assoc]; exact y1 s d hs hd
  · rw [hc _ (by omega)]; exact y2 l hl
  · rw [hc _ (by omega)]; exact y3 l hl
  · rw [hc _ (by omega)]; exact y4 l hl
  · rw [hc _ (by omega)]; exact y5
  · rw [hc _ (by omega)]; exact y6
  · rw [hc _ (by omega)]; exact y7
  · rw [hc _ (by omega)]; exact y8
theorem xe_become {σ : xr_S} {c c2 : Nat} {a : xa_A} (hd : c + 4 < c2 ∨ c2 + 4 < c) (h : xi_C σ c2 a) : ∃ τ, xf_X5_become σ c c2 = some τ ∧ xi_C τ c a ∧ ∀ i, i ≠ c → i ≠ c + 2 → i ≠ c + 3 → i ≠ c + 4 → τ.1 i = σ.1 i := by
  obtain ⟨p1, p2, p3, p4, p5, p6, p7, p8⟩ := h
  obtain ⟨s1, e1⟩ : ∃ τ, τ = xr_upF σ (c + 2) (va_cpy (σ.1 (c2 + 2)) (σ.1 (c + 2)) 0 0 30) := ⟨_, rfl⟩
  obtain ⟨s2, e2⟩ : ∃ τ, τ = xr_upF s1 (c + 3) (va_cpy (s1.1 (c2 + 3)) (s1.1 (c + 3)) 0 0 7) := ⟨_, rfl⟩
  obtain ⟨s3, e3⟩ : ∃ τ, τ = xr_upF s2 (c + 4) (va_cpy (s2.1 (c2 + 4)) (s2.1 (c + 4)) 0 0 7) := ⟨_, rfl⟩
  have f1 : ∀ i, i ≠ c + 2 → s1.1 i = σ.1 i := fun i hi => by rw [e1, xp_otherF hi]
  have f2 : ∀ i, i ≠ c + 3 → s2.1 i = s1.1 i := fun i hi => by rw [e2, xp_otherF hi]
  have f3 : ∀ i, i ≠ c + 4 → s3.1 i = s2.1 i := fun i hi => by rw [e3, xp_otherF hi]
  have g : ∀ i, i ≠ c + 2 → i ≠ c + 3 → i ≠ c + 4 → s3.1 i = σ.1 i := fun i h1 h2 h3 => by rw [f3 i h3, f2 i h2, f1 i h1]
  have gc := g c2 (by omega) (by omega) (by omega)
  refine ⟨xr_up (xr_up (xr_up (xr_up (xr_up s3 c 3 (nI (qS a))) c 4 (nI (qA a))) c 5 (qN a)) c 6 (nI (qE a))) c 7 (nI (qR a)), ?_, ⟨fun s d hs hd => ?_, fun l hl => ?_, fun l hl => ?_, ?_, ?_, ?_, ?_, ?_⟩, fun i h1 h2 h3 h4 => ?_⟩
  · unfold xf_X5_become xf_X9_become
    rw [xp_cp (n := 30) (m := 30) (by decide) rfl, Option.bind_some, xp_cp (n := 7) (m := 7) (by decide) rfl, xp_cp (n := 7) (m := 7) (by decide) rfl]
    simp only [xp_pf]
    have q1 : xr_upF σ (c + 1 + 1) (va_cpy (σ.1 (c2 + 1 + 1)) (σ.1 (c + 1 + 1)) 0 0 30) = s1 := e1.symm
    rw [q1, ← e2, ← e3]
    have hne : c2 ≠ c := by omega
    rw [gc]
    simp only [xp_other hne, gc, p4, p5, p6, p7, p8]
  · have hne : c + 2 ≠ c := by omega
    rw [xp_other hne, xp_other hne, xp_other hne, xp_other hne, xp_other hne, f3 _ (by omega), f2 _ (by omega), e1, xp_sameF, xp_cpy (by omega)]
    exact p1 s d hs hd
  · have hne : c + 3 ≠ c := by omega
    rw [xp_other hne, xp_other hne, xp_other hne, xp_other hne, xp_other hne, f3 _ (by omega), e2, xp_sameF, xp_cpy (by omega), f1 _ (by omega)]
    exact p2 l hl
  · have hne : c + 4 ≠ c := by omega
    rw [xp_other hne, xp_other hne, xp_other hne, xp_other hne, xp_other hne, e3, xp_sameF, xp_cpy (by omega), f2 _ (by omega), f1 _ (by omega)]
    exact p3 l hl
  · rw [xp_same, xp_un (by decide), xp_same, xp_un (by decide), xp_same, xp_un (by decide), xp_same, xp_un (by decide), xp_same, xp_us]
  · rw [xp_same, xp_un (by decide), xp_same, xp_un (by decide), xp_same, xp_un (by decide), xp_same, xp_us]
  · rw [xp_same, xp_un (by decide), xp_same, xp_un (by decide), xp_same, xp_us]
  · rw [xp_same, xp_un (by decide), xp_same, xp_us]
  · rw [xp_same, xp_us]
  · rw [xp_other h1, xp_other h1, xp_other h1, xp_other h1, xp_other h1, g i h2 h3 h4]
theorem xy_goBack {σ : xr_S} (h : xi σ) (x : Int32) : xi_ok σ (xf_X10_goBack σ x) (fun τ => xf_X11_goBack τ x) := by
  obtain ⟨t, a, hI⟩ := h
  obtain ⟨hT, hA, hc, hm, hC, hM, -, -, -, -, ⟨n, hG⟩⟩ := id hI
  obtain ⟨g1, g2, g3⟩ := hG
  cases hi : xs_inr x 2 with
  | false =>
    refine ⟨-1000000001, σ, σ, ?_, ?_, ⟨t, a, hI⟩⟩
    · unfold xf_X10_goBack
      by_cases h0 : x < 0
      · rw [if_pos h0]
      · rw [if_neg h0, if_neg]
        intro h2
        have : xs_inr x 2 = true := by
          have q1 := Int32.lt_iff_toInt_lt.mp h2
          have e2 : (2 : Int32).toInt = 2 := by decide
          have : ¬ nI 2 ≤ x := fun h => by
            have q2 := Int32.le_iff_toInt_le.mp h
            rw [nI_toInt (by decide)] at q2
            omega
          simp [xs_inr, h0, this]
        rw [this] at hi; cases hi
    · show xf_X11_goBack _ _ = _
      unfold xf_X11_goBack
      rw [xe_inK (a := x) (n := 1) (lo := 0) (hi := 1) σ (by omega) rfl rfl, hi]; rfl
  | true =>
    obtain ⟨i, hi1, rfl⟩ := xs_inr_t (by omega) hi
    obtain ⟨i1, i2⟩ := g3 i hi1
    have hlt : nI i < 2 := nI_lt (b := 2) hi1 (by decide)
    have hbit : xf_X10_bit σ (σ.1 0 10) (nI i) = some (bI (n.testBit i)) := by
      unfold xf_X10_bit
      rw [g2, xl_1, xl_31, xp_bitb (by omega) (by omega)]
    have hin := fun σ => xe_inK (a := nI i) (n := 1) (lo := 0) (hi := 1) σ (by omega) rfl rfl
    cases hb : n.testBit i with
    | false =>
      refine ⟨-1000000003, σ, σ, ?_, ?_, ⟨t, a, hI⟩⟩
      · unfold xf_X10_goBack
        rw [if_neg (nI_pos (by omega)), if_pos hlt, hbit, hb]; rfl
      · show xf_X11_goBack _ _ = _
        unfold xf_X11_goBack
        rw [hin, hi]
        simp (disch := omega) only [bI_t, Option.bind_some, show ¬ nI 1 = 0 from by decide, if_false, xp_ld, i1, hb]
        rfl
    | true =>
      obtain ⟨x, x1, x2, x3⟩ := i2 hb
      have hr : 15 + 4 < xr_img i := by unfold xr_img; split <;> omega
      obtain ⟨σ1, s1, s2, s3⟩ := xe_become (c := 15) (Or.inl hr) x2
      have hne : ∀ c, (49 ≤ c ∨ xi_free c = false) → c ≠ 15 ∧ c ≠ 15 + 2 ∧ c ≠ 15 + 3 ∧ c ≠ 15 + 4 := fun c h => by
        refine ⟨fun e => ?_, fun e => ?_, fun e => ?_, fun e => ?_⟩ <;> (subst e; rcases h with h | h <;> revert h <;> decide)
      have ff : ∀ c, (49 ≤ c ∨ xi_free c = false) → σ1.1 c = σ.1 c := fun c h => s3 c (hne c h).1 (hne c h).2.1 (hne c h).2.2.1 (hne c h).2.2.2
      have e50 : σ1.1 50 = σ.1 50 := ff 50 (Or.inl (by decide))
      have e51 : σ1.1 51 = σ.1 51 := ff 51 (Or.inl (by decide))
      refine ⟨1, σ1, xr_upF σ1 50 (fun k => if 0 ≤ k ∧ k < 0 + 55 then σ1.1 50 (110 + 55 * i + (k - 0)) else σ1.1 50 k), ?_, ?_, xi_ofI (xi_two hI ff (fun c h => ?_) (fun k hk => ?_) x1 s2 ?_)⟩
      · unfold xf_X10_goBack
        rw [if_neg (nI_pos (by omega)), if_pos hlt, hbit, hb]
        simp (disch := omega) only [bI_t, Option.bind_some, show ¬ nI 1 = 0 from by decide, if_false, xp_lr, s1]
      · show xf_X11_goBack _ _ = _
        unfold xf_X11_goBack
        rw [hin, hi]
        simp (disch := omega) only [bI_t, Option.bind_some, show ¬ nI 1 = 0 from by decide, if_false, xp_ld, e51, i1, hb, xl_110, xl_55, pk_mul, nI_add]
        rw [xl_0, xe_copy (by omega) (by omega) (by omega)]
        rfl
      · have : c ≠ 50 := fun e => by subst e; rcases h with h | h <;> revert h <;> decide
        rw [xp_otherF this]
      · rw [xp_sameF, if_neg (by omega)]
      · refine xi_M_cp x3 (fun k hk => ?_)
        rw [xp_sameF, if_pos (by omega), e50, show 0 + k - 0 = k by omega]
theorem xy_keep {σ : xr_S} (h : xi σ) (x : Int32) : xi_ok σ (xf_X10_keep σ x) (fun τ => xf_X11_keep τ x) := by
  obtain ⟨t, a, hI⟩ := h
  obtain ⟨hT, hA, hc, hm, hC, hM, ⟨n7, f7, h7⟩, h8, ⟨n9, f9, h9⟩, ⟨n10, f10, g10, k10, h10⟩, ⟨n, hG⟩⟩ := id hI
  obtain ⟨g1, g2, g3⟩ := hG
  cases hi : xs_inr x 2 with
  | false =>
    refine ⟨-1000000001, σ, σ, ?_, ?_, ⟨t, a, hI⟩⟩
    · unfold xf_X10_keep
      by_cases h0 : x < 0
      · rw [if_pos h0]
      · rw [if_neg h0, if_neg]
        intro h2
        have : xs_inr x 2 = true := by
          have q1 := Int32.lt_iff_toInt_lt.mp h2
          have e2 : (2 : Int32).toInt = 2 := by decide
          have : ¬ nI 2 ≤ x := fun h => by
            have q2 := Int32.le_iff_toInt_le.mp h
            rw [nI_toInt (by decide)] at q2
            omega
          simp [xs_inr, h0, this]
        rw [this] at hi; cases hi
    · show xf_X11_keep _ _ = _
      unfold xf_X11_keep
      rw [xe_inK (a := x) (n := 1) (lo := 0) (hi := 1) σ (by omega) rfl rfl, hi]; rfl
  | true =>
    obtain ⟨i, hi1, rfl⟩ := xs_inr_t (by omega) hi
    have hlt : nI i < 2 := nI_lt (b := 2) hi1 (by decide)
    have hr : 15 + 4 < xr_img i ∧ xr_img i ≤ 26 ∧ 21 ≤ xr_img i := by unfold xr_img; split <;> omega
    obtain ⟨τ, s1, s2, s3⟩ := xe_become (c := xr_img i) (Or.inr hr.1) hC
    obtain ⟨σ1, hσ1⟩ : ∃ ρ, ρ = xr_up τ 0 10 (nI (n ||| 2 ^ i)) := ⟨_, rfl⟩
    obtain ⟨σ2, hσ2⟩ : ∃ ρ, ρ = xr_upF σ1 50 (fun k => if 110 + 55 * i ≤ k ∧ k < 110 + 55 * i + 55 then σ1.1 50 (0 + (k - (110 + 55 * i))) else σ1.1 50 k) := ⟨_, rfl⟩
    have f0 : ∀ c, (c < 21 ∨ 30 < c) → τ.1 c = σ.1 c := fun c h => s3 c (by omega) (by omega) (by omega) (by omega)
    have f1 : ∀ c, c ≠ 0 → (c < 21 ∨ 30 < c) → σ1.1 c = σ.1 c := fun c h h2 => by rw [hσ1, xp_other h, f0 c h2]
    have f2 : ∀ c, c ≠ 50 → σ2.1 c = σ1.1 c := fun c h => by rw [hσ2, xp_otherF h]
    obtain ⟨σ3, hσ3⟩ : ∃ ρ, ρ = xr_up σ2 51 i (nI 1) := ⟨_, rfl⟩
    have f3 : ∀ c, c ≠ 51 → σ3.1 c = σ2.1 c := fun c h => by rw [hσ3, xp_other h]
    have ff : ∀ c, c ≠ 0 → c ≠ 50 → c ≠ 51 → (c < 21 ∨ 30 < c) → σ3.1 c = σ.1 c := fun c h1 h2 h3 h4 => by rw [f3 c h3, f2 c h2, f1 c h1 h4]
    have e50 : σ1.1 50 = σ.1 50 := f1 50 (by decide) (by omega)
    have w0 : ∀ k, k < 110 + 55 * i → σ3.1 50 k = σ.1 50 k := fun k hk => by rw [f3 50 (by decide), hσ2, xp_sameF, if_neg (by omega), e50]
    have w1 : ∀ k, k < 55 → σ3.1 50 (110 + 55 * i + k) = σ.1 50 (0 + k) := fun k hk => by
      rw [f3 50 (by decide), hσ2, xp_sameF, if_pos (by omega), e50, show 110 + 55 * i + k - (110 + 55 * i) = k by omega]
    have w2 : ∀ k, 110 + 55 * i + 55 ≤ k → σ3.1 50 k = σ.1 50 k := fun k hk => by rw [f3 50 (by decide), hσ2, xp_sameF, if_neg (by omega), e50]
    refine ⟨1, σ1, σ3, ?_, ?_, t, a, hT, hA, ?_, ?_, ?_, ?_, ⟨n7, f7, ?_⟩, ?_, ⟨n9, f9, ?_⟩, ⟨n10, f10, g10, k10, ?_⟩, n ||| 2 ^ i, ?_⟩
    · unfold xf_X10_keep
      rw [if_neg (nI_pos (by omega)), if_pos hlt, xp_lr (by omega) (by omega), s1]
      simp only [Option.bind_some, xp_pf]
      rw [f0 0 (by omega), g2, xp_setL (by omega), hσ1]
    · show xf_X11_keep _ _ = _
      unfold xf_X11_keep
      rw [xe_inK (a := nI i) (n := 1) (lo := 0) (hi := 1) σ1 (by omega) rfl rfl, hi]
      simp (disch := omega) only [bI_t, Option.bind_some, show ¬ nI 1 = 0 from by decide, if_false, xl_110, xl_55, pk_mul, nI_add]
      rw [xl_0, xe_copy (by omega) (by omega) (by omega), Option.bind_some, xp_st (by omega) (by omega), ← hσ2, xl_1, ← hσ3]
    · simpa only [xi_Tc, ff 9 (by decide) (by decide) (by decide) (by omega), ff 12 (by decide) (by decide) (by decide) (by omega), ff 13 (by decide) (by decide) (by decide) (by omega), ff 14 (by decide) (by decide) (by decide) (by omega)] using hc
    · simpa only [xi_Tm, ff 49 (by decide) (by decide) (by decide) (by omega), ff 52 (by decide) (by decide) (by decide) (by omega), ff 53 (by decide) (by decide) (by decide) (by omega), ff 54 (by decide) (by decide) (by decide) (by omega)] using hm
    · exact xi_C_fr hC (ff _ (by decide) (by decide) (by decide) (by omega)) (ff _ (by decide) (by decide) (by decide) (by omega)) (ff _ (by decide) (by decide) (by decide) (by omega)) (ff _ (by decide) (by decide) (by decide) (by omega))
    · exact xi_M_cp hM (fun k hk => w0 _ (by omega))
    · simpa only [xi_X, ff 1 (by decide) (by decide) (by decide) (by omega), ff 2 (by decide) (by decide) (by decide) (by omega), ff 49 (by decide) (by decide) (by decide) (by omega), ff 55 (by decide) (by decide) (by decide) (by omega)] using h7
    · show σ3.1 0 11 = σ3.1 49 16
      rw [ff 49 (by decide) (by decide) (by decide) (by omega), f3 0 (by decide), f2 0 (by decide), hσ1, xp_same, xp_un (by decide), f0 0 (by omega)]
      exact h8
    · simpa only [xi_B, ff 39 (by decide) (by decide) (by decide) (by omega), ff 40 (by decide) (by decide) (by decide) (by omega), ff 49 (by decide) (by decide) (by decide) (by omega), ff 61 (by decide) (by decide) (by decide) (by omega)] using h9
    · simpa only [xi_K, ff 45 (by decide) (by decide) (by decide) (by omega), ff 46 (by decide) (by decide) (by decide) (by omega), ff 47 (by decide) (by decide) (by decide) (by omega), ff 48 (by decide) (by decide) (by decide) (by omega), ff 49 (by decide) (by decide) (by decide) (by omega), ff 65 (by decide) (by decide) (by decide) (by omega), ff 66 (by decide) (by decide) (by decide) (by omega), ff 67 (by decide) (by decide) (by decide) (by omega)] using h10
    · refine ⟨xs_or_lt (n := 2) g1 (xs_pow_lt (n := 2) hi1), ?_, fun j hj => ?_⟩
      · rw [f3 0 (by decide), f2 0 (by decide), hσ1, xp_same, xp_us]
      · rw [Nat.testBit_or, Nat.testBit_two_pow]
        by_cases hij : j = i
        · subst hij
          refine ⟨?_, fun _ => ⟨a, hA, ?_, xi_M_cp hM w1⟩⟩
          · rw [hσ3, xp_same, xp_us]; simp [bI]
          · have q : ∀ c, c ≠ 0 → c ≠ 50 → c ≠ 51 → σ3.1 c = τ.1 c := fun c h1 h2 h3 => by rw [f3 c h3, f2 c h2, hσ1, xp_other h1]
            exact xi_C_fr s2 (q _ (by omega) (by omega) (by omega)) (q _ (by omega) (by omega) (by omega)) (q _ (by omega) (by omega) (by omega)) (q _ (by omega) (by omega) (by omega))
        · have hd : decide (i = j) = false := by simp [Ne.symm hij]
          rw [hd, Bool.or_false]
          obtain ⟨j1, j2⟩ := g3 j hj
          refine ⟨?_, fun hb => ?_⟩
          · rw [hσ3, xp_same, xp_un hij, f2 51 (by decide), f1 51 (by decide) (by omega)]
            exact j1
          · obtain ⟨y, y1, y2, y3⟩ := j2 hb
            have hd2 : xr_img j + 4 < xr_img i ∨ xr_img i + 4 < xr_img j := by
              unfold xr_img
              split <;> split <;> omega
            have hj2 : 21 ≤ xr_img j ∧ xr_img j ≤ 26 := by unfold xr_img; split <;> omega
            have q : ∀ c, 21 ≤ c → c ≤ 30 → (c < xr_img i ∨ xr_img i + 4 < c) → σ3.1 c = σ.1 c := fun c h1 h2 h3 => by
              rw [f3 c (by omega), f2 c (by omega), hσ1, xp_other (by omega), s3 c (by omega) (by omega) (by omega) (by omega)]
            refine ⟨y, y1, xi_C_fr y2 (q _ (by omega) (by omega) (by omega)) (q _ (by omega) (by omega) (by omega)) (q _ (by omega) (by omega) (by omega)) (q _ (by omega) (by omega) (by omega)), xi_M_cp y3 (fun k hk => ?_)⟩
            by_cases hlt2 : j < i
            · exact w0 _ (by omega)
            · exact w2 _ (by omega)
