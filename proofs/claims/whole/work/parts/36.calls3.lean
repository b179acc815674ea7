theorem xi_up1 {σ : xr_S} {c0 k : Nat} {v : Int32} (h1 : c0 < 49) (h2 : xi_free c0 = true) : ∀ c, (49 ≤ c ∨ xi_free c = false) → (xr_up σ c0 k v).1 c = σ.1 c := by
  intro c hc
  refine xp_other (fun e => ?_)
  subst e
  rcases hc with h | h
  · omega
  · rw [h2] at h; cases h
theorem xi_up2 {σ : xr_S} {c0 k : Nat} {v : Int32} (h1 : 49 ≤ c0) (h2 : xi_free c0 = true) : ∀ c, (c < 49 ∨ xi_free c = false) → (xr_up σ c0 k v).1 c = σ.1 c := by
  intro c hc
  refine xp_other (fun e => ?_)
  subst e
  rcases hc with h | h
  · omega
  · rw [h2] at h; cases h
theorem xi_two {σ σ1 σ2 : xr_S} {t : xa_T} {a b : xa_A} (h : xi_I σ t a) (hc : ∀ c, (49 ≤ c ∨ xi_free c = false) → σ1.1 c = σ.1 c) (hm : ∀ c, (c < 49 ∨ xi_free c = false) → σ2.1 c = σ1.1 c) (hk : ∀ k, 110 ≤ k → σ2.1 50 k = σ1.1 50 k) (hA : xi_A t b) (hC : xi_C σ1 15 b) (hM : xi_M σ2 0 b) : xi_I σ2 t b := by
  refine xi_step h (fun c hf => (hm c (Or.inr hf)).trans (hc c (Or.inr hf))) (fun k hk1 => (hk k hk1).trans (by rw [hc 50 (Or.inl (by decide))])) hA ?_ hM
  have e : ∀ c, c < 49 → σ2.1 c = σ1.1 c := fun c h => hm c (Or.inl h)
  simpa only [xi_C, e 15 (by decide), e (15 + 2) (by decide), e (15 + 3) (by decide), e (15 + 4) (by decide)] using hC
theorem xi_Tm_fr {σ τ : xr_S} {t : xa_T} (h : xi_Tm σ t) (hf : ∀ c, 49 ≤ c → τ.1 c = σ.1 c) : xi_Tm τ t := by
  simpa only [xi_Tm, hf 49 (by decide), hf 52 (by decide), hf 53 (by decide), hf 54 (by decide)] using h
theorem xi_M_fr {σ τ : xr_S} {a : xa_A} {b : Nat} (h : xi_M σ b a) (hf : τ.1 50 = σ.1 50) : xi_M τ b a := by
  simpa only [xi_M, hf] using h
theorem xi_Tc_fr {σ τ : xr_S} {t : xa_T} (h : xi_Tc σ t) (hf : ∀ c, c = 9 ∨ c = 12 ∨ c = 13 ∨ c = 14 → τ.1 c = σ.1 c) : xi_Tc τ t := by
  simpa only [xi_Tc, hf 9 (by decide), hf 12 (by decide), hf 13 (by decide), hf 14 (by decide)] using h
theorem xi_ofI {σ : xr_S} {t : xa_T} {a : xa_A} (h : xi_I σ t a) : xi σ := ⟨t, a, h⟩
theorem xy_seed {σ : xr_S} (h : xi σ) (x : Int32) : xi_ok σ (xf_X10_seed σ x) (fun τ => xf_X11_seed τ x) := by
  obtain ⟨t, a, hI⟩ := h
  obtain ⟨hT, hA, hc, hm, hC, hM, -⟩ := id hI
  obtain ⟨p1, p2, p3, p4, p5, p6, p7, p8⟩ := id hC
  obtain ⟨o1, o2, o3, o4, o5, o6, o7, o8⟩ := xi_M0 hM
  by_cases hx : 0 ≤ x
  · obtain ⟨j, hj, rfl⟩ := nI_of (x := x) (fun hlt => by
      have q1 := Int32.le_iff_toInt_le.mp hx
      have q2 := Int32.lt_iff_toInt_lt.mp hlt
      omega)
    refine ⟨nI (qR a), xr_up σ 15 7 (nI j), xr_up (xr_up σ 15 7 (nI j)) 50 54 (nI j), ?_, ?_, ?_⟩
    · unfold xf_X10_seed
      rw [if_pos hx, xp_v, xp_pf, p8]
    · show xf_X11_seed _ _ = _
      unfold xf_X11_seed
      rw [if_pos hx, xl_54, xp_ld (by omega) (by omega), xp_st (by omega) (by omega), xp_other (by decide), o8]
    · refine xi_ofI (xi_two (b := (qW a, qP a, qT a, qS a, qA a, qN a, qE a, j)) hI (xi_up1 (by decide) rfl) (xi_up2 (by decide) rfl) (fun k hk => by rw [xp_same, xp_un (by omega)]) ?_ ?_ ?_)
      · obtain ⟨a1, a2, a3, a4, a5, a6, a7, a8, a9, a10⟩ := hA
        exact ⟨a1, a2, a3, a4, a5, a6, a7, a8, a9, hj⟩
      · refine ⟨fun s d hs hd => ?_, fun l hl => ?_, fun l hl => ?_, ?_, ?_, ?_, ?_, ?_⟩
        · rw [xp_other (by decide)]; exact p1 s d hs hd
        · rw [xp_other (by decide)]; exact p2 l hl
        · rw [xp_other (by decide)]; exact p3 l hl
        · rw [xp_same, xp_un (by decide)]; exact p4
        · rw [xp_same, xp_un (by decide)]; exact p5
        · rw [xp_same, xp_un (by decide)]; exact p6
        · rw [xp_same, xp_un (by decide)]; exact p7
        · rw [xp_same, xp_us]; rfl
      · refine xi_M0' ⟨fun s d hs hd => ?_, fun l hl => ?_, fun l hl => ?_, fun l hl => ?_, ?_, ?_, ?_, ?_⟩
        · rw [xp_same, xp_un (by omega), xp_other (by decide)]; exact o1 s d hs hd
        · rw [xp_same, xp_un (by omega), xp_other (by decide)]; exact o2 l hl
        · rw [xp_same, xp_un (by omega), xp_other (by decide)]; exact o3 l hl
        · rw [xp_same, xp_un (by omega), xp_other (by decide)]; exact o4 l hl
        · rw [xp_same, xp_un (by omega), xp_other (by decide)]; exact o5
        · rw [xp_same, xp_un (by omega), xp_other (by decide)]; exact o6
        · rw [xp_same, xp_un (by omega), xp_other (by decide)]; exact o7
        · rw [xp_same, xp_us]; rfl
  · refine ⟨-1000000002, σ, σ, ?_, ?_, ⟨t, a, hI⟩⟩
    · unfold xf_X10_seed; rw [if_neg hx]
    · show xf_X11_seed _ _ = _
      unfold xf_X11_seed; rw [if_neg hx]
theorem xy_takeOff {σ : xr_S} (h : xi σ) (x : Int32) : xi_ok σ (xf_X10_takeOff σ x) (fun τ => xf_X11_takeOff τ x) := by
  obtain ⟨t, a, hI⟩ := h
  obtain ⟨hT, hA, hc, hm, hC, hM, -⟩ := id hI
  obtain ⟨n1, n2, n3, n4, n5, n6, n7⟩ := id hT
  obtain ⟨p1, p2, p3, p4, p5, p6, p7, p8⟩ := id hC
  obtain ⟨o1, o2, o3, o4, o5, o6, o7, o8⟩ := xi_M0 hM
  have hb := xi_bounds hT hA
  cases hl : xs_inr x (tL t) with
  | false =>
    refine ⟨-1000000001, σ, σ, ?_, ?_, ⟨t, a, hI⟩⟩
    · unfold xf_X10_takeOff; rw [xe_hasLoaf hc.2.2.2.1, hl]; rfl
    · show xf_X11_takeOff _ _ = _
      unfold xf_X11_takeOff; rw [xe_isLoaf hm.2.2.2.1 (by omega), hl]; rfl
  | true =>
    obtain ⟨l, hl1, rfl⟩ := xs_inr_t (by omega) hl
    have hA' : xi_A t (qW a, fun k => if k = l then none else qP a k, qT a, qS a, qA a, qN a, qE a, qR a) := by
      obtain ⟨a1, a2, a3, a4, a5, a6, a7, a8, a9, a10⟩ := hA
      refine ⟨a1, a2, a3, fun k s hk => ?_, fun k i s hk hi => ?_, a6, a7, a8, a9, a10⟩
      · simp only [qP] at hk
        split at hk
        next => cases hk
        next => exact a4 k s hk
      · simp only [qP] at hk hi
        split at hk
        next => cases hk
        next =>
          split at hi
          next => cases hi
          next => exact a5 k i s hk hi
    have hMg : ∀ τ : xr_S, τ.1 50 = σ.1 50 → xi_M (xr_up τ 50 (30 + l) (oI none)) 0 (qW a, fun k => if k = l then none else qP a k, qT a, qS a, qA a, qN a, qE a, qR a) := by
      intro τ hτ
      refine xi_M0' ⟨fun s d hs hd => ?_, fun k hk => ?_, fun k hk => ?_, fun k hk => ?_, ?_, ?_, ?_, ?_⟩
      · rw [xp_same, xp_un (by omega), hτ]; exact o1 s d hs hd
      · rw [xp_same]
        by_cases hkl : k = l
        · subst hkl; rw [xp_us]; simp [qP]
        · rw [xp_un (by omega), hτ, o2 k hk]; simp [qP, hkl]
      · rw [xp_same, xp_un (by omega), hτ]; exact o3 k hk
      · rw [xp_same, xp_un (by omega), hτ]; exact o4 k hk
      · rw [xp_same, xp_un (by omega), hτ]; exact o5
      · rw [xp_same, xp_un (by omega), hτ]; exact o6
      · rw [xp_same, xp_un (by omega), hτ]; exact o7
      · rw [xp_same, xp_un (by omega), hτ]; exact o8
    cases hp : qP a l with
    | none =>
      refine ⟨-1000000003, σ, xr_up σ 50 (30 + l) (oI none), ?_, ?_, ?_⟩
      · unfold xf_X10_takeOff
        rw [xe_hasLoaf hc.2.2.2.1, hl]
        simp (disch := omega) only [bI_t, Option.bind_some, show ¬ nI 1 = 0 from by decide, if_false, xp_ld, p2 l (by omega), hp]
        rfl
      · show xf_X11_takeOff _ _ = _
        unfold xf_X11_takeOff
        rw [xe_isLoaf hm.2.2.2.1 (by omega), hl]
        simp (disch := omega) only [bI_t, Option.bind_some, show ¬ nI 1 = 0 from by decide, if_false, xl_30, nI_add, xp_ld, xp_st, o2 l (by omega), hp]
        rfl
      · refine xi_ofI (xi_two (σ1 := σ) hI (fun _ _ => rfl) (xi_up2 (by decide) rfl) (fun k hk => by rw [xp_same, xp_un (by omega)]) hA' ?_ (hMg σ rfl))
        refine ⟨p1, fun k hk => ?_, p3, p4, p5, p6, p7, p8⟩
        rw [p2 k hk]
        by_cases hkl : k = l
        · subst hkl; simp [qP] at hp ⊢; rw [hp]
        · simp [qP, hkl]
    | some s =>
      have hs := (hA.2.2.2.1 l s hp).2.1
      have hn : ¬ nI s = -1 := xp_m1 s (by omega)
      refine ⟨nI s, xr_up σ 18 l (oI none), xr_up (xr_up σ 18 l (oI none)) 50 (30 + l) (oI none), ?_, ?_, ?_⟩
      · unfold xf_X10_takeOff
        rw [xe_hasLoaf hc.2.2.2.1, hl]
        simp (disch := omega) only [bI_t, Option.bind_some, show ¬ nI 1 = 0 from by decide, if_false, xp_ld, xp_st, p2 l (by omega), hp, xp_oIs, hn]
        rfl
      · show xf_X11_takeOff _ _ = _
        unfold xf_X11_takeOff
        rw [xe_isLoaf (show (xr_up σ 18 l (oI none)).1 49 5 = nI (tL t) from hm.2.2.2.1) (by omega), hl]
        have e2 : (xr_up σ 18 l (oI none)).1 50 (30 + l) = nI s := by rw [xp_other (by decide), o2 l (by omega), hp]; rfl
        simp (disch := omega) only [bI_t, Option.bind_some, show ¬ nI 1 = 0 from by decide, if_false, xl_30, nI_add, xp_ld, xp_st, e2, hn]
        rfl
      · refine xi_ofI (xi_two hI (xi_up1 (by decide) rfl) (xi_up2 (by decide) rfl) (fun k hk => by rw [xp_same, xp_un (by omega)]) hA' ?_ (hMg _ (xp_other (by decide))))
        refine ⟨fun s d hs hd => ?_, fun k hk => ?_, fun k hk => ?_, ?_, ?_, ?_, ?_, ?_⟩
        · rw [xp_other (by decide)]; exact p1 s d hs hd
        · rw [xp_same]
          by_cases hkl : k = l
          · subst hkl; rw [xp_us]; simp [qP]
          · rw [xp_un hkl, p2 k hk]; simp [qP, hkl]
        · rw [xp_other (by decide)]; exact p3 k hk
        · rw [xp_other (by decide)]; exact p4
        · rw [xp_other (by decide)]; exact p5
        · rw [xp_other (by decide)]; exact p6
        · rw [xp_other (by decide)]; exact p7
        · rw [xp_other (by decide)]; exact p8
