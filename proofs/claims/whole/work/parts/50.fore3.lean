/-! foretold, settled -/
/-- the class's side: beds, then nights -/
theorem xe_foreC {σ : xr_S} {t : xa_T} {a : xa_A} {n : Nat} (hT : xi_T t) (hA : xi_A t a) (hc : xi_Tc σ t) (hC : xi_C σ 15 a) (hn : n < 1000) : ∃ σ1 τ, xf_X0_make σ = some σ1 ∧ xf_X4_run σ1 0 (nI n) = some (nI ((xs_rc t (xs_bed t a) 0 (qW a) n).getD n), τ) ∧ xq_W τ 37 (xs_rw t (xs_bed t a) 0 (qW a) n) ∧ ∀ c, (c < 31 ∨ 38 < c) → τ.1 c = σ.1 c := by
  obtain ⟨σ1, p1, p2, p3, p4, p5⟩ := xe_make hT hA hc hC
  have hc1 : xi_Tc σ1 t := xi_Tc_fr hc (fun c h => p5 c (by omega) (by omega) (by omega) (by omega))
  have hC1 : xi_C σ1 15 a := xi_C_fr hC (p5 _ (by decide) (by decide) (by decide) (by decide)) (p5 _ (by decide) (by decide) (by decide) (by decide)) (p5 _ (by decide) (by decide) (by decide) (by decide)) (p5 _ (by decide) (by decide) (by decide) (by decide))
  obtain ⟨τ, q1, q2, q3⟩ := xe_run (out := 0) hT hc1 (xi_W hA hC1) (xi_wok hA) p4 xs_bed_lt (by decide) hn
  exact ⟨σ1, τ, p1, q1, q2, fun c h => by rw [q3 c (by omega) (by omega), p5 c (by omega) (by omega) (by omega) (by omega)]⟩
theorem xy_foretold {σ : xr_S} (h : xi σ) (x y z : Int32) : xi_ok σ (xf_X10_foretold σ x y z) (fun τ => xf_X11_foretold τ x y z) := by
  obtain ⟨t, a, hI⟩ := h
  obtain ⟨hT, hA, hc, hm, hC, hM, -⟩ := id hI
  obtain ⟨n1, n2, n3, n4, n5, n6, n7⟩ := id hT
  unfold xi_ok xf_X10_foretold xf_X11_foretold
  dsimp only
  cases hs : xs_inr x (tS t) with
  | false =>
    refine ⟨-1000000001, σ, σ, ?_, ?_, ⟨t, a, hI⟩⟩
    · rw [xe_hasSleeper hc.2.2.1, hs]; rfl
    · rw [xe_isSleeper hm.2.2.1 (by omega), hs]; rfl
  | true =>
    by_cases hyd : y ≠ -1 ∧ xs_inr y (tN t) = false
    · refine ⟨-1000000001, σ, σ, ?_, ?_, ⟨t, a, hI⟩⟩
      · rw [xe_hasSleeper hc.2.2.1, hs, bI_t, Option.bind_some, if_neg (by decide), xp_jn, if_neg hyd.1, xe_hasDream hc.1, hyd.2]; rfl
      · rw [xe_isSleeper hm.2.2.1 (by omega), hs, bI_t, Option.bind_some, if_neg (by decide), xp_jn, if_neg hyd.1, xe_isDream hm.1 (by omega), hyd.2]; rfl
    · have hy : y = -1 ∨ xs_inr y (tN t) = true := by
        by_cases h1 : y = -1
        · exact Or.inl h1
        · right
          cases h2 : xs_inr y (tN t) with
          | true => rfl
          | false => exact absurd ⟨h1, h2⟩ hyd
      have pass : ∀ (J : Unit → Option (Int32 × xr_S)), xr_jn J (fun j3 => if y = (-1) then (j3 ()) else ((xf_X7_hasDream σ y).bind (fun v8 => if v8 = 0 then (some ((-1000000001), σ)) else (j3 ())))) = J () := by
        intro J
        rw [xp_jn]
        by_cases h1 : y = -1
        · rw [if_pos h1]
        · rw [if_neg h1, xe_hasDream hc.1, hy.resolve_left h1]; rfl
      have passM : ∀ (ρ : xr_S), xi_Tm ρ t → ∀ (J : Unit → Option (Int32 × xr_S)), xr_jn J (fun j3 => if y = (-1) then (j3 ()) else ((xf_X11_isDream ρ y).bind (fun v9 => if v9 = 0 then (some ((-1000000001), ρ)) else (j3 ())))) = J () := by
        intro ρ hρ J
        rw [xp_jn]
        by_cases h1 : y = -1
        · rw [if_pos h1]
        · rw [if_neg h1, xe_isDream hρ.1 (by omega), hy.resolve_left h1]; rfl
      obtain ⟨s, hs1, rfl⟩ := xs_inr_t (by omega) hs
      have hN := n6 (by omega)
      cases hz : xs_inr z 201 with
      | false =>
        refine ⟨-1000000002, σ, σ, ?_, ?_, ⟨t, a, hI⟩⟩
        · rw [xe_hasSleeper hc.2.2.1, hs, bI_t, Option.bind_some, if_neg (by decide), pass, xe_rng (a := z) (n := 200) (k := 200) (by omega) rfl, hz]; rfl
        · rw [xe_isSleeper hm.2.2.1 (by omega), hs, bI_t, Option.bind_some, if_neg (by decide), passM σ hm, xe_inK (a := z) (n := 200) (lo := 0) (hi := 200) σ (by omega) rfl rfl, hz]; rfl
      | true =>
        obtain ⟨n, hn1, rfl⟩ := xs_inr_t (by omega) hz
        obtain ⟨σ1, τ, p1, p2, p3, p4⟩ := xe_foreC (n := n) hT hA hc hC (by omega)
        have hm1 : xi_Tm τ t := xi_Tm_fr4 hm (fun c h => p4 c (by omega))
        have hM1 : xi_M τ 0 a := xi_M_fr hM (p4 50 (by omega))
        obtain ⟨τ2, r1, r2, r3, r4⟩ := xe_findBeds hT hA hm1 hM1
        have hm2 : xi_Tm τ2 t := xi_Tm_fr4 hm1 (fun c h => r4 c (by omega) (by omega))
        have hM2 : xi_M τ2 0 a := xi_M_fr hM1 (r4 50 (by decide) (by decide))
        obtain ⟨τ3, u1, u2, u3, u4⟩ := xe_foreMany (out := 0) (n := n) hT hm2 (xi_V hA hM2) (xi_wok hA) r3 xs_bed_lt (by decide) (by omega)
        have hm3 : xi_Tm τ3 t := xi_Tm_fr4 hm2 (fun c h => u3 c (by omega) (by omega))
        have hok := xs_rw_ok (bed := xs_bed t a) (out := 0) hT (xi_wok hA) xs_bed_lt n
        have hfin : xi τ3 := xi_scr hI (fun c h1 h2 => p4 c (by omega)) (fun c h1 h2 h3 h4 h5 h6 => by rw [u3 c h1 h4, r4 c h2 h3]) (fun k hk => by rw [u4 k hk, r4 50 (by decide) (by decide)])
        by_cases h1 : y = -1
        · have e1 := xe_top (σ := τ) (c := 36) p3 (show s < 6 by omega)
          have e2 := xe_likeV hT hm3 u2 hok hs1
          refine ⟨nI (xs_top (xs_rw t (xs_bed t a) 0 (qW a) n s) 4), τ, τ3, ?_, ?_, hfin⟩
          · rw [xe_hasSleeper hc.2.2.1, hs, bI_t, Option.bind_some, if_neg (by decide), pass, xe_rng (a := nI n) (n := 200) (k := 200) (by omega) rfl, hz, if_pos rfl, p1, Option.bind_some, p2, Option.bind_some, if_pos h1]
            dsimp only
            rw [e1]; rfl
          · rw [xe_isSleeper hm1.2.2.1 (by omega), hs, bI_t, Option.bind_some, if_neg (by decide), passM τ hm1, xe_inK (a := nI n) (n := 200) (lo := 0) (hi := 200) τ (by omega) rfl rfl, hz, bI_t, Option.bind_some, if_neg (by decide), r1, Option.bind_some]
            rw [show (0 : Int32) = nI 0 from rfl, u1, Option.bind_some, if_pos h1, e2]; rfl
        · obtain ⟨d, hd1, rfl⟩ := xs_inr_t (by omega) (hy.resolve_left h1)
          have e1 := xe_of (σ := τ) (c := 36) p3 (show s < 6 by omega) (show d < 5 by omega)
          have e2 := xe_weightOf u2 (by omega) (show s < 6 by omega) (show d < 5 by omega)
          refine ⟨nI (xs_rw t (xs_bed t a) 0 (qW a) n s d), τ, τ3, ?_, ?_, hfin⟩
          · rw [xe_hasSleeper hc.2.2.1, hs, bI_t, Option.bind_some, if_neg (by decide), pass, xe_rng (a := nI n) (n := 200) (k := 200) (by omega) rfl, hz, if_pos rfl, p1, Option.bind_some, p2, Option.bind_some, if_neg h1]
            dsimp only
            rw [e1]; rfl
          · rw [xe_isSleeper hm1.2.2.1 (by omega), hs, bI_t, Option.bind_some, if_neg (by decide), passM τ hm1, xe_inK (a := nI n) (n := 200) (lo := 0) (hi := 200) τ (by omega) rfl rfl, hz, bI_t, Option.bind_some, if_neg (by decide), r1, Option.bind_some]
            rw [show (0 : Int32) = nI 0 from rfl, u1, Option.bind_some, if_neg h1, xl_55, e2]; rfl
theorem xe_settledM {σ : xr_S} {t : xa_T} {w : Nat → Nat → Nat} {bed : Nat → Option Nat} (hT : xi_T t) (hm : xi_Tm σ t) (hV : xq_V σ 55 w) (hok : xs_wok t w) (hbd : ∀ l, l < tL t → σ.1 59 l = oI (bed l)) (hb : ∀ l s, bed l = some s → s < tS t) : ∃ τ, xr_lw (xf_X11_settled_L13 (fun (e5 : xr_S) => some ((-1), e5))) (0, σ) = some (oI (xs_rc t bed 0 w 201), τ) ∧ (∀ c, c ≠ 50 → c ≠ 60 → τ.1 c = σ.1 c) ∧ ∀ k, (k < 55 ∨ 110 ≤ k) → τ.1 50 k = σ.1 50 k := by
  have hfc : ∀ j, xs_fc t bed 0 w j = (xs_pn t (xs_ts (xs_fw t bed 0 w j) bed 0) (xs_fw t bed 0 w j) (tL t)).1 := fun _ => rfl
  have hfw : ∀ j, xs_fw t bed 0 w (j + 1) = (xs_pn t (xs_ts (xs_fw t bed 0 w j) bed 0) (xs_fw t bed 0 w j) (tL t)).2 := fun _ => rfl
  refine xp_inv (Q := fun o => ∃ τ : xr_S, o = some (oI (xs_rc t bed 0 w 201), τ) ∧ (∀ c, c ≠ 50 → c ≠ 60 → τ.1 c = σ.1 c) ∧ ∀ k, (k < 55 ∨ 110 ≤ k) → τ.1 50 k = σ.1 50 k) (fun j x => ∃ τ : xr_S, x = (nI j, τ) ∧ xs_rc t bed 0 w j = none ∧ xq_V τ 55 (xs_fw t bed 0 w j) ∧ (∀ c, c ≠ 50 → c ≠ 60 → τ.1 c = σ.1 c) ∧ ∀ k, (k < 55 ∨ 110 ≤ k) → τ.1 50 k = σ.1 50 k) 201 (fun j x hj hI => ?_) (fun x hI => ?_) 0 _ (by omega) ⟨σ, rfl, rfl, hV, fun _ _ _ => rfl, fun _ _ => rfl⟩
  · obtain ⟨τ, rfl, hnn, hw, hf, hk⟩ := hI
    obtain ⟨τ1, p1, p2, p3, p4⟩ := xe_foretells (σ := τ) (out := 0) hT (xi_Tm_fr4 hm (fun c h => hf c (by omega) (by omega))) hw (xs_fw_ok hT hok hb j) (fun l hl => by rw [hf 59 (by decide) (by decide)]; exact hbd l hl) hb (by decide)
    rw [← hfc j] at p1
    rw [← hfw j] at p2
    have g1 : ∀ c, c ≠ 50 → c ≠ 60 → τ1.1 c = σ.1 c := fun c h1 h2 => by rw [p3 c h1 h2, hf c h1 h2]
    have g2 : ∀ k, (k < 55 ∨ 110 ≤ k) → τ1.1 50 k = σ.1 50 k := fun k h => by rw [p4 k h, hk k h]
    have hb : xf_X11_foretells τ 0 = some (bI (xs_fc t bed 0 w j), τ1) := p1
    cases hq : xs_fc t bed 0 w j with
    | false =>
      left
      have hr : xs_rc t bed 0 w 201 = some j := xs_find_some.mpr ⟨hj, by simp [hq], fun i hi => xs_find_none.mp hnn i hi⟩
      refine ⟨some (nI j, τ1), fun rec => ?_, τ1, by rw [hr]; rfl, g1, g2⟩
      unfold xf_X11_settled_L13
      dsimp only
      rw [if_neg (show ¬ (200 : Int32) < nI j from nI_nlt (a := 200) (b := j) (by omega) (by omega)), hb, Option.bind_some, hq, if_pos (show bI false = 0 from rfl)]
    | true =>
      right
      refine ⟨(nI (j + 1), τ1), ⟨τ1, rfl, by unfold xs_rc at hnn ⊢; simp only [xs_find, hnn, hq]; rfl, p2, g1, g2⟩, fun rec => ?_⟩
      unfold xf_X11_settled_L13
      dsimp only
      rw [if_neg (show ¬ (200 : Int32) < nI j from nI_nlt (a := 200) (b := j) (by omega) (by omega)), hb, Option.bind_some, hq, if_neg (show ¬ bI true = 0 by decide), nI_1]
  · obtain ⟨τ, rfl, hnn, hw, hf, hk⟩ := hI
    refine ⟨some (-1, τ), fun rec => ?_, τ, by rw [hnn]; rfl, hf, hk⟩
    unfold xf_X11_settled_L13
    dsimp only
    rw [if_pos (show (200 : Int32) < nI 201 by decide)]
theorem xy_settled {σ : xr_S} (h : xi σ) : xi_ok σ (xf_X10_settled σ) (fun τ => xf_X11_settled τ) := by
  obtain ⟨t, a, hI⟩ := h
  obtain ⟨hT, hA, hc, hm, hC, hM, -⟩ := id hI
  obtain ⟨σ1, τ, p1, p2, p3, p4⟩ := xe_foreC (n := 201) hT hA hc hC (by omega)
  have hm1 : xi_Tm τ t := xi_Tm_fr4 hm (fun c h => p4 c (by omega))
  have hM1 : xi_M τ 0 a := xi_M_fr hM (p4 50 (by omega))
  obtain ⟨τ2, r1, r2, r3, r4⟩ := xe_findBeds hT hA hm1 hM1
  have hm2 : xi_Tm τ2 t := xi_Tm_fr4 hm1 (fun c h => r4 c (by omega) (by omega))
  have hM2 : xi_M τ2 0 a := xi_M_fr hM1 (r4 50 (by decide) (by decide))
  obtain ⟨τ3, c1, c2, c3, c4⟩ := xe_wcopy (xi_V hA hM2)
  obtain ⟨τ4, u1, u3, u4⟩ := xe_settledM hT (xi_Tm_fr4 hm2 (fun c h => c3 c (by omega))) c2 (xi_wok hA) (fun l hl => by rw [c3 59 (by decide)]; exact r3 l hl) xs_bed_lt
  have hfin : xi τ4 := xi_scr hI (fun c h1 h2 => p4 c (by omega)) (fun c h1 h2 h3 h4 h5 h6 => by rw [u3 c h1 h4, c3 c h1, r4 c h2 h3]) (fun k hk => by rw [u4 k hk, c4 k hk, r4 50 (by decide) (by decide)])
  refine ⟨oI (xs_rc t (xs_bed t a) 0 (qW a) 201), τ, τ4, ?_, ?_, hfin⟩
  · unfold xf_X10_settled
    have p2' : xf_X4_run σ1 0 201 = some (nI ((xs_rc t (xs_bed t a) 0 (qW a) 201).getD 201), τ) := p2
    rw [p1, Option.bind_some, p2', Option.bind_some]
    dsimp only
    cases hr : xs_rc t (xs_bed t a) 0 (qW a) 201 with
    | none => rfl
    | some k =>
      have hk := (xs_find_some.mp hr).1
      rw [Option.getD_some, if_neg (show ¬ (200 : Int32) < nI k from nI_nlt (a := 200) (b := k) (by omega) (by omega))]; rfl
  · show xf_X11_settled τ = _
    unfold xf_X11_settled
    rw [r1, Option.bind_some, c1, Option.bind_some, u1]
