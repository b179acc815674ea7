/-! nights foretold -/
def xs_set (w : Nat → Nat → Nat) (s d v : Nat) : Nat → Nat → Nat := fun i j => if i = s ∧ j = d then v else w i j
def xs_wok (t : xa_T) (w : Nat → Nat → Nat) : Prop := (∀ s d, w s d ≤ 9) ∧ ∀ s d, tN t ≤ d → w s d = 0
theorem xs_wok_set {t : xa_T} {w : Nat → Nat → Nat} {s d v : Nat} (h : xs_wok t w) (hv : v ≤ 9) (hd : d < tN t) : xs_wok t (xs_set w s d v) := by
  refine ⟨fun i j => ?_, fun i j hj => ?_⟩
  · simp only [xs_set]
    split
    · exact hv
    · exact h.1 i j
  · simp only [xs_set]
    rw [if_neg (by omega)]
    exact h.2 i j hj
theorem xq_W_set {σ : xr_S} {c s d v : Nat} {w : Nat → Nat → Nat} (h : xq_W σ c w) (hd : d < 5) (hv : v ≤ 9) : xq_W (xr_up σ c (s * 5 + d) (nI v)) c (xs_set w s d v) := by
  refine ⟨fun i j hi hj => ?_, fun i j => ?_⟩
  · simp only [xs_set]
    rw [xp_same]
    by_cases hij : i = s ∧ j = d
    · rw [if_pos hij, hij.1, hij.2, xp_us]
    · rw [if_neg hij, xp_un (by omega)]
      exact h.1 i j hi hj
  · simp only [xs_set]
    split
    · exact hv
    · exact h.2 i j
theorem xq_V_set {σ : xr_S} {b s d v : Nat} {w : Nat → Nat → Nat} (h : xq_V σ b w) (hd : d < 5) (hv : v ≤ 9) : xq_V (xr_up σ 50 (b + 5 * s + d) (nI v)) b (xs_set w s d v) := by
  refine ⟨fun i j hi hj => ?_, fun i j => ?_⟩
  · simp only [xs_set]
    rw [xp_same]
    by_cases hij : i = s ∧ j = d
    · rw [if_pos hij, hij.1, hij.2, xp_us]
    · rw [if_neg hij, xp_un (by omega)]
      exact h.1 i j hi hj
  · simp only [xs_set]
    split
    · exact hv
    · exact h.2 i j
theorem xq_W_fr {σ τ : xr_S} {c : Nat} {w : Nat → Nat → Nat} (h : xq_W σ c w) (hf : τ.1 c = σ.1 c) : xq_W τ c w := by
  unfold xq_W; rw [hf]; exact h
theorem xq_V_fr {σ τ : xr_S} {b : Nat} {w : Nat → Nat → Nat} (h : xq_V σ b w) (hf : τ.1 50 = σ.1 50) : xq_V τ b w := by
  unfold xq_V; rw [hf]; exact h
theorem xs_wtop {t : xa_T} {w : Nat → Nat → Nat} (hT : xi_T t) (h : xs_wok t w) (hN : 0 < tN t) (s : Nat) : xs_top (w s) (tN t - 1) = xs_top (w s) 4 ∧ xs_top (w s) 4 < tN t := by
  have h5 := hT.1
  have e : xs_top (w s) (tN t - 1) = xs_top (w s) 4 := (xs_top_cut (n := tN t - 1) (fun k hk => h.2 s k (by omega)) 4 (by omega)).symm
  have := xs_top_le (w s) (tN t - 1)
  exact ⟨e, by omega⟩
/-! feedings -/
def xs_fd (t : xa_T) (w : Nat → Nat → Nat) (s d : Nat) : Nat → Nat → Nat → Nat
  | 0 => w
  | k + 1 => xs_set (xs_fd t w s d k) s d (xs_gr (xs_fd t w s d k s d) (tG t))
theorem xs_fd_ok {t : xa_T} {w : Nat → Nat → Nat} {s d : Nat} (h : xs_wok t w) (hd : d < tN t) : ∀ k, xs_wok t (xs_fd t w s d k) := by
  intro k
  induction k with
  | zero => exact h
  | succ k ih => exact xs_wok_set ih (xs_gr_le _ _) hd
theorem xe_wbecome {σ : xr_S} {c c2 : Nat} {w : Nat → Nat → Nat} (h : xq_W σ (c2 + 1) w) : xf_X9_become σ c c2 = some (xr_upF σ (c + 1) (va_cpy (σ.1 (c2 + 1)) (σ.1 (c + 1)) 0 0 30)) ∧ xq_W (xr_upF σ (c + 1) (va_cpy (σ.1 (c2 + 1)) (σ.1 (c + 1)) 0 0 30)) (c + 1) w := by
  refine ⟨?_, fun s d hs hd => ?_, h.2⟩
  · unfold xf_X9_become
    rw [xp_cp (n := 30) (m := 30) (by decide) rfl]
  · rw [xp_sameF, xp_cpy (by omega)]
    exact h.1 s d hs hd
theorem xe_wcopy {σ : xr_S} {w : Nat → Nat → Nat} (h : xq_V σ 0 w) : ∃ τ, xf_X11_copy σ 0 55 = some τ ∧ xq_V τ 55 w ∧ (∀ c, c ≠ 50 → τ.1 c = σ.1 c) ∧ ∀ k, (k < 55 ∨ 110 ≤ k) → τ.1 50 k = σ.1 50 k := by
  refine ⟨_, xe_copy (a := 0) (b := 55) (by omega) (by omega) (by omega), ⟨fun s d hs hd => ?_, h.2⟩, fun c hc => xp_otherF hc, fun k hk => ?_⟩
  · rw [xp_sameF, if_pos (by omega), show 0 + (55 + 5 * s + d - 55) = 0 + 5 * s + d by omega]
    exact h.1 s d hs hd
  · rw [xp_sameF, if_neg (by omega)]
theorem xe_fewest {σ : xr_S} {t : xa_T} {w : Nat → Nat → Nat} {s d : Nat} (hT : xi_T t) (hc : xi_Tc σ t) (hW : xq_W σ 37 w) (hok : xs_wok t w) (hs : s < tS t) (hd : d < tN t) : ∃ τ, xr_lw (xf_X4_fewestLoaves_L14 (nI s) (nI d) (fun (e4 : xr_S) => some ((-1), e4))) (0, σ) = some (oI (xs_find (fun k => decide (xs_top (xs_fd t w s d k s) 4 = d)) 10), τ) ∧ ∀ c, c ≠ 37 → τ.1 c = σ.1 c := by
  obtain ⟨n1, n2, n3, n4, n5, n6, n7⟩ := id hT
  have top : ∀ j τ, xq_W τ 37 (xs_fd t w s d j) → xf_X9_top τ 36 (nI s) = some (nI (xs_top (xs_fd t w s d j s) 4)) := fun j τ h => xe_top (c := 36) h (show s < 6 by omega)
  refine xp_inv (Q := fun o => ∃ τ : xr_S, o = some (oI (xs_find (fun k => decide (xs_top (xs_fd t w s d k s) 4 = d)) 10), τ) ∧ ∀ c, c ≠ 37 → τ.1 c = σ.1 c) (fun j x => ∃ τ : xr_S, x = (nI j, τ) ∧ xs_find (fun k => decide (xs_top (xs_fd t w s d k s) 4 = d)) j = none ∧ xq_W τ 37 (xs_fd t w s d j) ∧ ∀ c, c ≠ 37 → τ.1 c = σ.1 c) 10 (fun j x hj hI => ?_) (fun x hI => ?_) 0 _ (by omega) ⟨σ, rfl, rfl, hW, fun _ _ => rfl⟩
  · obtain ⟨τ, rfl, hn, hw, hf⟩ := hI
    have htl := xs_top_le (xs_fd t w s d j s) 4
    have e1 := top j τ hw
    by_cases hp : xs_top (xs_fd t w s d j s) 4 = d
    · left
      refine ⟨some (nI j, τ), fun rec => ?_, τ, ?_, hf⟩
      · unfold xf_X4_fewestLoaves_L14
        dsimp only
        rw [if_neg (show ¬ (9 : Int32) < nI j from nI_nlt (b := j) (a := 9) (by omega) (by omega)), e1, Option.bind_some, if_pos (by rw [hp])]
      · have : xs_find (fun k => decide (xs_top (xs_fd t w s d k s) 4 = d)) 10 = some j := xs_find_some.mpr ⟨hj, by simpa using hp, fun i hi => xs_find_none.mp hn i hi⟩
        rw [this]; rfl
    · right
      refine ⟨(nI (j + 1), xr_up τ 37 (s * 5 + d) (nI (xs_gr (xs_fd t w s d j s d) (tG t)))), ⟨_, rfl, by simp [xs_find, hn, hp], xq_W_set hw (by omega) (xs_gr_le _ _), fun c h => by rw [xp_other h, hf c h]⟩, fun rec => ?_⟩
      unfold xf_X4_fewestLoaves_L14
      dsimp only
      have e2 := xe_grow (c := 36) hw (show s < 6 by omega) (show d < 5 by omega) n2
      rw [if_neg (show ¬ (9 : Int32) < nI j from nI_nlt (b := j) (a := 9) (by omega) (by omega)), e1, Option.bind_some, if_neg (by rw [xp_eq (by omega) (by omega)]; exact hp), hf 9 (by decide), hc.2.1, e2, Option.bind_some, nI_1]
  · obtain ⟨τ, rfl, hn, hw, hf⟩ := hI
    refine ⟨some (-1, τ), fun rec => ?_, τ, by rw [hn]; rfl, hf⟩
    unfold xf_X4_fewestLoaves_L14
    dsimp only
    rw [if_pos (show (9 : Int32) < nI 10 by decide)]
theorem xe_likeV {σ : xr_S} {t : xa_T} {w : Nat → Nat → Nat} {s : Nat} (hT : xi_T t) (hm : xi_Tm σ t) (hV : xq_V σ 55 w) (hok : xs_wok t w) (hs : s < tS t) : xf_X11_likeliestOf σ 55 (nI s) = some (nI (xs_top (w s) 4)) := by
  obtain ⟨n1, n2, n3, n4, n5, n6, n7⟩ := id hT
  have := xe_likeliestOf hV (by omega) (show s < 6 by omega) hm.1 n1
  rw [(xs_wtop hT hok (n6 (by omega)) s).1] at this
  exact this
theorem xe_fewestM {σ : xr_S} {t : xa_T} {w : Nat → Nat → Nat} {s d : Nat} (hT : xi_T t) (hm : xi_Tm σ t) (hV : xq_V σ 55 w) (hok : xs_wok t w) (hs : s < tS t) (hd : d < tN t) : ∃ τ, xr_lw (xf_X11_feedings_L28 (nI s) (nI d) (fun (e6 : xr_S) => some ((-1), e6))) (0, σ) = some (oI (xs_find (fun k => decide (xs_top (xs_fd t w s d k s) 4 = d)) 10), τ) ∧ (∀ c, c ≠ 50 → τ.1 c = σ.1 c) ∧ ∀ k, (k < 55 ∨ 110 ≤ k) → τ.1 50 k = σ.1 50 k := by
  obtain ⟨n1, n2, n3, n4, n5, n6, n7⟩ := id hT
  refine xp_inv (Q := fun o => ∃ τ : xr_S, o = some (oI (xs_find (fun k => decide (xs_top (xs_fd t w s d k s) 4 = d)) 10), τ) ∧ (∀ c, c ≠ 50 → τ.1 c = σ.1 c) ∧ ∀ k, (k < 55 ∨ 110 ≤ k) → τ.1 50 k = σ.1 50 k) (fun j x => ∃ τ : xr_S, x = (nI j, τ) ∧ xs_find (fun k => decide (xs_top (xs_fd t w s d k s) 4 = d)) j = none ∧ xq_V τ 55 (xs_fd t w s d j) ∧ (∀ c, c ≠ 50 → τ.1 c = σ.1 c) ∧ ∀ k, (k < 55 ∨ 110 ≤ k) → τ.1 50 k = σ.1 50 k) 10 (fun j x hj hI => ?_) (fun x hI => ?_) 0 _ (by omega) ⟨σ, rfl, rfl, hV, fun _ _ => rfl, fun _ _ => rfl⟩
  · obtain ⟨τ, rfl, hn, hw, hf, hk⟩ := hI
    have htl := xs_top_le (xs_fd t w s d j s) 4
    have hm1 : xi_Tm τ t := xi_Tm_fr4 hm (fun c h => hf c (by omega))
    have e1 := xe_likeV hT hm1 hw (xs_fd_ok hok hd j) hs
    by_cases hp : xs_top (xs_fd t w s d j s) 4 = d
    · left
      refine ⟨some (nI j, τ), fun rec => ?_, τ, ?_, hf, hk⟩
      · unfold xf_X11_feedings_L28
        dsimp only
        rw [if_neg (show ¬ (9 : Int32) < nI j from nI_nlt (b := j) (a := 9) (by omega) (by omega)), e1, Option.bind_some, if_pos (by rw [hp])]
      · have : xs_find (fun k => decide (xs_top (xs_fd t w s d k s) 4 = d)) 10 = some j := xs_find_some.mpr ⟨hj, by simpa using hp, fun i hi => xs_find_none.mp hn i hi⟩
        rw [this]; rfl
    · right
      refine ⟨(nI (j + 1), xr_up τ 50 (55 + 5 * s + d) (nI (xs_gr (xs_fd t w s d j s d) (tG t)))), ⟨_, rfl, by simp [xs_find, hn, hp], xq_V_set hw (by omega) (xs_gr_le _ _), fun c h => by rw [xp_other h, hf c h], fun k h => by rw [xp_same, xp_un (by omega), hk k h]⟩, fun rec => ?_⟩
      have e2 := xe_grows hw (by omega) (show s < 6 by omega) (show d < 5 by omega) hm1.2.1 n2
      unfold xf_X11_feedings_L28
      dsimp only
      rw [if_neg (show ¬ (9 : Int32) < nI j from nI_nlt (b := j) (a := 9) (by omega) (by omega)), e1, Option.bind_some, if_neg (by rw [xp_eq (by omega) (by omega)]; exact hp), xl_55, e2, Option.bind_some, nI_1]
  · obtain ⟨τ, rfl, hn, hw, hf, hk⟩ := hI
    refine ⟨some (-1, τ), fun rec => ?_, τ, by rw [hn]; rfl, hf, hk⟩
    unfold xf_X11_feedings_L28
    dsimp only
    rw [if_pos (show (9 : Int32) < nI 10 by decide)]
theorem xi_wok {t : xa_T} {a : xa_A} (hA : xi_A t a) : xs_wok t (qW a) := ⟨hA.1, hA.2.1⟩
theorem xy_feedings {σ : xr_S} (h : xi σ) (x y : Int32) : xi_ok σ (xf_X10_feedings σ x y) (fun τ => xf_X11_feedings τ x y) := by
  obtain ⟨t, a, hI⟩ := h
  obtain ⟨hT, hA, hc, hm, hC, hM, -⟩ := id hI
  obtain ⟨n1, n2, n3, n4, n5, n6, n7⟩ := id hT
  unfold xi_ok xf_X10_feedings xf_X11_feedings
  cases hs : xs_inr x (tS t) with
  | false =>
    refine ⟨-1000000001, σ, σ, ?_, ?_, ⟨t, a, hI⟩⟩
    · rw [xe_hasSleeper hc.2.2.1, hs]; rfl
    · dsimp only; rw [xe_isSleeper hm.2.2.1 (by omega), hs]; rfl
  | true =>
    cases hd : xs_inr y (tN t) with
    | false =>
      refine ⟨-1000000001, σ, σ, ?_, ?_, ⟨t, a, hI⟩⟩
      · rw [xe_hasSleeper hc.2.2.1, hs, xe_hasDream hc.1, hd]; rfl
      · dsimp only; rw [xe_isSleeper hm.2.2.1 (by omega), hs, xe_isDream hm.1 (by omega), hd]; rfl
    | true =>
      obtain ⟨s, hs1, rfl⟩ := xs_inr_t (by omega) hs
      obtain ⟨d, hd1, rfl⟩ := xs_inr_t (by omega) hd
      obtain ⟨b1, b2⟩ := xe_wbecome (σ := σ) (c := 36) (c2 := 16) (xi_W hA hC)
      obtain ⟨τ0, hτ0⟩ : ∃ τ0, τ0 = xr_upF σ (36 + 1) (va_cpy (σ.1 (16 + 1)) (σ.1 (36 + 1)) 0 0 30) := ⟨_, rfl⟩
      rw [← hτ0] at b1 b2
      have f0 : ∀ c, c ≠ 37 → τ0.1 c = σ.1 c := fun c h => by rw [hτ0, xp_otherF h]
      obtain ⟨σ1, p1, p2⟩ := xe_fewest hT (xi_Tc_fr hc (fun c h => f0 c (by omega))) b2 (xi_wok hA) hs1 hd1
      have g1 : ∀ c, c ≠ 37 → σ1.1 c = σ.1 c := fun c h => by rw [p2 c h, f0 c h]
      have hm1 : xi_Tm σ1 t := xi_Tm_fr4 hm (fun c h => g1 c (by omega))
      have hM1 : xi_M σ1 0 a := xi_M_fr hM (g1 50 (by decide))
      obtain ⟨τ1, c1, c2, c3, c4⟩ := xe_wcopy (xi_V hA hM1)
      obtain ⟨σ2, r1, r2, r3⟩ := xe_fewestM hT (xi_Tm_fr4 hm1 (fun c h => c3 c (by omega))) c2 (xi_wok hA) hs1 hd1
      refine ⟨oI (xs_find (fun k => decide (xs_top (xs_fd t (qW a) s d k s) 4 = d)) 10), σ1, σ2, ?_, ?_, xi_scr hI (fun c h1 h2 => g1 c (by omega)) (fun c h1 h2 h3 h4 h5 h6 => by rw [r2 c h1, c3 c h1]) (fun k hk => by rw [r3 k hk, c4 k hk])⟩
      · rw [xe_hasSleeper hc.2.2.1, hs, xe_hasDream hc.1, hd, bI_t, Option.bind_some, if_neg (by decide), Option.bind_some, if_neg (by decide)]
        unfold xf_X4_fewestLoaves
        rw [b1, Option.bind_some, p1]
        rfl
      · dsimp only
        rw [xe_isSleeper hm1.2.2.1 (by omega), hs, xe_isDream hm1.1 (by omega), hd, bI_t, Option.bind_some, if_neg (by decide), Option.bind_some, if_neg (by decide), c1, Option.bind_some, r1]
