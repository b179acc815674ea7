/-! a sleeper's clause, and the whole text, read by the reference -/
theorem xe_mSl {σ : xr_S} {n : Nat} {tx : Nat → Nat} {s : xa_P} (hX : mX σ n tx) (hp : σ.1 49 12 = nI (s.1 + 1)) (hp2 : s.1 < n) (hS : σ.1 49 19 = nI (tS s.2.1)) (hN : σ.1 49 17 = nI (tN s.2.1)) (hN5 : tN s.2.1 ≤ 5) (hN0 : 0 < tN s.2.1) (hS6 : tS s.2.1 < 6) : ∃ b τ, xf_X11_takesSleeper σ = some (b, τ) ∧ mX τ n tx ∧ (∀ c, c ≠ 49 → c ≠ 56 → τ.1 c = σ.1 c) ∧ (∀ k, (k < 12 ∨ 16 < k) → k ≠ 19 → τ.1 49 k = σ.1 49 k) ∧ mP σ τ b (xs_wz4 n tx s) ∧ (∀ q, xs_wz4 n tx s = .ok q → q ≤ n ∧ τ.1 49 19 = nI (tS s.2.1 + 1) ∧ (∀ i, i < 5 * tS s.2.1 → τ.1 56 i = σ.1 56 i) ∧ ∀ d, d < tN s.2.1 → τ.1 56 (5 * tS s.2.1 + d) = nI (xs_val (xs_wn n tx (s.1 + 1) d))) := by
  obtain ⟨N, hNN⟩ : ∃ N, N = tN s.2.1 := ⟨_, rfl⟩
  obtain ⟨S, hSS⟩ : ∃ S, S = tS s.2.1 := ⟨_, rfl⟩
  obtain ⟨p, hpp⟩ : ∃ p, p = s.1 + 1 := ⟨_, rfl⟩
  obtain ⟨g, hg⟩ : ∃ g : Nat → Nat, g = fun d => xs_val (xs_wn n tx p d) := ⟨_, rfl⟩
  have hg' : ∀ d, xs_val (xs_wn n tx p d) = g d := fun d => by rw [hg]
  have hg9 : ∀ d, g d ≤ 9 := fun d => by rw [hg]; exact xs_wn_val (by omega) d
  have hlast : xs_snd (xs_wn n tx p (N - 1)) = xs_wp n tx p N := by
    obtain ⟨k, hk⟩ : ∃ k, N = k + 1 := ⟨N - 1, by omega⟩
    rw [hk]; rfl
  have hw4 : xs_wz4 n tx s = match xs_wp n tx p N with
      | .error e => .error e
      | .ok q => if xs_sum g N = 0 then .error (4, xs_sk n tx (xs_pos (xs_wb n tx p (N - 1)))) else .ok q := by
    unfold xs_wz4
    rw [← hNN, ← hpp, hlast, hg]
    cases xs_wp n tx p N <;> rfl
  rw [hw4]
  rw [← hSS] at hS hS6 ⊢
  rw [← hNN] at hN hN5 hN0 ⊢
  rw [← hpp] at hp ⊢
  simp only [hg']
  have key := xp_forE (body := xf_X11_takesSleeper_L4) (out := fun x => (x.1, x.2.2)) (fun j x => ∃ (τ : xr_S) (q : Nat), x = (nI (xs_sum g j), nI j, τ) ∧ xs_wp n tx p j = .ok q ∧ q ≤ n ∧ τ.1 49 12 = nI q ∧ mX τ n tx ∧ (∀ c, c ≠ 49 → c ≠ 56 → τ.1 c = σ.1 c) ∧ (∀ k, (k < 12 ∨ 14 < k) → τ.1 49 k = σ.1 49 k) ∧ (∀ i, i < 5 * S → τ.1 56 i = σ.1 56 i) ∧ (∀ d, d < j → τ.1 56 (5 * S + d) = nI (g d)) ∧ (0 < j → τ.1 49 13 = nI (xs_sk n tx (xs_pos (xs_wb n tx p (j - 1)))))) (fun o => ∃ (τ : xr_S) (e : Nat × Nat), o = some (0, τ) ∧ xs_wp n tx p N = .error e ∧ mX τ n tx ∧ (∀ c, c ≠ 49 → c ≠ 56 → τ.1 c = σ.1 c) ∧ (∀ k, (k < 12 ∨ 16 < k) → τ.1 49 k = σ.1 49 k) ∧ τ.1 49 15 = nI e.1 ∧ τ.1 49 16 = nI e.2) N (fun j x hj hP => by
      obtain ⟨τ, q, rfl, y1, y2, y3, y4, y5, y6, y7, y8, y9⟩ := hP
      have eN : τ.1 49 17 = nI N := by rw [y6 17 (by omega)]; exact hN
      have eS : τ.1 49 19 = nI S := by rw [y6 19 (by omega)]; exact hS
      have hsl := xs_sum_le hg9 j
      have errN : ∀ e, xs_wp n tx p (j + 1) = .error e → xs_wp n tx p N = .error e := fun e he => by
        have := xs_wp_err he (N - (j + 1))
        rw [show j + 1 + (N - (j + 1)) = N by omega] at this
        exact this
      have hnext : xs_wp n tx p (j + 1) = xs_snd (xs_rn n tx (xs_wb n tx p j) 0 10) := rfl
      -- the comma
      have comma : (∃ τ1 e, xs_wb n tx p j = .error e ∧ mF τ τ1 ∧ τ1.1 49 15 = nI e.1 ∧ τ1.1 49 16 = nI e.2 ∧ ∀ F : xr_S → Option (Int32 × xr_S), (if nI j ≤ 0 then (F τ) else ((xf_X11_takes τ 44).bind (fun p11 => if p11.1 = 0 then (some (0, p11.2)) else (F p11.2)))) = some (0, τ1)) ∨ ∃ τ1 u, xs_wb n tx p j = .ok u ∧ u ≤ n ∧ mF τ τ1 ∧ τ1.1 49 12 = nI u ∧ τ1.1 49 15 = τ.1 49 15 ∧ τ1.1 49 16 = τ.1 49 16 ∧ ∀ F : xr_S → Option (Int32 × xr_S), (if nI j ≤ 0 then (F τ) else ((xf_X11_takes τ 44).bind (fun p11 => if p11.1 = 0 then (some (0, p11.2)) else (F p11.2)))) = F τ1 := by
        by_cases hj0 : j = 0
        · right
          have hq0 : q = p := by rw [hj0] at y1; exact (Except.ok.inj y1).symm
          refine ⟨τ, p, by rw [hj0]; rfl, by omega, mF_rf τ, by rw [← hq0]; exact y3, rfl, rfl, fun F => ?_⟩
          rw [if_pos (show nI j ≤ 0 by rw [hj0]; decide)]
        · obtain ⟨b, τ1, t1, t2, t3⟩ := xe_takes (c := 44) y4 y3 y2 (by decide)
          have t1' : xf_X11_takes τ 44 = some (b, τ1) := t1
          have hwb : xs_wb n tx p j = xs_sgn n tx q 44 := by rw [xs_wb_wp (by omega), y1]; rfl
          cases hz : xs_sgn n tx q 44 with
          | error e =>
            rw [hz] at t3
            left
            refine ⟨τ1, e, by rw [hwb, hz], t2, t3.2.1, t3.2.2, fun F => ?_⟩
            rw [if_neg (nI_nle (by omega) (by omega)), t1', Option.bind_some]
            dsimp only
            rw [if_pos t3.1]
          | ok u =>
            rw [hz] at t3
            right
            refine ⟨τ1, u, by rw [hwb, hz], (xs_sgn_ok hz).2, t2, t3.2.1, t3.2.2.1, t3.2.2.2, fun F => ?_⟩
            rw [if_neg (nI_nle (by omega) (by omega)), t1', Option.bind_some]
            dsimp only
            rw [if_neg (by rw [t3.1]; decide)]
      rcases comma with ⟨τ1, e, c1, c2, c3, c4, c5⟩ | ⟨τ1, u, c1, c2, c3, c4, c5, c6, c7⟩
      · left
        refine ⟨some (0, τ1), ⟨τ1, e, rfl, errN e (by rw [hnext, c1]; rfl), mX_F y4 c2, fun c h1 h2 => by rw [c2.1 c h1, y5 c h1 h2], fun k hk => by rw [c2.2 k (by omega), y6 k (by omega)], c3, c4⟩, fun K rec => ?_⟩
        unfold xf_X11_takesSleeper_L4
        dsimp only
        rw [eN, if_neg (nI_ge hj (by omega)), xp_jn]
        exact c5 (fun w5 => (xf_X11_takesNumber w5 0 9).bind (fun p7 => if p7.1 = 0 then (some (0, p7.2)) else (xr_st p7.2 56 30 ((5 * (p7.2.1 49 19)) + nI j) (p7.2.1 49 14) (fun s8 => xr_v (nI (xs_sum g j) + (s8.1 49 14)) (fun v9 => rec (v9, (nI j + 1), s8))))))
      · have X1 := mX_F y4 c3
        obtain ⟨b, τ2, a1, a2, a3, a4⟩ := xe_rnM (lo := 0) (hi := 10) (y := 9) X1 c4 c2 (by decide) (by decide) (by decide)
        have a1' : xf_X11_takesNumber τ1 0 9 = some (b, τ2) := a1
        have X2 := mX_F X1 a2
        have hwn : xs_rn n tx (xs_wb n tx p j) 0 10 = xs_num n tx u 0 10 := by rw [c1]; rfl
        rw [hwn] at hnext
        have hwn' : xs_wn n tx p j = xs_num n tx u 0 10 := hwn
        have f2 : ∀ k, (k < 12 ∨ 16 < k) → τ2.1 49 k = σ.1 49 k := fun k hk => by rw [a2.2 k hk, c3.2 k hk, y6 k (by omega)]
        have f2c : ∀ c, c ≠ 49 → τ2.1 c = τ.1 c := fun c h => by rw [a2.1 c h, c3.1 c h]
        cases hz : xs_num n tx u 0 10 with
        | error e =>
          rw [hz] at a3
          left
          refine ⟨some (0, τ2), ⟨τ2, e, rfl, errN e (by rw [hnext, hz]; rfl), X2, fun c h1 h2 => by rw [f2c c h1, y5 c h1 h2], f2, a3.2.1, a3.2.2⟩, fun K rec => ?_⟩
          unfold xf_X11_takesSleeper_L4
          dsimp only
          rw [eN, if_neg (nI_ge hj (by omega)), xp_jn]
          refine (c7 (fun w5 => (xf_X11_takesNumber w5 0 9).bind (fun p7 => if p7.1 = 0 then (some (0, p7.2)) else (xr_st p7.2 56 30 ((5 * (p7.2.1 49 19)) + nI j) (p7.2.1 49 14) (fun s8 => xr_v (nI (xs_sum g j) + (s8.1 49 14)) (fun v9 => rec (v9, (nI j + 1), s8))))))).trans ?_
          rw [a1', Option.bind_some]
          dsimp only
          rw [if_pos a3.1]
        | ok x =>
          rw [hz] at a3
          obtain ⟨m1, m2, m3⟩ := a4 x hz
          right
          have hgx : g j = x.1 := by rw [hg]; show xs_val (xs_wn n tx p j) = x.1; rw [hwn', hz]; rfl
          have eS2 : τ2.1 49 19 = nI S := by rw [f2 19 (by omega)]; exact hS
          refine ⟨(nI (xs_sum g (j + 1)), nI (j + 1), xr_up τ2 56 (5 * S + j) (nI x.1)), ⟨_, x.2, rfl, by rw [hnext, hz]; rfl, m3, by rw [xp_other (by decide)]; exact a3.2.1, mX_up X2 (Or.inl (by decide)) (by decide), fun c h1 h2 => by rw [xp_other h2, f2c c h1, y5 c h1 h2], fun k hk => ?_, fun i hi => by rw [xp_same, xp_un (by omega), f2c 56 (by decide), y7 i hi], fun d hd => ?_, fun _ => ?_⟩, fun K rec => ?_⟩
          · rw [xp_other (by decide)]
            rcases Nat.lt_or_ge k 17 with h17 | h17
            · rcases hk with h | h
              · exact f2 k (by omega)
              · have : k = 15 ∨ k = 16 := by omega
                rcases this with h | h
                · rw [h, a3.2.2.1, c5, y6 15 (by omega)]
                · rw [h, a3.2.2.2, c6, y6 16 (by omega)]
            · exact f2 k (by omega)
          · rw [xp_same]
            by_cases hdj : d = j
            · rw [hdj, xp_us, hgx]
            · rw [xp_un (by omega), f2c 56 (by decide), y8 d (by omega)]
          · rw [xp_other (by decide), m2, show j + 1 - 1 = j by omega, c1]; rfl
          · unfold xf_X11_takesSleeper_L4
            dsimp only
            rw [eN, if_neg (nI_ge hj (by omega)), xp_jn]
            refine (c7 (fun w5 => (xf_X11_takesNumber w5 0 9).bind (fun p7 => if p7.1 = 0 then (some (0, p7.2)) else (xr_st p7.2 56 30 ((5 * (p7.2.1 49 19)) + nI j) (p7.2.1 49 14) (fun s8 => xr_v (nI (xs_sum g j) + (s8.1 49 14)) (fun v9 => rec (v9, (nI j + 1), s8))))))).trans ?_
            rw [a1', Option.bind_some]
            dsimp only
            rw [if_neg (by rw [a3.1]; decide), eS2, m1, show (5 : Int32) = nI 5 from rfl, pk_mul, nI_add, xp_st (by omega) (by omega), xp_other (by decide), m1, xp_v, nI_add, nI_1]
            simp only [xs_sum, hgx]) (fun x hP K rec => by
      obtain ⟨τ, q, rfl, y1, y2, y3, y4, y5, y6, y7, y8, y9⟩ := hP
      have eN : τ.1 49 17 = nI N := by rw [y6 17 (by omega)]; exact hN
      unfold xf_X11_takesSleeper_L4
      dsimp only
      rw [eN, if_pos (nI_le (Nat.le_refl _) (by omega))]) N 0 (by omega) (0, 0, σ) ⟨σ, p, rfl, rfl, by omega, hp, hX, fun _ _ _ => rfl, fun _ _ => rfl, fun _ _ => rfl, fun d hd => by omega, fun h => by omega⟩
  rcases key with ⟨v, ⟨τ, e, rfl, k1, k2, k3, k4, k5, k6⟩, kk⟩ | ⟨x, ⟨τ, q, rfl, y1, y2, y3, y4, y5, y6, y7, y8, y9⟩, kk⟩
  · rw [k1]
    refine ⟨0, τ, ?_, k2, k3, fun k hk _ => k4 k hk, ⟨rfl, k5, k6⟩, fun q hq => (by cases hq)⟩
    unfold xf_X11_takesSleeper
    exact kk _
  · rw [y1]
    have hsl := xs_sum_le hg9 N
    have eS : τ.1 49 19 = nI S := by rw [y6 19 (by omega)]; exact hS
    obtain ⟨τ1, hτ1⟩ : ∃ τ1, τ1 = xr_up τ 49 19 (nI (S + 1)) := ⟨_, rfl⟩
    have f1 : ∀ k, k ≠ 19 → τ1.1 49 k = τ.1 49 k := fun k h => by rw [hτ1, xp_same, xp_un h]
    have f1c : ∀ c, c ≠ 49 → τ1.1 c = τ.1 c := fun c h => by rw [hτ1, xp_other h]
    have X1 : mX τ1 n tx := by rw [hτ1]; exact mX_up y4 (Or.inr (by decide)) (by decide)
    dsimp only
    have hrun : xf_X11_takesSleeper σ = if 0 < nI (xs_sum g N) then (some (1, τ1)) else ((xf_X11_fails τ1 4 (τ1.1 49 13)).bind (fun p13 => if p13.1 = 0 then (some (0, p13.2)) else (some (1, p13.2)))) := by
      unfold xf_X11_takesSleeper
      refine (kk _).trans ?_
      dsimp only
      rw [xp_pf, eS, nI_1, ← hτ1]
    rw [hrun]
    by_cases hz : xs_sum g N = 0
    · have e1 : xf_X11_fails τ1 4 (nI (xs_sk n tx (xs_pos (xs_wb n tx p (N - 1))))) = some (0, xr_up (xr_up τ1 49 15 (nI 4)) 49 16 (nI (xs_sk n tx (xs_pos (xs_wb n tx p (N - 1)))))) := xe_failsM
      rw [if_pos hz]
      refine ⟨0, xr_up (xr_up τ1 49 15 (nI 4)) 49 16 (nI (xs_sk n tx (xs_pos (xs_wb n tx p (N - 1))))), ?_, mX_up (mX_up X1 (Or.inr (by decide)) (by decide)) (Or.inr (by decide)) (by decide), fun c h1 h2 => by rw [xp_other h1, xp_other h1, f1c c h1, y5 c h1 h2], fun k hk h19 => by rw [xp_same, xp_un (by omega), xp_same, xp_un (by omega), f1 k h19, y6 k (by omega)], ⟨rfl, by rw [xp_same, xp_un (by decide), xp_same, xp_us], by rw [xp_same, xp_us]⟩, fun q hq => (by cases hq)⟩
      rw [if_neg (show ¬ (0 : Int32) < nI (xs_sum g N) by rw [hz]; decide), f1 13 (by decide), y9 hN0, e1, Option.bind_some]
      rfl
    · rw [if_neg hz]
      refine ⟨1, τ1, ?_, X1, fun c h1 h2 => by rw [f1c c h1, y5 c h1 h2], fun k hk h19 => by rw [f1 k h19, y6 k (by omega)], ⟨rfl, by rw [f1 12 (by decide)]; exact y3, by rw [f1 15 (by decide), y6 15 (by omega)], by rw [f1 16 (by decide), y6 16 (by omega)]⟩, fun q' hq' => ⟨by cases hq'; exact y2, by rw [hτ1, xp_same, xp_us], fun i hi => by rw [f1c 56 (by decide)]; exact y7 i hi, fun d hd => by rw [f1c 56 (by decide)]; exact y8 d hd⟩⟩
      rw [if_pos (show (0 : Int32) < nI (xs_sum g N) from nI_lt (a := 0) (by omega) (by omega))]
