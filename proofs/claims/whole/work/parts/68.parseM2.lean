/-! the whole text, read by the reference -/
def mO (n : Nat) (tx : Nat → Nat) (σ τ : xr_S) (b : Int32) (r : Except (Nat × Nat) xa_P) : Prop := mX τ n tx ∧ (∀ c, c ≠ 49 → c ≠ 56 → c ≠ 57 → τ.1 c = σ.1 c) ∧ (∀ k, (k < 12 ∨ 22 < k) → τ.1 49 k = σ.1 49 k) ∧ match r with
  | .ok s => b = 1 ∧ τ.1 49 12 = nI s.1 ∧ mS τ s ∧ τ.1 49 15 = σ.1 49 15 ∧ τ.1 49 16 = σ.1 49 16
  | .error e => b = 0 ∧ τ.1 49 15 = nI e.1 ∧ τ.1 49 16 = nI e.2
theorem mO_of {n : Nat} {tx : Nat → Nat} {σ τ ρ : xr_S} {b : Int32} {r : Except (Nat × Nat) xa_P} (h : mO n tx τ ρ b r) (hc : ∀ c, c ≠ 49 → c ≠ 56 → c ≠ 57 → τ.1 c = σ.1 c) (hk : ∀ k, (k < 12 ∨ 14 < k) → τ.1 49 k = σ.1 49 k) : mO n tx σ ρ b r := by
  obtain ⟨h1, h2, h3, h4⟩ := h
  refine ⟨h1, fun c a b d => by rw [h2 c a b d, hc c a b d], fun k a => by rw [h3 k a, hk k (by omega)], ?_⟩
  cases r with
  | error e => exact h4
  | ok s => exact ⟨h4.1, h4.2.1, h4.2.2.1, by rw [h4.2.2.2.1, hk 15 (by omega)], by rw [h4.2.2.2.2, hk 16 (by omega)]⟩
/-- a clause from the word on -/
theorem xe_mBody {σ : xr_S} {n : Nat} {tx : Nat → Nat} {s : xa_P} (hX : mX σ n tx) (hp : s.1 < n) (hs : xs_pi s) (h12 : σ.1 49 12 = nI s.1) (hS : mS σ s) : (tx s.1 = 100 → tN s.2.1 = 0 → ∃ b τ, (xr_jn (fun (w8 : (Int32 × xr_S)) => if w8.1 = 0 then (some (0, w8.2)) else ((xf_X11_takes w8.2 59).bind (fun p10 => if p10.1 = 0 then (some (0, p10.2)) else (some (1, p10.2))))) (fun j9 => (xf_X11_takesDreams (xr_up σ 49 12 (nI (s.1 + 1)))).bind (fun p11 => j9 (p11.1, p11.2)))) = some (b, τ) ∧ mO n tx σ τ b (xs_cD n tx s)) ∧ (0 < tN s.2.1 → tL s.2.1 < 7 → ∃ b τ, (xr_jn (fun (w8 : (Int32 × xr_S)) => if w8.1 = 0 then (some (0, w8.2)) else ((xf_X11_takes w8.2 59).bind (fun p10 => if p10.1 = 0 then (some (0, p10.2)) else (some (1, p10.2))))) (fun j9 => (xf_X11_takesLoaf (xr_up σ 49 12 (nI (s.1 + 1)))).bind (fun p11 => j9 (p11.1, p11.2)))) = some (b, τ) ∧ mO n tx σ τ b (xs_cL n tx s)) ∧ (0 < tN s.2.1 → ∃ b τ, (xr_jn (fun (w8 : (Int32 × xr_S)) => if w8.1 = 0 then (some (0, w8.2)) else ((xf_X11_takes w8.2 59).bind (fun p10 => if p10.1 = 0 then (some (0, p10.2)) else (some (1, p10.2))))) (fun j9 => (xf_X11_takesMare (xr_up σ 49 12 (nI (s.1 + 1)))).bind (fun p11 => j9 (p11.1, p11.2)))) = some (b, τ) ∧ mO n tx σ τ b (xs_cN n tx s)) ∧ (0 < tN s.2.1 → tS s.2.1 < 6 → ∃ b τ, (xr_jn (fun (w8 : (Int32 × xr_S)) => if w8.1 = 0 then (some (0, w8.2)) else ((xf_X11_takes w8.2 59).bind (fun p10 => if p10.1 = 0 then (some (0, p10.2)) else (some (1, p10.2))))) (fun j9 => (xf_X11_takesSleeper (xr_up σ 49 12 (nI (s.1 + 1)))).bind (fun p11 => j9 (p11.1, p11.2)))) = some (b, τ) ∧ mO n tx σ τ b (xs_cS n tx s)) := by
  obtain ⟨t1, t2, t3, t4, t5, t6, t7⟩ := id hs.1
  obtain ⟨s0, s1, s2, s3, s4, s5, s6, s7⟩ := id hS
  obtain ⟨τ0, hτ0⟩ : ∃ τ0, τ0 = xr_up σ 49 12 (nI (s.1 + 1)) := ⟨_, rfl⟩
  rw [← hτ0]
  have f0 : ∀ k, k ≠ 12 → τ0.1 49 k = σ.1 49 k := fun k h => by rw [hτ0, xp_same, xp_un h]
  have f0c : ∀ c, c ≠ 49 → τ0.1 c = σ.1 c := fun c h => by rw [hτ0, xp_other h]
  have e12 : τ0.1 49 12 = nI (s.1 + 1) := by rw [hτ0, xp_same, xp_us]
  have X0 : mX τ0 n tx := by rw [hτ0]; exact mX_up hX (Or.inr (by decide)) (by decide)
  have eN : τ0.1 49 17 = nI (tN s.2.1) := by rw [f0 17 (by decide)]; exact s0
  have eS : τ0.1 49 19 = nI (tS s.2.1) := by rw [f0 19 (by decide)]; exact s2
  have eL : τ0.1 49 20 = nI (tL s.2.1) := by rw [f0 20 (by decide)]; exact s3
  refine ⟨fun h100 hN => ?_, fun hN hL7 => ?_, fun hN => ?_, fun hN hS6 => ?_⟩
  · obtain ⟨b, τ, a1, a2, a3, a4, a5, a6⟩ := xe_mD X0 e12 hp
    obtain ⟨b', τ', d1, d2, d3⟩ := xe_tail a2 a5 (fun q hq => (a6 q hq).1)
    refine ⟨b', τ', by rw [xp_jn, a1, Option.bind_some]; exact d1, mX_F a2 d2, fun c h1 _ _ => by rw [d2.1 c h1, a3 c h1, f0c c h1], fun k hk => by rw [d2.2 k (by omega), a4 k (by omega), f0 k (by omega)], ?_⟩
    unfold xs_cD
    cases hz : xs_rs n tx (xs_snd (xs_d2 n tx s.1)) 59 with
    | error e => rw [hz] at d3; exact d3
    | ok z =>
      rw [hz] at d3
      obtain ⟨q, k1, -⟩ := xs_rs_ok hz
      obtain ⟨m1, m2, m3⟩ := a6 q k1
      have hS0 : tS s.2.1 = 0 := by
        rcases Nat.eq_zero_or_pos (tS s.2.1) with h | h
        · exact h
        · have := t6 h; omega
      have hL0 : tL s.2.1 = 0 := by
        rcases Nat.eq_zero_or_pos (tL s.2.1) with h | h
        · exact h
        · have := (t7 0 h).2.1; omega
      refine ⟨d3.1, d3.2.1, ⟨by rw [d2.2 17 (by omega), m2]; rfl, by rw [d2.2 18 (by omega), m3]; rfl, by rw [d2.2 19 (by omega), a4 19 (by omega)]; exact eS, by rw [d2.2 20 (by omega), a4 20 (by omega)]; exact eL, by rw [d2.2 21 (by omega), a4 21 (by omega), f0 21 (by decide)]; exact s4, by rw [d2.2 22 (by omega), a4 22 (by omega), f0 22 (by decide)]; exact s5, fun i d hi _ => ?_, fun l hl => ?_⟩, by rw [d3.2.2.1, f0 15 (by decide)], by rw [d3.2.2.2, f0 16 (by decide)]⟩
      · have hi' : i < tS s.2.1 := hi
        omega
      · have hl' : l < tL s.2.1 := hl
        omega
  · obtain ⟨b, τ, a1, a2, a3, a4, a5, a6⟩ := xe_mL X0 e12 hp eS eN eL t1 t3 hL7
    obtain ⟨b', τ', d1, d2, d3⟩ := xe_tail a2 a5 (fun q hq => (a6 q hq).1)
    refine ⟨b', τ', by rw [xp_jn, a1, Option.bind_some]; exact d1, mX_F a2 d2, fun c h1 _ h3 => by rw [d2.1 c h1, a3 c h1 h3, f0c c h1], fun k hk => by rw [d2.2 k (by omega), a4 k (by omega) (by omega), f0 k (by omega)], ?_⟩
    unfold xs_cL
    cases hz : xs_rs n tx (xs_snd (xs_l3 n tx s)) 59 with
    | error e => rw [hz] at d3; exact d3
    | ok z =>
      rw [hz] at d3
      obtain ⟨q, k1, -⟩ := xs_rs_ok hz
      obtain ⟨m1, m2, m3, m4, m5, m6⟩ := a6 q k1
      have g : ∀ k, (16 < k) → k ≠ 20 → τ'.1 49 k = σ.1 49 k := fun k hk h => by rw [d2.2 k (by omega), a4 k (by omega) h, f0 k (by omega)]
      refine ⟨d3.1, d3.2.1, ⟨by rw [g 17 (by omega) (by decide)]; exact s0, by rw [g 18 (by omega) (by decide)]; exact s1, by rw [g 19 (by omega) (by decide)]; exact s2, by rw [d2.2 20 (by omega), m2]; rfl, by rw [g 21 (by omega) (by decide)]; exact s4, by rw [g 22 (by omega) (by decide)]; exact s5, fun i d hi hd => by rw [d2.1 56 (by decide), a3 56 (by decide) (by decide), f0c 56 (by decide)]; exact s6 i d hi hd, fun l hl => ?_⟩, by rw [d3.2.2.1, f0 15 (by decide)], by rw [d3.2.2.2, f0 16 (by decide)]⟩
      have hl' : l < tL s.2.1 + 1 := hl
      show τ'.1 57 (3 * l) = nI (xs_put (tE s.2.1) (tL s.2.1) (xs_val (xs_l1 n tx s)) l) ∧ τ'.1 57 (3 * l + 1) = nI (xs_put (tW s.2.1) (tL s.2.1) (xs_val (xs_l2 n tx s)) l) ∧ τ'.1 57 (3 * l + 2) = nI (xs_put (tV s.2.1) (tL s.2.1) (xs_val (xs_l3 n tx s)) l)
      unfold xs_put
      rw [d2.1 57 (by decide)]
      by_cases hlL : l = tL s.2.1
      · rw [if_pos hlL, if_pos hlL, if_pos hlL, hlL]
        exact ⟨m4, m5, m6⟩
      · rw [if_neg hlL, if_neg hlL, if_neg hlL, m3 _ (by omega), m3 _ (by omega), m3 _ (by omega), f0c 57 (by decide)]
        exact s7 l (by omega)
  · obtain ⟨b, τ, a1, a2, a3, a4, a5, a6⟩ := xe_mN X0 e12 hp eN t1
    obtain ⟨b', τ', d1, d2, d3⟩ := xe_tail a2 a5 (fun q hq => (a6 q hq).1)
    refine ⟨b', τ', by rw [xp_jn, a1, Option.bind_some]; exact d1, mX_F a2 d2, fun c h1 _ _ => by rw [d2.1 c h1, a3 c h1, f0c c h1], fun k hk => by rw [d2.2 k (by omega), a4 k (by omega) (by omega) (by omega), f0 k (by omega)], ?_⟩
    unfold xs_cN
    cases hz : xs_rs n tx (xs_snd (xs_n1 n tx s)) 59 with
    | error e => rw [hz] at d3; exact d3
    | ok z =>
      rw [hz] at d3
      obtain ⟨q, k1, -⟩ := xs_rs_ok hz
      obtain ⟨m1, m2, m3⟩ := a6 q k1
      have g : ∀ k, (16 < k) → k ≠ 21 → k ≠ 22 → τ'.1 49 k = σ.1 49 k := fun k hk h h' => by rw [d2.2 k (by omega), a4 k (by omega) h h', f0 k (by omega)]
      exact ⟨d3.1, d3.2.1, ⟨by rw [g 17 (by omega) (by decide) (by decide)]; exact s0, by rw [g 18 (by omega) (by decide) (by decide)]; exact s1, by rw [g 19 (by omega) (by decide) (by decide)]; exact s2, by rw [g 20 (by omega) (by decide) (by decide)]; exact s3, by rw [d2.2 21 (by omega), m2]; rfl, by rw [d2.2 22 (by omega), m3], fun i d hi hd => by rw [d2.1 56 (by decide), a3 56 (by decide), f0c 56 (by decide)]; exact s6 i d hi hd, fun l hl => by rw [d2.1 57 (by decide), a3 57 (by decide), f0c 57 (by decide)]; exact s7 l hl⟩, by rw [d3.2.2.1, f0 15 (by decide)], by rw [d3.2.2.2, f0 16 (by decide)]⟩
  · obtain ⟨b, τ, a1, a2, a3, a4, a5, a6⟩ := xe_mSl X0 e12 hp eS eN t1 hN hS6
    obtain ⟨b', τ', d1, d2, d3⟩ := xe_tail a2 a5 (fun q hq => (a6 q hq).1)
    refine ⟨b', τ', by rw [xp_jn, a1, Option.bind_some]; exact d1, mX_F a2 d2, fun c h1 h2 _ => by rw [d2.1 c h1, a3 c h1 h2, f0c c h1], fun k hk => by rw [d2.2 k (by omega), a4 k (by omega) (by omega), f0 k (by omega)], ?_⟩
    unfold xs_cS
    cases hz : xs_rs n tx (xs_wz4 n tx s) 59 with
    | error e => rw [hz] at d3; exact d3
    | ok z =>
      rw [hz] at d3
      obtain ⟨q, k1, -⟩ := xs_rs_ok hz
      obtain ⟨m1, m2, m3, m4⟩ := a6 q k1
      have g : ∀ k, (16 < k) → k ≠ 19 → τ'.1 49 k = σ.1 49 k := fun k hk h => by rw [d2.2 k (by omega), a4 k (by omega) h, f0 k (by omega)]
      refine ⟨d3.1, d3.2.1, ⟨by rw [g 17 (by omega) (by decide)]; exact s0, by rw [g 18 (by omega) (by decide)]; exact s1, by rw [d2.2 19 (by omega), m2]; rfl, by rw [g 20 (by omega) (by decide)]; exact s3, by rw [g 21 (by omega) (by decide)]; exact s4, by rw [g 22 (by omega) (by decide)]; exact s5, fun i d hi hd => ?_, fun l hl => by rw [d2.1 57 (by decide), a3 57 (by decide) (by decide), f0c 57 (by decide)]; exact s7 l hl⟩, by rw [d3.2.2.1, f0 15 (by decide)], by rw [d3.2.2.2, f0 16 (by decide)]⟩
      have hi' : i < tS s.2.1 + 1 := hi
      have hd' : d < tN s.2.1 := hd
      show τ'.1 56 (5 * i + d) = nI (xs_row s.2.2.1 (tS s.2.1) (tN s.2.1) (fun d => xs_val (xs_wn n tx (s.1 + 1) d)) i d)
      unfold xs_row
      rw [d2.1 56 (by decide)]
      by_cases his : i = tS s.2.1
      · rw [if_pos ⟨his, hd'⟩, his]
        exact m4 d hd'
      · rw [if_neg (fun h => his h.1), m3 _ (by omega), f0c 56 (by decide)]
        exact s6 i d (by omega) hd'
theorem xe_clauseM {σ : xr_S} {n p : Nat} {tx : Nat → Nat} {s : xa_P} (hX : mX σ n tx) (h12 : σ.1 49 12 = nI p) (hpn : p ≤ n) (hsp : s.1 = xs_sk n tx p) (hp : s.1 < n) (hs : xs_pi s) (hS : mS σ s) : ∃ b τ, xf_X11_takesClause σ = some (b, τ) ∧ mO n tx σ τ b (xs_cl n tx s) := by
  obtain ⟨t1, t2, t3, t4, t5, t6, t7⟩ := id hs.1
  obtain ⟨τ0, z1, z2, z3, z4, z5⟩ := xe_here hX h12 hpn
  rw [← hsp] at z1 z3 z4
  have X0 := mX_F hX z2
  have hn := hX.1
  have htx := hX.2.1 s.1 hp
  have hlet : xs_let n tx s.1 = nI (tx s.1) := by unfold xs_let; rw [if_pos hp]
  rw [hlet] at z1
  obtain ⟨s0, s1, s2, s3, s4, s5, s6, s7⟩ := id hS
  have hS0 : mS τ0 s := ⟨by rw [z5 17 (by decide)]; exact s0, by rw [z5 18 (by decide)]; exact s1, by rw [z5 19 (by decide)]; exact s2, by rw [z5 20 (by decide)]; exact s3, by rw [z5 21 (by decide)]; exact s4, by rw [z5 22 (by decide)]; exact s5, fun i d hi hd => by rw [z2.1 56 (by decide)]; exact s6 i d hi hd, fun l hl => by rw [z2.1 57 (by decide)]; exact s7 l hl⟩
  obtain ⟨bD, bL, bN, bS⟩ := xe_mBody X0 hp hs z3 hS0
  have up : ∀ {ρ : xr_S} {b : Int32} {r : Except (Nat × Nat) xa_P}, mO n tx τ0 ρ b r → mO n tx σ ρ b r := fun h => mO_of h (fun c a _ _ => z2.1 c a) (fun k hk => by
    rcases hk with h | h
    · exact z2.2 k (by omega)
    · exact z5 k (by omega))
  have eqn : ∀ c, c < 1000 → (nI (tx s.1) = nI c) = (tx s.1 = c) := fun c hc => xp_eq (by omega) (by omega)
  have hfail : ∀ k, k < 10 → ∃ τ, xf_X11_fails τ0 (nI k) (τ0.1 49 13) = some (0, τ) ∧ mO n tx τ0 τ 0 (.error (k, s.1)) := fun k hk => by
    rw [z4]
    exact ⟨_, xe_failsM, mX_up (mX_up X0 (Or.inr (by decide)) (by decide)) (Or.inr (by decide)) (by decide), fun c h _ _ => by rw [xp_other h, xp_other h], fun j hj => by rw [xp_same, xp_un (by omega), xp_same, xp_un (by omega)], rfl, by rw [xp_same, xp_un (by decide), xp_same, xp_us], by rw [xp_same, xp_us]⟩
  unfold xf_X11_takesClause
  rw [z1, Option.bind_some]
  dsimp only
  rw [xp_jn, hS0.1]
  by_cases h100 : tx s.1 = 100
  · have e100 : nI (tx s.1) = 100 := by rw [h100]; rfl
    rw [if_pos e100]
    dsimp only
    rw [if_neg (by decide), xp_jn, if_pos e100]
    by_cases hN : tN s.2.1 = 0
    · have hcl : xs_cl n tx s = xs_cD n tx s := by unfold xs_cl; rw [if_pos h100, if_pos hN]
      rw [hcl]
      obtain ⟨b, τ, d1, d2⟩ := bD h100 hN
      refine ⟨b, τ, ?_, up d2⟩
      rw [if_pos (show nI (tN s.2.1) ≤ 0 by rw [hN]; decide)]
      dsimp only
      rw [if_pos (show (0 : Int32) = 0 from rfl), z3, nI_1, xp_pf, xp_jn, if_pos e100]
      exact d1
    · have hcl : xs_cl n tx s = .error (3, s.1) := by unfold xs_cl; rw [if_pos h100, if_neg hN]
      rw [hcl]
      obtain ⟨τ, d1, d2⟩ := hfail 3 (by decide)
      have d1' : xf_X11_fails τ0 3 (τ0.1 49 13) = some (0, τ) := d1
      refine ⟨0, τ, ?_, up d2⟩
      rw [if_neg (nI_nle (by omega) (by omega))]
      dsimp only
      rw [if_neg (by decide), d1', Option.bind_some]
      exact xp_zb0
  · have n100 : ¬ nI (tx s.1) = 100 := fun h => h100 ((eqn 100 (by decide)).mp h)
    rw [if_neg n100]
    by_cases hN : tN s.2.1 = 0
    · have hcl : xs_cl n tx s = .error (1, s.1) := by unfold xs_cl; rw [if_neg h100, if_pos hN]
      rw [hcl]
      obtain ⟨τ, d1, d2⟩ := hfail 1 (by decide)
      have d1' : xf_X11_fails τ0 1 (τ0.1 49 13) = some (0, τ) := d1
      refine ⟨0, τ, ?_, up d2⟩
      rw [if_pos (show nI (tN s.2.1) ≤ 0 by rw [hN]; decide)]
      dsimp only
      rw [if_pos (show (0 : Int32) = 0 from rfl), d1', Option.bind_some]
      exact xp_zb0
    · rw [if_neg (nI_nle (by omega) (by omega))]
      have full : ∃ τ, xf_X11_fails τ0 3 (τ0.1 49 13) = some (0, τ) ∧ mO n tx τ0 τ 0 (.error (3, s.1)) := hfail 3 (by decide)
      by_cases h115 : tx s.1 = 115
      · have e115 : nI (tx s.1) = 115 := by rw [h115]; rfl
        have n108 : ¬ tx s.1 = 108 := by omega
        have n110 : ¬ tx s.1 = 110 := by omega
        have hcl : xs_cl n tx s = (if tS s.2.1 < 6 then xs_cS n tx s else .error (3, s.1)) := by unfold xs_cl; rw [if_neg h100, if_neg hN, if_neg n108, if_neg n110, if_pos h115]
        rw [hcl, if_pos e115]
        dsimp only
        rw [if_neg (by decide), xp_jn, if_neg n100, if_pos e115, hS0.2.2.1]
        by_cases h6 : tS s.2.1 < 6
        · rw [if_pos h6]
          obtain ⟨b, τ, d1, d2⟩ := bS (by omega) h6
          refine ⟨b, τ, ?_, up d2⟩
          rw [if_neg (show ¬ nI (tS s.2.1) = 6 by rw [show (6 : Int32) = nI 6 from rfl, xp_eq (by omega) (by omega)]; omega)]
          dsimp only
          rw [if_pos (show (0 : Int32) = 0 from rfl), z3, nI_1, xp_pf, xp_jn, if_neg n100, if_pos e115]
          exact d1
        · rw [if_neg h6]
          obtain ⟨τ, d1, d2⟩ := full
          refine ⟨0, τ, ?_, up d2⟩
          rw [if_pos (show nI (tS s.2.1) = 6 by rw [show tS s.2.1 = 6 by omega]; rfl)]
          dsimp only
          rw [if_neg (by decide), d1, Option.bind_some]
          exact xp_zb0
      · have n115 : ¬ nI (tx s.1) = 115 := fun h => h115 ((eqn 115 (by decide)).mp h)
        rw [if_neg n115]
        by_cases h108 : tx s.1 = 108
        · have e108 : nI (tx s.1) = 108 := by rw [h108]; rfl
          have hcl : xs_cl n tx s = (if tL s.2.1 < 7 then xs_cL n tx s else .error (3, s.1)) := by unfold xs_cl; rw [if_neg h100, if_neg hN, if_pos h108]
          rw [hcl, if_pos e108]
          dsimp only
          rw [if_neg (by decide), xp_jn, if_neg n100, if_neg n115, if_pos e108, hS0.2.2.2.1]
          by_cases h7 : tL s.2.1 < 7
          · rw [if_pos h7]
            obtain ⟨b, τ, d1, d2⟩ := bL (by omega) h7
            refine ⟨b, τ, ?_, up d2⟩
            rw [if_neg (show ¬ nI (tL s.2.1) = 7 by rw [show (7 : Int32) = nI 7 from rfl, xp_eq (by omega) (by omega)]; omega)]
            dsimp only
            rw [if_pos (show (0 : Int32) = 0 from rfl), z3, nI_1, xp_pf, xp_jn, if_neg n100, if_neg n115, if_pos e108]
            exact d1
          · rw [if_neg h7]
            obtain ⟨τ, d1, d2⟩ := full
            refine ⟨0, τ, ?_, up d2⟩
            rw [if_pos (show nI (tL s.2.1) = 7 by rw [show tL s.2.1 = 7 by omega]; rfl)]
            dsimp only
            rw [if_neg (by decide), d1, Option.bind_some]
            exact xp_zb0
        · have n108 : ¬ nI (tx s.1) = 108 := fun h => h108 ((eqn 108 (by decide)).mp h)
          rw [if_neg n108]
          by_cases h110 : tx s.1 = 110
          · have e110 : nI (tx s.1) = 110 := by rw [h110]; rfl
            have hcl : xs_cl n tx s = (if s.2.2.2 then .error (3, s.1) else xs_cN n tx s) := by unfold xs_cl; rw [if_neg h100, if_neg hN, if_neg h108, if_pos h110]
            rw [hcl, if_pos e110]
            dsimp only
            rw [if_neg (by decide), xp_jn, if_neg n100, if_neg n115, if_neg n108]
            dsimp only
            rw [hS0.2.2.2.2.2.1]
            cases hm : s.2.2.2 with
            | false =>
              rw [if_neg (show ¬ (false = true) by decide)]
              obtain ⟨b, τ, d1, d2⟩ := bN (by omega)
              refine ⟨b, τ, ?_, up d2⟩
              rw [if_pos (show bI false = 0 from rfl), z3, nI_1, xp_pf, xp_jn, if_neg n100, if_neg n115, if_neg n108]
              exact d1
            | true =>
              rw [if_pos rfl]
              obtain ⟨τ, d1, d2⟩ := full
              refine ⟨0, τ, ?_, up d2⟩
              have d1' : xf_X11_fails τ0 3 (τ0.1 49 13) = some (0, τ) := d1
              rw [if_neg (show ¬ bI true = 0 by decide), d1', Option.bind_some]
              exact xp_zb0
          · have n110 : ¬ nI (tx s.1) = 110 := fun h => h110 ((eqn 110 (by decide)).mp h)
            have hcl : xs_cl n tx s = .error (1, s.1) := by unfold xs_cl; rw [if_neg h100, if_neg hN, if_neg h108, if_neg h110, if_neg h115]
            rw [hcl, if_neg n110]
            obtain ⟨τ, d1, d2⟩ := hfail 1 (by decide)
            have d1' : xf_X11_fails τ0 1 (τ0.1 49 13) = some (0, τ) := d1
            refine ⟨0, τ, ?_, up d2⟩
            dsimp only
            rw [if_pos (show (0 : Int32) = 0 from rfl), d1', Option.bind_some]
            exact xp_zb0
