/-! clauses, read by the reference -/
def mS (σ : xr_S) (s : xa_P) : Prop := σ.1 49 17 = nI (tN s.2.1) ∧ σ.1 49 18 = nI (tG s.2.1) ∧ σ.1 49 19 = nI (tS s.2.1) ∧ σ.1 49 20 = nI (tL s.2.1) ∧ σ.1 49 21 = nI (tM s.2.1) ∧ σ.1 49 22 = bI s.2.2.2 ∧ (∀ i d, i < tS s.2.1 → d < tN s.2.1 → σ.1 56 (5 * i + d) = nI (s.2.2.1 i d)) ∧ ∀ l, l < tL s.2.1 → σ.1 57 (3 * l) = nI (tE s.2.1 l) ∧ σ.1 57 (3 * l + 1) = nI (tW s.2.1 l) ∧ σ.1 57 (3 * l + 2) = nI (tV s.2.1 l)
/-- where the reading stands, or the fault -/
def mP (σ τ : xr_S) (b : Int32) (r : Except (Nat × Nat) Nat) : Prop := match r with
  | .ok q => b = 1 ∧ τ.1 49 12 = nI q ∧ τ.1 49 15 = σ.1 49 15 ∧ τ.1 49 16 = σ.1 49 16
  | .error e => b = 0 ∧ τ.1 49 15 = nI e.1 ∧ τ.1 49 16 = nI e.2
theorem xe_rnM {σ : xr_S} {n p lo hi : Nat} {y : Int32} {tx : Nat → Nat} (hX : mX σ n tx) (hp : σ.1 49 12 = nI p) (hp2 : p ≤ n) (hlo : lo < 1000) (hhi : hi < 1000) (hy : y = nI hi - 1) : ∃ b τ, xf_X11_takesNumber σ (nI lo) y = some (b, τ) ∧ mF σ τ ∧ mP σ τ b (xs_snd (xs_num n tx p lo hi)) ∧ ∀ x, xs_num n tx p lo hi = .ok x → τ.1 49 14 = nI x.1 ∧ τ.1 49 13 = nI (xs_sk n tx p) ∧ x.2 ≤ n := by
  obtain ⟨b, τ, h1, h2, h3⟩ := xe_takesNumber hX hp hp2 hlo hhi hy
  refine ⟨b, τ, h1, h2, ?_, fun x hx => ?_⟩
  · cases hq : xs_num n tx p lo hi with
    | error e => rw [hq] at h3; exact h3
    | ok x => rw [hq] at h3; exact ⟨h3.1, h3.2.1.1, h3.2.2.1, h3.2.2.2⟩
  · rw [hx] at h3
    exact ⟨h3.2.1.2.1, h3.2.1.2.2, (xs_num_ok (v := x.1) (e := x.2) hx hp2).2.1⟩
theorem xe_tail {σ τ : xr_S} {n : Nat} {tx : Nat → Nat} {b : Int32} {r : Except (Nat × Nat) Nat} (hX : mX τ n tx) (h : mP σ τ b r) (hq : ∀ q, r = .ok q → q ≤ n) : ∃ b' τ', (if b = 0 then (some (0, τ)) else ((xf_X11_takes τ 59).bind (fun p10 => if p10.1 = 0 then (some (0, p10.2)) else (some (1, p10.2))))) = some (b', τ') ∧ mF τ τ' ∧ mP σ τ' b' (xs_rs n tx r 59) := by
  cases r with
  | error e =>
    obtain ⟨h1, h2, h3⟩ := h
    exact ⟨0, τ, by rw [if_pos h1], mF_rf τ, rfl, h2, h3⟩
  | ok q =>
    obtain ⟨h1, h2, h3, h4⟩ := h
    obtain ⟨b', τ', g1, g2, g3⟩ := xe_takes (c := 59) hX h2 (hq q rfl) (by decide)
    have g1' : xf_X11_takes τ 59 = some (b', τ') := g1
    refine ⟨b', τ', ?_, g2, ?_⟩
    · rw [if_neg (by rw [h1]; decide), g1', Option.bind_some]
      dsimp only
      cases hz : xs_sgn n tx q 59 with
      | error e => rw [hz] at g3; rw [g3.1, if_pos rfl]
      | ok z => rw [hz] at g3; rw [g3.1, if_neg (by decide)]
    · show mP σ τ' b' (xs_sgn n tx q 59)
      cases hz : xs_sgn n tx q 59 with
      | error e => rw [hz] at g3; exact g3
      | ok z => rw [hz] at g3; exact ⟨g3.1, g3.2.1, by rw [g3.2.2.1, h3], by rw [g3.2.2.2, h4]⟩
theorem xe_mD {σ : xr_S} {n p : Nat} {tx : Nat → Nat} (hX : mX σ n tx) (hp : σ.1 49 12 = nI (p + 1)) (hp2 : p < n) : ∃ b τ, xf_X11_takesDreams σ = some (b, τ) ∧ mX τ n tx ∧ (∀ c, c ≠ 49 → τ.1 c = σ.1 c) ∧ (∀ k, (k < 12 ∨ 18 < k) → τ.1 49 k = σ.1 49 k) ∧ mP σ τ b (xs_snd (xs_d2 n tx p)) ∧ (∀ q, xs_snd (xs_d2 n tx p) = .ok q → q ≤ n ∧ τ.1 49 17 = nI (xs_val (xs_d1 n tx p)) ∧ τ.1 49 18 = nI (xs_val (xs_d2 n tx p))) := by
  obtain ⟨b1, τ1, a1, a2, a3, a4⟩ := xe_rnM (lo := 2) (hi := 6) (y := 5) hX hp (by omega) (by decide) (by decide) (by decide)
  have a1' : xf_X11_takesNumber σ 2 5 = some (b1, τ1) := a1
  have hX1 := mX_F hX a2
  have e1 : xs_d1 n tx p = xs_num n tx (p + 1) 2 6 := rfl
  unfold xf_X11_takesDreams
  rw [a1', Option.bind_some]
  dsimp only
  unfold xs_d2
  rw [e1]
  cases h1 : xs_num n tx (p + 1) 2 6 with
  | error e =>
    rw [h1] at a3
    exact ⟨0, τ1, by rw [if_pos a3.1], hX1, a2.1, fun k hk => a2.2 k (by omega), ⟨rfl, a3.2.1, a3.2.2⟩, fun q hq => (by cases hq)⟩
  | ok x =>
    rw [h1] at a3
    obtain ⟨m1, m2, m3⟩ := a4 x h1
    obtain ⟨τ2, hτ2⟩ : ∃ τ2, τ2 = xr_up τ1 49 17 (τ1.1 49 14) := ⟨_, rfl⟩
    have f2 : ∀ k, k ≠ 17 → τ2.1 49 k = τ1.1 49 k := fun k h => by rw [hτ2, xp_same, xp_un h]
    have hX2 : mX τ2 n tx := by rw [hτ2]; exact mX_up hX1 (Or.inr (by decide)) (by decide)
    have e12 : τ2.1 49 12 = nI x.2 := by rw [f2 12 (by decide)]; exact a3.2.1
    obtain ⟨b2, τ3, c1, c2, c3, c4⟩ := xe_rnM (lo := 0) (hi := 6) (y := 5) hX2 e12 m3 (by decide) (by decide) (by decide)
    have c1' : xf_X11_takesNumber τ2 0 5 = some (b2, τ3) := c1
    have hX3 := mX_F hX2 c2
    have f3 : ∀ c, c ≠ 49 → τ3.1 c = σ.1 c := fun c h => by rw [c2.1 c h, hτ2, xp_other h, a2.1 c h]
    rw [if_neg (by rw [a3.1]; decide), xp_pf, ← hτ2, c1', Option.bind_some]
    have e2 : xs_rn n tx (xs_snd (.ok x)) 0 6 = xs_num n tx x.2 0 6 := rfl
    rw [e2]
    cases h2 : xs_num n tx x.2 0 6 with
    | error e =>
      rw [h2] at c3
      exact ⟨0, τ3, by dsimp only; rw [if_pos c3.1], hX3, f3, fun k hk => by rw [c2.2 k (by omega), f2 k (by omega), a2.2 k (by omega)], ⟨rfl, c3.2.1, c3.2.2⟩, fun q hq => (by cases hq)⟩
    | ok y =>
      rw [h2] at c3
      obtain ⟨w1, w2, w3⟩ := c4 y h2
      refine ⟨1, xr_up τ3 49 18 (nI y.1), ?_, mX_up hX3 (Or.inr (by decide)) (by decide), fun c h => by rw [xp_other h, f3 c h], fun k hk => by rw [xp_same, xp_un (by omega), c2.2 k (by omega), f2 k (by omega), a2.2 k (by omega)], ⟨rfl, by rw [xp_same, xp_un (by decide)]; exact c3.2.1, ?_, ?_⟩, fun q hq => ⟨by cases hq; exact w3, ?_, by rw [xp_same, xp_us]; rfl⟩⟩
      · dsimp only
        rw [if_neg (by rw [c3.1]; decide), xp_pf, w1]
      · rw [xp_same, xp_un (by decide), c3.2.2.1, f2 15 (by decide), a3.2.2.1]
      · rw [xp_same, xp_un (by decide), c3.2.2.2, f2 16 (by decide), a3.2.2.2]
      · rw [xp_same, xp_un (by decide), c2.2 17 (by omega), hτ2, xp_same, xp_us, m1]; rfl
theorem xe_mN {σ : xr_S} {n : Nat} {tx : Nat → Nat} {s : xa_P} (hX : mX σ n tx) (hp : σ.1 49 12 = nI (s.1 + 1)) (hp2 : s.1 < n) (hN : σ.1 49 17 = nI (tN s.2.1)) (hN5 : tN s.2.1 ≤ 5) : ∃ b τ, xf_X11_takesMare σ = some (b, τ) ∧ mX τ n tx ∧ (∀ c, c ≠ 49 → τ.1 c = σ.1 c) ∧ (∀ k, (k < 12 ∨ 16 < k) → k ≠ 21 → k ≠ 22 → τ.1 49 k = σ.1 49 k) ∧ mP σ τ b (xs_snd (xs_n1 n tx s)) ∧ (∀ q, xs_snd (xs_n1 n tx s) = .ok q → q ≤ n ∧ τ.1 49 21 = nI (xs_val (xs_n1 n tx s)) ∧ τ.1 49 22 = bI true) := by
  obtain ⟨τ0, hτ0⟩ : ∃ τ0, τ0 = xr_up σ 49 22 1 := ⟨_, rfl⟩
  have f0 : ∀ k, k ≠ 22 → τ0.1 49 k = σ.1 49 k := fun k h => by rw [hτ0, xp_same, xp_un h]
  have hX0 : mX τ0 n tx := by rw [hτ0]; exact mX_up hX (Or.inr (by decide)) (by decide)
  obtain ⟨b1, τ1, a1, a2, a3, a4⟩ := xe_rnM (lo := 0) (hi := tN s.2.1) (y := τ0.1 49 17 - 1) hX0 (by rw [f0 12 (by decide)]; exact hp) (by omega) (by decide) (by omega) (by rw [f0 17 (by decide), hN])
  have a1' : xf_X11_takesNumber τ0 0 (τ0.1 49 17 - 1) = some (b1, τ1) := a1
  have hX1 := mX_F hX0 a2
  have e1 : xs_n1 n tx s = xs_num n tx (s.1 + 1) 0 (tN s.2.1) := rfl
  unfold xf_X11_takesMare
  rw [xp_pf, ← hτ0, a1', Option.bind_some]
  dsimp only
  rw [e1]
  cases h1 : xs_num n tx (s.1 + 1) 0 (tN s.2.1) with
  | error e =>
    rw [h1] at a3
    exact ⟨0, τ1, by rw [if_pos a3.1], hX1, fun c h => by rw [a2.1 c h, hτ0, xp_other h], fun k hk _ h22 => by rw [a2.2 k hk, f0 k h22], ⟨rfl, a3.2.1, a3.2.2⟩, fun q hq => (by cases hq)⟩
  | ok x =>
    rw [h1] at a3
    obtain ⟨m1, m2, m3⟩ := a4 x h1
    refine ⟨1, xr_up τ1 49 21 (nI x.1), ?_, mX_up hX1 (Or.inr (by decide)) (by decide), fun c h => by rw [xp_other h, a2.1 c h, hτ0, xp_other h], fun k hk h21 h22 => by rw [xp_same, xp_un h21, a2.2 k hk, f0 k h22], ⟨rfl, by rw [xp_same, xp_un (by decide)]; exact a3.2.1, by rw [xp_same, xp_un (by decide), a3.2.2.1, f0 15 (by decide)], by rw [xp_same, xp_un (by decide), a3.2.2.2, f0 16 (by decide)]⟩, fun q hq => ⟨by cases hq; exact m3, by rw [xp_same, xp_us]; rfl, ?_⟩⟩
    · rw [if_neg (by rw [a3.1]; decide), xp_pf, m1]
    · rw [xp_same, xp_un (by decide), a2.2 22 (by omega), hτ0, xp_same, xp_us]; rfl
theorem xe_lfStep {τ : xr_S} {S N L k : Nat} {K : xr_S → Option (Int32 × xr_S)} {rec : (Int32 × xr_S) → Option (Int32 × xr_S)} (hS : τ.1 49 19 = nI S) (hN : τ.1 49 17 = nI N) (hk : k < 3) : xf_X11_takesLoaf_L9 (nI (3 * L)) K (nI k, τ) rec = (xf_X11_takesNumber τ 0 (nI (if k = 0 then S else if k = 1 then N else 100) - 1)).bind (fun p8 => if p8.1 = 0 then (some (0, p8.2)) else (xr_st p8.2 57 21 (nI (3 * L + k)) (p8.2.1 49 14) (fun s9 => rec (nI (k + 1), s9)))) := by
  unfold xf_X11_takesLoaf_L9
  dsimp only
  rw [if_neg (show ¬ (3 : Int32) ≤ nI k from nI_ge (b := 3) hk (by omega)), hS, hN, nI_add, nI_1]
  simp only [xp_jn]
  match k, hk with
  | 0, _ => rfl
  | 1, _ => rfl
  | 2, _ =>
    have e : nI (if (2 : Nat) = 0 then S else if (2 : Nat) = 1 then N else 100) - 1 = 99 := by
      show nI 100 - 1 = 99
      decide
    rw [e, if_neg (by decide), if_neg (by decide)]
theorem xe_mL {σ : xr_S} {n : Nat} {tx : Nat → Nat} {s : xa_P} (hX : mX σ n tx) (hp : σ.1 49 12 = nI (s.1 + 1)) (hp2 : s.1 < n) (hS : σ.1 49 19 = nI (tS s.2.1)) (hN : σ.1 49 17 = nI (tN s.2.1)) (hL : σ.1 49 20 = nI (tL s.2.1)) (hN5 : tN s.2.1 ≤ 5) (hS6 : tS s.2.1 ≤ 6) (hL7 : tL s.2.1 < 7) : ∃ b τ, xf_X11_takesLoaf σ = some (b, τ) ∧ mX τ n tx ∧ (∀ c, c ≠ 49 → c ≠ 57 → τ.1 c = σ.1 c) ∧ (∀ k, (k < 12 ∨ 16 < k) → k ≠ 20 → τ.1 49 k = σ.1 49 k) ∧ mP σ τ b (xs_snd (xs_l3 n tx s)) ∧ (∀ q, xs_snd (xs_l3 n tx s) = .ok q → q ≤ n ∧ τ.1 49 20 = nI (tL s.2.1 + 1) ∧ (∀ i, i < 3 * tL s.2.1 → τ.1 57 i = σ.1 57 i) ∧ τ.1 57 (3 * tL s.2.1) = nI (xs_val (xs_l1 n tx s)) ∧ τ.1 57 (3 * tL s.2.1 + 1) = nI (xs_val (xs_l2 n tx s)) ∧ τ.1 57 (3 * tL s.2.1 + 2) = nI (xs_val (xs_l3 n tx s))) := by
  obtain ⟨L, hLL⟩ : ∃ L, L = tL s.2.1 := ⟨_, rfl⟩
  rw [← hLL] at hL hL7 ⊢
  unfold xf_X11_takesLoaf
  rw [hL, xp_v, show (3 : Int32) = nI 3 from rfl, pk_mul]
  obtain ⟨b1, τ1, a1, a2, a3, a4⟩ := xe_rnM (lo := 0) (hi := tS s.2.1) (y := nI (tS s.2.1) - 1) hX hp (by omega) (by decide) (by omega) rfl
  have a1' : xf_X11_takesNumber σ 0 (nI (tS s.2.1) - 1) = some (b1, τ1) := a1
  have hX1 := mX_F hX a2
  have e1 : xs_l1 n tx s = xs_num n tx (s.1 + 1) 0 (tS s.2.1) := rfl
  have g0 := fun K rec => xe_lfStep (τ := σ) (S := tS s.2.1) (N := tN s.2.1) (L := L) (k := 0) (K := K) (rec := rec) hS hN (by decide)
  have fail : ∀ (st st' : Int32 × xr_S) (ρ : xr_S) (K : xr_S → Option (Int32 × xr_S)), (∀ rec, xf_X11_takesLoaf_L9 (nI (3 * L)) K st rec = some (0, ρ)) → xr_lw (xf_X11_takesLoaf_L9 (nI (3 * L)) K) st = some (0, ρ) := fun st st' ρ K h => xr_lw_eq 1 (fun m hm => by
    obtain ⟨m, rfl⟩ : ∃ i, m = i + 1 := ⟨m - 1, by omega⟩
    exact h _)
  unfold xs_l3 xs_l2
  rw [e1]
  cases h1 : xs_num n tx (s.1 + 1) 0 (tS s.2.1) with
  | error e =>
    rw [h1] at a3
    refine ⟨0, τ1, ?_, hX1, fun c h _ => a2.1 c h, fun k hk _ => a2.2 k hk, ⟨rfl, a3.2.1, a3.2.2⟩, fun q hq => (by cases hq)⟩
    exact fail (nI 0, σ) (nI 0, σ) τ1 _ (fun rec => by rw [g0, if_pos rfl, a1', Option.bind_some, if_pos a3.1])
  | ok x =>
    rw [h1] at a3
    obtain ⟨m1, m2, m3⟩ := a4 x h1
    obtain ⟨τ2, hτ2⟩ : ∃ τ2, τ2 = xr_up τ1 57 (3 * L) (nI x.1) := ⟨_, rfl⟩
    have f2 : ∀ c, c ≠ 57 → τ2.1 c = τ1.1 c := fun c h => by rw [hτ2, xp_other h]
    have hX2 : mX τ2 n tx := by rw [hτ2]; exact mX_up hX1 (Or.inl (by decide)) (by decide)
    have o1 : xr_lw (xf_X11_takesLoaf_L9 (nI (3 * L)) (fun (e4 : xr_S) => xr_pf e4 49 20 ((e4.1 49 20) + 1) (fun s11 => some (1, s11)))) (0, σ) = xr_lw (xf_X11_takesLoaf_L9 (nI (3 * L)) (fun (e4 : xr_S) => xr_pf e4 49 20 ((e4.1 49 20) + 1) (fun s11 => some (1, s11)))) (nI 1, τ2) := xp_open (fun rec => by
      show xf_X11_takesLoaf_L9 _ _ (nI 0, σ) rec = _
      rw [g0, if_pos rfl, a1', Option.bind_some]
      dsimp only
      rw [if_neg (by rw [a3.1]; decide), m1, xp_st (by omega) (by omega), hτ2]
      try rfl)
    rw [o1]
    have hS2 : τ2.1 49 19 = nI (tS s.2.1) := by rw [f2 49 (by decide), a2.2 19 (by omega)]; exact hS
    have hN2 : τ2.1 49 17 = nI (tN s.2.1) := by rw [f2 49 (by decide), a2.2 17 (by omega)]; exact hN
    have g1 := fun K rec => xe_lfStep (τ := τ2) (S := tS s.2.1) (N := tN s.2.1) (L := L) (k := 1) (K := K) (rec := rec) hS2 hN2 (by decide)
    obtain ⟨b2, τ3, c1, c2, c3, c4⟩ := xe_rnM (lo := 0) (hi := tN s.2.1) (y := nI (tN s.2.1) - 1) hX2 (by rw [f2 49 (by decide)]; exact a3.2.1) m3 (by decide) (by omega) rfl
    have c1' : xf_X11_takesNumber τ2 0 (nI (tN s.2.1) - 1) = some (b2, τ3) := c1
    have hX3 := mX_F hX2 c2
    have e2 : xs_rn n tx (xs_snd (.ok x)) 0 (tN s.2.1) = xs_num n tx x.2 0 (tN s.2.1) := rfl
    rw [e2]
    have f3 : ∀ c, c ≠ 49 → c ≠ 57 → τ3.1 c = σ.1 c := fun c h h2 => by rw [c2.1 c h, f2 c h2, a2.1 c h]
    have f3k : ∀ k, (k < 12 ∨ 16 < k) → τ3.1 49 k = σ.1 49 k := fun k hk => by rw [c2.2 k hk, f2 49 (by decide), a2.2 k hk]
    cases h2 : xs_num n tx x.2 0 (tN s.2.1) with
    | error e =>
      rw [h2] at c3
      refine ⟨0, τ3, ?_, hX3, f3, fun k hk _ => f3k k hk, ⟨rfl, c3.2.1, c3.2.2⟩, fun q hq => (by cases hq)⟩
      exact fail (nI 1, τ2) (nI 1, τ2) τ3 _ (fun rec => by rw [g1, if_neg (by decide), if_pos rfl, c1', Option.bind_some, if_pos c3.1])
    | ok y =>
      rw [h2] at c3
      obtain ⟨w1, w2, w3⟩ := c4 y h2
      obtain ⟨τ4, hτ4⟩ : ∃ τ4, τ4 = xr_up τ3 57 (3 * L + 1) (nI y.1) := ⟨_, rfl⟩
      have f4 : ∀ c, c ≠ 57 → τ4.1 c = τ3.1 c := fun c h => by rw [hτ4, xp_other h]
      have hX4 : mX τ4 n tx := by rw [hτ4]; exact mX_up hX3 (Or.inl (by decide)) (by decide)
      have o2 : xr_lw (xf_X11_takesLoaf_L9 (nI (3 * L)) (fun (e4 : xr_S) => xr_pf e4 49 20 ((e4.1 49 20) + 1) (fun s11 => some (1, s11)))) (nI 1, τ2) = xr_lw (xf_X11_takesLoaf_L9 (nI (3 * L)) (fun (e4 : xr_S) => xr_pf e4 49 20 ((e4.1 49 20) + 1) (fun s11 => some (1, s11)))) (nI 2, τ4) := xp_open (fun rec => by
        rw [g1, if_neg (by decide), if_pos rfl, c1', Option.bind_some]
        dsimp only
        rw [if_neg (by rw [c3.1]; decide), w1, xp_st (by omega) (by omega), ← hτ4])
      rw [o2]
      have hS4 : τ4.1 49 19 = nI (tS s.2.1) := by rw [f4 49 (by decide), c2.2 19 (by omega)]; exact hS2
      have hN4 : τ4.1 49 17 = nI (tN s.2.1) := by rw [f4 49 (by decide), c2.2 17 (by omega)]; exact hN2
      have g2 := fun K rec => xe_lfStep (τ := τ4) (S := tS s.2.1) (N := tN s.2.1) (L := L) (k := 2) (K := K) (rec := rec) hS4 hN4 (by decide)
      obtain ⟨b3, τ5, d1, d2, d3, d4⟩ := xe_rnM (lo := 0) (hi := 100) (y := nI 100 - 1) hX4 (by rw [f4 49 (by decide)]; exact c3.2.1) w3 (by decide) (by omega) rfl
      have d1' : xf_X11_takesNumber τ4 0 (nI 100 - 1) = some (b3, τ5) := d1
      have hX5 := mX_F hX4 d2
      have e3 : xs_rn n tx (xs_snd (.ok y)) 0 100 = xs_num n tx y.2 0 100 := rfl
      rw [e3]
      have f5 : ∀ c, c ≠ 49 → c ≠ 57 → τ5.1 c = σ.1 c := fun c h h2 => by rw [d2.1 c h, f4 c h2, f3 c h h2]
      have f5k : ∀ k, (k < 12 ∨ 16 < k) → τ5.1 49 k = σ.1 49 k := fun k hk => by rw [d2.2 k hk, f4 49 (by decide), f3k k hk]
      cases h3 : xs_num n tx y.2 0 100 with
      | error e =>
        rw [h3] at d3
        refine ⟨0, τ5, ?_, hX5, f5, fun k hk _ => f5k k hk, ⟨rfl, d3.2.1, d3.2.2⟩, fun q hq => (by cases hq)⟩
        exact fail (nI 2, τ4) (nI 2, τ4) τ5 _ (fun rec => by rw [g2, if_neg (by decide), if_neg (by decide), d1', Option.bind_some, if_pos d3.1])
      | ok z =>
        rw [h3] at d3
        obtain ⟨v1, v2, v3⟩ := d4 z h3
        obtain ⟨τ6, hτ6⟩ : ∃ τ6, τ6 = xr_up τ5 57 (3 * L + 2) (nI z.1) := ⟨_, rfl⟩
        have f6 : ∀ c, c ≠ 57 → τ6.1 c = τ5.1 c := fun c h => by rw [hτ6, xp_other h]
        have hX6 : mX τ6 n tx := by rw [hτ6]; exact mX_up hX5 (Or.inl (by decide)) (by decide)
        have hL6 : τ6.1 49 20 = nI L := by rw [f6 49 (by decide), f5k 20 (by omega)]; exact hL
        have u57 : τ6.1 57 = upd (upd (upd (σ.1 57) (3 * L) (nI x.1)) (3 * L + 1) (nI y.1)) (3 * L + 2) (nI z.1) := by rw [hτ6, xp_same, d2.1 57 (by decide), hτ4, xp_same, c2.1 57 (by decide), hτ2, xp_same, a2.1 57 (by decide)]
        refine ⟨1, xr_up τ6 49 20 (nI (L + 1)), ?_, mX_up hX6 (Or.inr (by decide)) (by decide), fun c h h2 => by rw [xp_other h, f6 c h2, f5 c h h2], fun k hk h20 => by rw [xp_same, xp_un h20, f6 49 (by decide), f5k k hk], ⟨rfl, by rw [xp_same, xp_un (by decide), f6 49 (by decide)]; exact d3.2.1, ?_, ?_⟩, fun q hq => ⟨by cases hq; exact v3, by rw [xp_same, xp_us], fun i hi => ?_, ?_, ?_, ?_⟩⟩
        · have o3 : xr_lw (xf_X11_takesLoaf_L9 (nI (3 * L)) (fun (e4 : xr_S) => xr_pf e4 49 20 ((e4.1 49 20) + 1) (fun s11 => some (1, s11)))) (nI 2, τ4) = xr_lw (xf_X11_takesLoaf_L9 (nI (3 * L)) (fun (e4 : xr_S) => xr_pf e4 49 20 ((e4.1 49 20) + 1) (fun s11 => some (1, s11)))) (nI 3, τ6) := xp_open (fun rec => by
            rw [g2, if_neg (by decide), if_neg (by decide), d1', Option.bind_some]
            dsimp only
            rw [if_neg (by rw [d3.1]; decide), v1, xp_st (by omega) (by omega), ← hτ6])
          rw [o3]
          refine xr_lw_eq 1 (fun m hm => ?_)
          obtain ⟨m, rfl⟩ : ∃ i, m = i + 1 := ⟨m - 1, by omega⟩
          show xf_X11_takesLoaf_L9 _ _ _ _ = _
          unfold xf_X11_takesLoaf_L9
          dsimp only
          rw [if_pos (show (3 : Int32) ≤ nI 3 by decide), xp_pf, hL6, nI_1]
        · rw [xp_same, xp_un (by decide), f6 49 (by decide), d3.2.2.1, f4 49 (by decide), c3.2.2.1, f2 49 (by decide), a3.2.2.1]
        · rw [xp_same, xp_un (by decide), f6 49 (by decide), d3.2.2.2, f4 49 (by decide), c3.2.2.2, f2 49 (by decide), a3.2.2.2]
        · rw [xp_other (by decide), u57, xp_un (by omega), xp_un (by omega), xp_un (by omega)]
        · rw [xp_other (by decide), u57, xp_un (by omega), xp_un (by omega), xp_us]; rfl
        · rw [xp_other (by decide), u57, xp_un (by omega), xp_us]; rfl
        · rw [xp_other (by decide), u57, xp_us]; rfl
