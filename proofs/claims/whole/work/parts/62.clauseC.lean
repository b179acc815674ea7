/-! clauses, read by the class -/
def vT (n : Nat) (σ : xr_S) (r : Except (Nat × Nat) Nat) : Prop := match r with
  | .ok p => vG σ p ∧ p ≤ n
  | .error e => vB σ e
theorem vG_up {σ : xr_S} {p c k : Nat} {v : Int32} (h : vG σ p) (hc : c ≠ 1) : vG (xr_up σ c k v) p := by
  unfold vG
  rw [xp_other (Ne.symm hc)]
  exact h
theorem vB_up {σ : xr_S} {e : Nat × Nat} {c k : Nat} {v : Int32} (h : vB σ e) (hc : c ≠ 1) : vB (xr_up σ c k v) e := by
  unfold vB
  rw [xp_other (Ne.symm hc)]
  exact h
theorem vT_up {n : Nat} {σ : xr_S} {r : Except (Nat × Nat) Nat} {c k : Nat} {v : Int32} (h : vT n σ r) (hc : c ≠ 1) : vT n (xr_up σ c k v) r := by
  cases r with
  | ok p => exact ⟨vG_up h.1 hc, h.2⟩
  | error e => exact vB_up h hc
theorem vX_up {σ : xr_S} {n : Nat} {tx : Nat → Nat} {c k : Nat} {v : Int32} (h : vX σ n tx) (h1 : c ≠ 1) (h2 : c ≠ 2) : vX (xr_up σ c k v) n tx := by
  unfold vX
  rw [xp_other (Ne.symm h1), xp_other (Ne.symm h2)]
  exact h
theorem xe_rnC {σ : xr_S} {n lo hi : Nat} {y : Int32} {tx : Nat → Nat} {r : Except (Nat × Nat) Nat} (hX : vX σ n tx) (hr : vT n σ r) (hlo : lo < 1000) (hhi : hi < 1000) (hy : y = nI hi - 1) : ∃ v τ, xf_X6_readNumber σ (nI lo) y = some (v, τ) ∧ vF σ τ ∧ vT n τ (xs_snd (xs_rn n tx r lo hi)) ∧ ∀ x, xs_rn n tx r lo hi = .ok x → v = nI (xs_val (xs_rn n tx r lo hi)) ∧ τ.1 1 1 = σ.1 1 1 ∧ τ.1 1 6 = nI (xs_sk n tx (xs_pos r)) := by
  cases r with
  | error e => exact ⟨0, σ, xe_readNumberB hr, vF_rf σ, hr, fun x h => (by cases h)⟩
  | ok p =>
    obtain ⟨hG, hp⟩ := hr
    obtain ⟨v, τ, h1, h2, h3⟩ := xe_readNumberC hX hG hp hlo hhi hy
    refine ⟨v, τ, h1, h2, ?_, fun x hx => ?_⟩
    · show vT n τ (xs_snd (xs_num n tx p lo hi))
      cases hq : xs_num n tx p lo hi with
      | error e => rw [hq] at h3; exact h3
      | ok x => rw [hq] at h3; exact ⟨h3.1.2.1, (xs_num_ok (v := x.1) (e := x.2) hq hp).2.1⟩
    · have hx' : xs_num n tx p lo hi = .ok x := hx
      rw [hx'] at h3
      refine ⟨?_, h3.2, h3.1.2.2⟩
      rw [hx]
      exact h3.1.1
theorem xe_rsC {σ : xr_S} {n c : Nat} {tx : Nat → Nat} {r : Except (Nat × Nat) Nat} (hX : vX σ n tx) (hr : vT n σ r) (hc : c < 1000) : ∃ τ, xf_X6_readSign σ (nI c) = some τ ∧ vF σ τ ∧ vT n τ (xs_rs n tx r c) ∧ ∀ x, xs_rs n tx r c = .ok x → τ.1 1 1 = σ.1 1 1 ∧ τ.1 1 6 = σ.1 1 6 := by
  cases r with
  | error e => exact ⟨σ, xe_readSignB hr, vF_rf σ, hr, fun x h => (by cases h)⟩
  | ok p =>
    obtain ⟨hG, hp⟩ := hr
    obtain ⟨τ, h1, h2, h3⟩ := xe_readSignC hX hG hp hc
    refine ⟨τ, h1, h2, ?_, fun x hx => ?_⟩
    · show vT n τ (xs_sgn n tx p c)
      cases hq : xs_sgn n tx p c with
      | error e => rw [hq] at h3; exact h3
      | ok x => rw [hq] at h3; exact ⟨h3.1.1, (xs_sgn_ok hq).2⟩
    · have hx' : xs_sgn n tx p c = .ok x := hx
      rw [hx'] at h3
      exact ⟨h3.2, h3.1.2⟩
theorem xe_passC {σ : xr_S} {n p : Nat} {tx : Nat → Nat} (hX : vX σ n tx) (hG : vG σ p) (hp : p < n) (b : Bool) : ∃ τ, xf_X6_passWord σ (bI b) = some τ ∧ vF σ τ ∧ vT n τ (if b then .ok (p + 1) else .error (3, p)) ∧ (b = true → τ.1 1 1 = σ.1 1 1) := by
  have hn := hX.1
  unfold xf_X6_passWord
  rw [xp_jn]
  cases b with
  | true =>
    refine ⟨xr_up σ 1 4 (nI (p + 1)), ?_, ⟨fun c hc => by rw [xp_other hc], fun k a b c d => by rw [xp_same, xp_un b]⟩, ⟨⟨by rw [xp_same, xp_un (by decide)]; exact hG.1, by rw [xp_same, xp_us]⟩, by omega⟩, fun _ => by rw [xp_same, xp_un (by decide)]⟩
    rw [if_neg (show ¬ bI true = 0 by decide)]
    dsimp only
    rw [xp_pf, hG.2, nI_1]
  | false =>
    obtain ⟨b1, b2⟩ := vB_fail (σ := σ) (xs_bad_mk (k := 3) (p := p) (by decide) (by decide) (by omega)) (show p ≤ 1000 by omega) hG.2
    have e1 : xf_X6_fail σ 3 (nI p) = some (xr_up (xr_up σ 1 5 (nI 3)) 1 1 (nI p)) := xe_failC hG.1
    obtain ⟨τ, hτ⟩ : ∃ τ, τ = xr_up (xr_up σ 1 5 (nI 3)) 1 1 (nI p) := ⟨_, rfl⟩
    rw [← hτ] at b1 b2 e1
    have e4 : τ.1 1 4 = nI p := by rw [hτ, xp_same, xp_un (by decide), xp_same, xp_un (by decide)]; exact hG.2
    refine ⟨xr_up τ 1 4 (nI (p + 1)), ?_, vF_tr b2 ⟨fun c hc => by rw [xp_other hc], fun k a b c d => by rw [xp_same, xp_un b]⟩, ⟨b1.1, by rw [xp_same, xp_un (by decide)]; exact b1.2.1, by rw [xp_same, xp_un (by decide)]; exact b1.2.2.1, p + 1, by omega, by rw [xp_same, xp_us]⟩, fun h => (by cases h)⟩
    rw [if_pos (show bI false = 0 from rfl), hG.2, e1, Option.bind_some]
    dsimp only
    rw [xp_pf, e4, nI_1]
def vS (σ : xr_S) (s : xa_P) : Prop := σ.1 3 0 = nI (tN s.2.1) ∧ σ.1 3 1 = nI (tG s.2.1) ∧ σ.1 3 2 = nI (tS s.2.1) ∧ σ.1 3 3 = nI (tL s.2.1) ∧ σ.1 3 4 = nI (tM s.2.1) ∧ (∀ i d, i < 6 → d < 5 → σ.1 5 (i * 5 + d) = nI (s.2.2.1 i d)) ∧ (∀ l, l < tL s.2.1 → σ.1 6 l = nI (tE s.2.1 l) ∧ σ.1 7 l = nI (tW s.2.1 l) ∧ σ.1 8 l = nI (tV s.2.1 l)) ∧ σ.1 1 7 = bI s.2.2.2
/-- what a clause leaves -/
def vO (n : Nat) (tx : Nat → Nat) (σ τ : xr_S) (r : Except (Nat × Nat) xa_P) : Prop := vX τ n tx ∧ (∀ c, c ≠ 1 → c ≠ 3 → c ≠ 5 → c ≠ 6 → c ≠ 7 → c ≠ 8 → τ.1 c = σ.1 c) ∧ match r with
  | .ok s => vG τ s.1 ∧ vS τ s ∧ τ.1 1 1 = σ.1 1 1
  | .error e => vB τ e
theorem xe_clD {σ : xr_S} {n : Nat} {tx : Nat → Nat} {s : xa_P} (hX : vX σ n tx) (hG : vG σ s.1) (hp : s.1 < n) (hs : xs_pi s) (hS : vS σ s) : ∃ τ, xf_X6_readDreams σ = some τ ∧ vO n tx σ τ (if tN s.2.1 = 0 then xs_cD n tx s else .error (3, s.1)) := by
  obtain ⟨s0, s1, s2, s3, s4, s5, s6, s7⟩ := id hS
  obtain ⟨t1, t2, t3, t4, t5, t6, t7⟩ := id hs.1
  obtain ⟨b, hb⟩ : ∃ b : Bool, b = decide (tN s.2.1 = 0) := ⟨_, rfl⟩
  obtain ⟨τ0, p1, p2, p3, p4⟩ := xe_passC hX hG hp b
  obtain ⟨v1, τ1, a1, a2, a3, a4⟩ := xe_rnC (lo := 2) (hi := 6) (y := 5) (vX_F hX p2) p3 (by decide) (by decide) (by decide)
  obtain ⟨τ2, hτ2⟩ : ∃ τ2, τ2 = xr_up τ1 3 0 v1 := ⟨_, rfl⟩
  have hX1 := vX_F (vX_F hX p2) a2
  have hX2 : vX τ2 n tx := by rw [hτ2]; exact vX_up hX1 (by decide) (by decide)
  have hT2 := vT_up (c := 3) (k := 0) (v := v1) a3 (by decide)
  rw [← hτ2] at hT2
  obtain ⟨v2, τ3, c1, c2, c3, c4⟩ := xe_rnC (lo := 0) (hi := 6) (y := 5) hX2 hT2 (by decide) (by decide) (by decide)
  obtain ⟨τ4, hτ4⟩ : ∃ τ4, τ4 = xr_up τ3 3 1 v2 := ⟨_, rfl⟩
  have hX3 := vX_F hX2 c2
  have hX4 : vX τ4 n tx := by rw [hτ4]; exact vX_up hX3 (by decide) (by decide)
  have hT4 := vT_up (c := 3) (k := 1) (v := v2) c3 (by decide)
  rw [← hτ4] at hT4
  obtain ⟨τ5, d1, d2, d3, d4⟩ := xe_rsC (c := 59) hX4 hT4 (by decide)
  have f2 : ∀ c, c ≠ 3 → τ2.1 c = τ1.1 c := fun c h => by rw [hτ2, xp_other h]
  have f4 : ∀ c, c ≠ 3 → τ4.1 c = τ3.1 c := fun c h => by rw [hτ4, xp_other h]
  have ff : ∀ c, c ≠ 1 → c ≠ 3 → τ5.1 c = σ.1 c := fun c h h2 => by rw [d2.1 c h, f4 c h2, c2.1 c h, f2 c h2, a2.1 c h, p2.1 c h]
  have f3 : ∀ k, k ≠ 0 → k ≠ 1 → τ5.1 3 k = σ.1 3 k := fun k h h2 => by rw [d2.1 3 (by decide), hτ4, xp_same, xp_un h2, c2.1 3 (by decide), hτ2, xp_same, xp_un h, a2.1 3 (by decide), p2.1 3 (by decide)]
  have f30 : τ5.1 3 0 = v1 := by rw [d2.1 3 (by decide), hτ4, xp_same, xp_un (by decide), c2.1 3 (by decide), hτ2, xp_same, xp_us]
  have f31 : τ5.1 3 1 = v2 := by rw [d2.1 3 (by decide), hτ4, xp_same, xp_us]
  have f17 : τ5.1 1 7 = σ.1 1 7 := by rw [d2.2 7 (by decide) (by decide) (by decide) (by decide), f4 1 (by decide), c2.2 7 (by decide) (by decide) (by decide) (by decide), f2 1 (by decide), a2.2 7 (by decide) (by decide) (by decide) (by decide), p2.2 7 (by decide) (by decide) (by decide) (by decide)]
  refine ⟨τ5, ?_, vX_F hX4 d2, fun c h1 h2 _ _ _ _ => ff c h1 h2, ?_⟩
  · have hbI : ∀ F : Int32 → Option xr_S, (if (σ.1 3 0) = 0 then (F 1) else (F 0)) = F (bI b) := fun F => by
      rw [s0, hb]
      by_cases h0 : tN s.2.1 = 0
      · rw [if_pos (by rw [h0]; rfl), decide_eq_true h0]; rfl
      · rw [if_neg (by rw [xl_0, xp_eq (by omega) (by omega)]; exact h0), decide_eq_false h0]; rfl
    unfold xf_X6_readDreams
    rw [xp_jn]
    refine (hbI (fun w1 => (xf_X6_passWord σ w1).bind (fun s3 => (xf_X6_readNumber s3 2 5).bind (fun p4 => xr_pf p4.2 3 0 p4.1 (fun s5 => (xf_X6_readNumber s5 0 5).bind (fun p6 => xr_pf p6.2 3 1 p6.1 (fun s7 => (xf_X6_readSign s7 59).bind (fun s8 => some s8)))))))).trans ?_
    have a1' : xf_X6_readNumber τ0 2 5 = some (v1, τ1) := a1
    have c1' : xf_X6_readNumber τ2 0 5 = some (v2, τ3) := c1
    have d1' : xf_X6_readSign τ4 59 = some τ5 := d1
    rw [p1, Option.bind_some, a1', Option.bind_some, xp_pf]
    dsimp only
    rw [← hτ2, c1', Option.bind_some, xp_pf]
    dsimp only
    rw [← hτ4, d1']
    rfl
  · by_cases h0 : tN s.2.1 = 0
    · have hb1 : b = true := by rw [hb, decide_eq_true h0]
      rw [if_pos h0]
      rw [hb1, if_pos rfl] at a3 a4 c3 c4 d3 d4
      have r1 : xs_rn n tx (.ok (s.1 + 1)) 2 6 = xs_d1 n tx s.1 := rfl
      rw [r1] at a3 a4 c3 c4 d3 d4
      have r2 : xs_rn n tx (xs_snd (xs_d1 n tx s.1)) 0 6 = xs_d2 n tx s.1 := rfl
      rw [r2] at c3 c4 d3 d4
      unfold xs_cD
      cases hz : xs_rs n tx (xs_snd (xs_d2 n tx s.1)) 59 with
      | error e => rw [hz] at d3; exact d3
      | ok z =>
        rw [hz] at d3
        obtain ⟨q2, k1, -⟩ := xs_rs_ok hz
        obtain ⟨x2, k2, -⟩ := xs_snd_ok k1
        obtain ⟨q1, k3, -⟩ := xs_rn_ok k2
        obtain ⟨x1, k4, -⟩ := xs_snd_ok k3
        obtain ⟨m1, m2, -⟩ := a4 x1 k4
        obtain ⟨m3, m4, -⟩ := c4 x2 k2
        obtain ⟨m5, -⟩ := d4 z hz
        refine ⟨d3.1, ⟨by rw [f30, m1]; rfl, by rw [f31, m3]; rfl, by rw [f3 2 (by decide) (by decide)]; exact s2, by rw [f3 3 (by decide) (by decide)]; exact s3, by rw [f3 4 (by decide) (by decide)]; exact s4, fun i d hi hd => by rw [ff 5 (by decide) (by decide)]; exact s5 i d hi hd, fun l hl => by rw [ff 6 (by decide) (by decide), ff 7 (by decide) (by decide), ff 8 (by decide) (by decide)]; exact s6 l hl, by rw [f17]; exact s7⟩, ?_⟩
        rw [m5, f4 1 (by decide), m4, f2 1 (by decide), m2, p4 hb1]
    · have hb1 : b = false := by rw [hb, decide_eq_false h0]
      rw [if_neg h0]
      rw [hb1] at d3
      exact d3
theorem xe_clN {σ : xr_S} {n : Nat} {tx : Nat → Nat} {s : xa_P} (hX : vX σ n tx) (hG : vG σ s.1) (hp : s.1 < n) (hs : xs_pi s) (hS : vS σ s) : ∃ τ, xf_X6_readNightmare σ = some τ ∧ vO n tx σ τ (if s.2.2.2 then .error (3, s.1) else xs_cN n tx s) := by
  obtain ⟨s0, s1, s2, s3, s4, s5, s6, s7⟩ := id hS
  obtain ⟨t1, t2, t3, t4, t5, t6, t7⟩ := id hs.1
  obtain ⟨b, hb⟩ : ∃ b : Bool, b = !s.2.2.2 := ⟨_, rfl⟩
  obtain ⟨τ0, p1, p2, p3, p4⟩ := xe_passC hX hG hp b
  have hN0 : τ0.1 3 0 = nI (tN s.2.1) := by rw [p2.1 3 (by decide)]; exact s0
  obtain ⟨v1, τ1, a1, a2, a3, a4⟩ := xe_rnC (lo := 0) (hi := tN s.2.1) (y := τ0.1 3 0 - 1) (vX_F hX p2) p3 (by decide) (by omega) (by rw [hN0])
  obtain ⟨τ2, hτ2⟩ : ∃ τ2, τ2 = xr_up τ1 3 4 v1 := ⟨_, rfl⟩
  have hX1 := vX_F (vX_F hX p2) a2
  have hX2 : vX τ2 n tx := by rw [hτ2]; exact vX_up hX1 (by decide) (by decide)
  have hT2 := vT_up (c := 3) (k := 4) (v := v1) a3 (by decide)
  rw [← hτ2] at hT2
  obtain ⟨τ3, d1, d2, d3, d4⟩ := xe_rsC (c := 59) hX2 hT2 (by decide)
  obtain ⟨τ5, hτ5⟩ : ∃ τ5, τ5 = xr_up τ3 1 7 1 := ⟨_, rfl⟩
  have f2 : ∀ c, c ≠ 3 → τ2.1 c = τ1.1 c := fun c h => by rw [hτ2, xp_other h]
  have f5 : ∀ c, c ≠ 1 → τ5.1 c = τ3.1 c := fun c h => by rw [hτ5, xp_other h]
  have f51 : ∀ k, k ≠ 7 → τ5.1 1 k = τ3.1 1 k := fun k h => by rw [hτ5, xp_same, xp_un h]
  have ff : ∀ c, c ≠ 1 → c ≠ 3 → τ5.1 c = σ.1 c := fun c h h2 => by rw [f5 c h, d2.1 c h, f2 c h2, a2.1 c h, p2.1 c h]
  have f3 : ∀ k, k ≠ 4 → τ5.1 3 k = σ.1 3 k := fun k h => by rw [f5 3 (by decide), d2.1 3 (by decide), hτ2, xp_same, xp_un h, a2.1 3 (by decide), p2.1 3 (by decide)]
  have f34 : τ5.1 3 4 = v1 := by rw [f5 3 (by decide), d2.1 3 (by decide), hτ2, xp_same, xp_us]
  have hX3 := vX_F hX2 d2
  have hX5 : vX τ5 n tx := ⟨hX3.1, hX3.2.1, by rw [f51 0 (by decide)]; exact hX3.2.2.1, fun k hk => by rw [f5 2 (by decide)]; exact hX3.2.2.2 k hk⟩
  refine ⟨τ5, ?_, hX5, fun c h1 h2 _ _ _ _ => ff c h1 h2, ?_⟩
  · have hbI : ∀ F : Int32 → Option xr_S, (if (σ.1 1 7) = 0 then (F 1) else (F 0)) = F (bI b) := fun F => by
      rw [s7, hb]
      cases s.2.2.2 <;> rfl
    unfold xf_X6_readNightmare
    rw [xp_jn]
    refine (hbI (fun w1 => (xf_X6_passWord σ w1).bind (fun s3 => (xf_X6_readNumber s3 0 ((s3.1 3 0) - 1)).bind (fun p4 => xr_pf p4.2 3 4 p4.1 (fun s5 => (xf_X6_readSign s5 59).bind (fun s6 => xr_pf s6 1 7 1 (fun s7 => some s7))))))).trans ?_
    have a1' : xf_X6_readNumber τ0 0 ((τ0.1 3 0) - 1) = some (v1, τ1) := a1
    have d1' : xf_X6_readSign τ2 59 = some τ3 := d1
    rw [p1, Option.bind_some, a1', Option.bind_some, xp_pf]
    dsimp only
    rw [← hτ2, d1', Option.bind_some, xp_pf, ← hτ5]
  · have vB5 : ∀ e, vB τ3 e → vB τ5 e := fun e h => ⟨h.1, by rw [f51 5 (by decide)]; exact h.2.1, by rw [f51 1 (by decide)]; exact h.2.2.1, h.2.2.2.choose, h.2.2.2.choose_spec.1, by rw [f51 4 (by decide)]; exact h.2.2.2.choose_spec.2⟩
    cases hm : s.2.2.2 with
    | false =>
      have hb1 : b = true := by rw [hb, hm]; rfl
      rw [if_neg (by decide)]
      rw [hb1, if_pos rfl] at a3 a4 d3 d4
      have r1 : xs_rn n tx (.ok (s.1 + 1)) 0 (tN s.2.1) = xs_n1 n tx s := rfl
      rw [r1] at a3 a4 d3 d4
      unfold xs_cN
      cases hz : xs_rs n tx (xs_snd (xs_n1 n tx s)) 59 with
      | error e => rw [hz] at d3; exact vB5 e d3
      | ok z =>
        rw [hz] at d3
        obtain ⟨q2, k1, -⟩ := xs_rs_ok hz
        obtain ⟨x1, k4, -⟩ := xs_snd_ok k1
        obtain ⟨m1, m2, -⟩ := a4 x1 k4
        obtain ⟨m5, -⟩ := d4 z hz
        refine ⟨⟨by rw [f51 5 (by decide)]; exact d3.1.1, by rw [f51 4 (by decide)]; exact d3.1.2⟩, ⟨by rw [f3 0 (by decide)]; exact s0, by rw [f3 1 (by decide)]; exact s1, by rw [f3 2 (by decide)]; exact s2, by rw [f3 3 (by decide)]; exact s3, by rw [f34, m1]; rfl, fun i d hi hd => by rw [ff 5 (by decide) (by decide)]; exact s5 i d hi hd, fun l hl => by rw [ff 6 (by decide) (by decide), ff 7 (by decide) (by decide), ff 8 (by decide) (by decide)]; exact s6 l hl, by rw [hτ5, xp_same, xp_us]; rfl⟩, ?_⟩
        rw [f51 1 (by decide), m5, f2 1 (by decide), m2, p4 hb1]
    | true =>
      have hb1 : b = false := by rw [hb, hm]; rfl
      rw [if_pos rfl]
      rw [hb1] at d3
      exact vB5 _ d3
theorem xe_clL {σ : xr_S} {n : Nat} {tx : Nat → Nat} {s : xa_P} (hX : vX σ n tx) (hG : vG σ s.1) (hp : s.1 < n) (hs : xs_pi s) (hS : vS σ s) : ∃ τ, xf_X6_readLoaf σ = some τ ∧ vO n tx σ τ (if tL s.2.1 < 7 then xs_cL n tx s else .error (3, s.1)) := by
  obtain ⟨s0, s1, s2, s3, s4, s5, s6, s7⟩ := id hS
  obtain ⟨t1, t2, t3, t4, t5, t6, t7⟩ := id hs.1
  obtain ⟨b, hb⟩ : ∃ b : Bool, b = decide (tL s.2.1 < 7) := ⟨_, rfl⟩
  obtain ⟨τ0, p1, p2, p3, p4⟩ := xe_passC hX hG hp b
  have hN0 : τ0.1 3 2 = nI (tS s.2.1) := by rw [p2.1 3 (by decide)]; exact s2
  obtain ⟨v1, τ1, a1, a2, a3, a4⟩ := xe_rnC (lo := 0) (hi := tS s.2.1) (y := τ0.1 3 2 - 1) (vX_F hX p2) p3 (by decide) (by omega) (by rw [hN0])
  have hX1 := vX_F (vX_F hX p2) a2
  have hN1 : τ1.1 3 0 = nI (tN s.2.1) := by rw [a2.1 3 (by decide), p2.1 3 (by decide)]; exact s0
  obtain ⟨v2, τ2, c1, c2, c3, c4⟩ := xe_rnC (lo := 0) (hi := tN s.2.1) (y := τ1.1 3 0 - 1) hX1 a3 (by decide) (by omega) (by rw [hN1])
  have hX2 := vX_F hX1 c2
  obtain ⟨v3, τ3, g1, g2, g3, g4⟩ := xe_rnC (lo := 0) (hi := 100) (y := 99) hX2 c3 (by decide) (by decide) (by decide)
  have hX3 := vX_F hX2 g2
  obtain ⟨τ4, d1, d2, d3, d4⟩ := xe_rsC (c := 59) hX3 g3 (by decide)
  have hX4 := vX_F hX3 d2
  have fF : vF σ τ4 := vF_tr (vF_tr (vF_tr (vF_tr p2 a2) c2) g2) d2
  have hL4 : τ4.1 3 3 = nI (tL s.2.1) := by rw [fF.1 3 (by decide)]; exact s3
  have head : ∀ τ, (if (τ4.1 1 5) = 0 then (if 7 ≤ (τ4.1 3 3) then (some τ4) else (xr_st τ4 6 7 (τ4.1 3 3) v1 (fun s8 => xr_st s8 7 7 (s8.1 3 3) v2 (fun s9 => xr_st s9 8 7 (s9.1 3 3) v3 (fun s10 => xr_pf s10 3 3 ((s10.1 3 3) + 1) (fun s11 => some s11)))))) else (some τ4)) = some τ → xf_X6_readLoaf σ = some τ := by
    intro τ hτ
    rw [← hτ]
    have hbI : ∀ F : Int32 → Option xr_S, (if 7 ≤ (σ.1 3 3) then (F 0) else (F 1)) = F (bI b) := fun F => by
      rw [s3, hb]
      by_cases h0 : tL s.2.1 < 7
      · rw [if_neg (show ¬ (7 : Int32) ≤ nI (tL s.2.1) from nI_ge (b := 7) h0 (by omega)), decide_eq_true h0]; rfl
      · rw [if_pos (show (7 : Int32) ≤ nI (tL s.2.1) from nI_le (a := 7) (by omega) (by omega)), decide_eq_false h0]; rfl
    unfold xf_X6_readLoaf
    rw [xp_jn]
    refine (hbI (fun w1 => (xf_X6_passWord σ w1).bind (fun s3 => (xf_X6_readNumber s3 0 ((s3.1 3 2) - 1)).bind (fun p4 => (xf_X6_readNumber p4.2 0 ((p4.2.1 3 0) - 1)).bind (fun p5 => (xf_X6_readNumber p5.2 0 99).bind (fun p6 => (xf_X6_readSign p6.2 59).bind (fun s7 => if (s7.1 1 5) = 0 then (if 7 ≤ (s7.1 3 3) then (some s7) else (xr_st s7 6 7 (s7.1 3 3) p4.1 (fun s8 => xr_st s8 7 7 (s8.1 3 3) p5.1 (fun s9 => xr_st s9 8 7 (s9.1 3 3) p6.1 (fun s10 => xr_pf s10 3 3 ((s10.1 3 3) + 1) (fun s11 => some s11)))))) else (some s7)))))))).trans ?_
    have a1' : xf_X6_readNumber τ0 0 ((τ0.1 3 2) - 1) = some (v1, τ1) := a1
    have c1' : xf_X6_readNumber τ1 0 ((τ1.1 3 0) - 1) = some (v2, τ2) := c1
    have g1' : xf_X6_readNumber τ2 0 99 = some (v3, τ3) := g1
    have d1' : xf_X6_readSign τ3 59 = some τ4 := d1
    rw [p1, Option.bind_some, a1', Option.bind_some]
    dsimp only
    rw [c1', Option.bind_some]
    dsimp only
    rw [g1', Option.bind_some]
    dsimp only
    rw [d1', Option.bind_some]
  have bad : ∀ e, vB τ4 e → ∃ τ, xf_X6_readLoaf σ = some τ ∧ vO n tx σ τ (.error e) := fun e he => ⟨τ4, head τ4 (by rw [if_neg (vB_ne he)]), hX4, fun c h1 _ _ _ _ _ => fF.1 c h1, he⟩
  by_cases h0 : tL s.2.1 < 7
  · have hb1 : b = true := by rw [hb, decide_eq_true h0]
    rw [if_pos h0]
    rw [hb1, if_pos rfl] at a3 a4 c3 c4 g3 g4 d3 d4
    have r1 : xs_rn n tx (.ok (s.1 + 1)) 0 (tS s.2.1) = xs_l1 n tx s := rfl
    rw [r1] at a3 a4 c3 c4 g3 g4 d3 d4
    have r2 : xs_rn n tx (xs_snd (xs_l1 n tx s)) 0 (tN s.2.1) = xs_l2 n tx s := rfl
    rw [r2] at c3 c4 g3 g4 d3 d4
    have r3 : xs_rn n tx (xs_snd (xs_l2 n tx s)) 0 100 = xs_l3 n tx s := rfl
    rw [r3] at g3 g4 d3 d4
    unfold xs_cL
    cases hz : xs_rs n tx (xs_snd (xs_l3 n tx s)) 59 with
    | error e => rw [hz] at d3; exact bad e d3
    | ok z =>
      rw [hz] at d3
      obtain ⟨q3, k1, -⟩ := xs_rs_ok hz
      obtain ⟨x3, k2, -⟩ := xs_snd_ok k1
      obtain ⟨q2, k3, -⟩ := xs_rn_ok k2
      obtain ⟨x2, k4, -⟩ := xs_snd_ok k3
      obtain ⟨q1, k5, -⟩ := xs_rn_ok k4
      obtain ⟨x1, k6, -⟩ := xs_snd_ok k5
      obtain ⟨m1, m2, -⟩ := a4 x1 k6
      obtain ⟨m3, m4, -⟩ := c4 x2 k4
      obtain ⟨m5, m6, -⟩ := g4 x3 k2
      obtain ⟨m7, -⟩ := d4 z hz
      obtain ⟨τ5, hτ5⟩ : ∃ τ5, τ5 = xr_up (xr_up (xr_up (xr_up τ4 6 (tL s.2.1) v1) 7 (tL s.2.1) v2) 8 (tL s.2.1) v3) 3 3 (nI (tL s.2.1 + 1)) := ⟨_, rfl⟩
      have ff : ∀ c, c ≠ 3 → c ≠ 6 → c ≠ 7 → c ≠ 8 → τ5.1 c = τ4.1 c := fun c h1 h2 h3 h4 => by rw [hτ5, xp_other h1, xp_other h4, xp_other h3, xp_other h2]
      have f3 : ∀ k, k ≠ 3 → τ5.1 3 k = σ.1 3 k := fun k h => by rw [hτ5, xp_same, xp_un h, xp_other (by decide), xp_other (by decide), xp_other (by decide), fF.1 3 (by decide)]
      refine ⟨τ5, head τ5 ?_, ?_, fun c h1 h2 _ h4 h5 h6 => by rw [ff c h2 h4 h5 h6, fF.1 c h1], ⟨by rw [ff 1 (by decide) (by decide) (by decide) (by decide)]; exact d3.1.1, by rw [ff 1 (by decide) (by decide) (by decide) (by decide)]; exact d3.1.2⟩, ⟨by rw [f3 0 (by decide)]; exact s0, by rw [f3 1 (by decide)]; exact s1, by rw [f3 2 (by decide)]; exact s2, by rw [hτ5, xp_same, xp_us]; rfl, by rw [f3 4 (by decide)]; exact s4, fun i d hi hd => by rw [ff 5 (by decide) (by decide) (by decide) (by decide), fF.1 5 (by decide)]; exact s5 i d hi hd, fun l hl => ?_, by rw [ff 1 (by decide) (by decide) (by decide) (by decide), fF.2 7 (by decide) (by decide) (by decide) (by decide)]; exact s7⟩, by rw [ff 1 (by decide) (by decide) (by decide) (by decide), m7, m6, m4, m2, p4 hb1]⟩
      · rw [if_pos d3.1.1, hL4, if_neg (show ¬ (7 : Int32) ≤ nI (tL s.2.1) from nI_ge (b := 7) h0 (by omega)), xp_st (by omega) (by omega), xp_other (by decide), hL4, xp_st (by omega) (by omega), xp_other (by decide), xp_other (by decide), hL4, xp_st (by omega) (by omega), xp_pf, xp_other (by decide), xp_other (by decide), xp_other (by decide), hL4, nI_1, ← hτ5]
      · exact ⟨hX4.1, hX4.2.1, by rw [ff 1 (by decide) (by decide) (by decide) (by decide)]; exact hX4.2.2.1, fun k hk => by rw [ff 2 (by decide) (by decide) (by decide) (by decide)]; exact hX4.2.2.2 k hk⟩
      · have hl' : l < tL s.2.1 + 1 := hl
        have u6 : τ5.1 6 = upd (τ4.1 6) (tL s.2.1) v1 := by rw [hτ5, xp_other (by decide), xp_other (by decide), xp_other (by decide), xp_same]
        have u7 : τ5.1 7 = upd (τ4.1 7) (tL s.2.1) v2 := by rw [hτ5, xp_other (by decide), xp_other (by decide), xp_same, xp_other (by decide)]
        have u8 : τ5.1 8 = upd (τ4.1 8) (tL s.2.1) v3 := by rw [hτ5, xp_other (by decide), xp_same, xp_other (by decide), xp_other (by decide)]
        show τ5.1 6 l = nI (xs_put (tE s.2.1) (tL s.2.1) (xs_val (xs_l1 n tx s)) l) ∧ τ5.1 7 l = nI (xs_put (tW s.2.1) (tL s.2.1) (xs_val (xs_l2 n tx s)) l) ∧ τ5.1 8 l = nI (xs_put (tV s.2.1) (tL s.2.1) (xs_val (xs_l3 n tx s)) l)
        rw [u6, u7, u8]
        unfold xs_put
        by_cases hlL : l = tL s.2.1
        · rw [if_pos hlL, if_pos hlL, if_pos hlL, hlL, xp_us, xp_us, xp_us]
          exact ⟨m1, m3, m5⟩
        · rw [if_neg hlL, if_neg hlL, if_neg hlL, xp_un hlL, xp_un hlL, xp_un hlL, fF.1 6 (by decide), fF.1 7 (by decide), fF.1 8 (by decide)]
          exact s6 l (by omega)
  · have hb1 : b = false := by rw [hb, decide_eq_false h0]
    rw [if_neg h0]
    rw [hb1] at d3
    exact bad _ d3
