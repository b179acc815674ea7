/-! the whole text, read by the class -/
theorem xe_clause {σ : xr_S} {n : Nat} {tx : Nat → Nat} {s : xa_P} (hX : vX σ n tx) (hG : vG σ s.1) (hp : s.1 < n) (hs : xs_pi s) (hS : vS σ s) : ∃ τ, xf_X6_readClause σ (nI (tx s.1)) = some τ ∧ vO n tx σ τ (xs_cl n tx s) := by
  obtain ⟨t1, t2, t3, t4, t5, t6, t7⟩ := id hs.1
  have hn := hX.1
  have htx := hX.2.1 s.1 hp
  have e0 : σ.1 3 0 = nI (tN s.2.1) := hS.1
  have hfail : ∃ τ, xf_X6_fail σ 1 (nI s.1) = some τ ∧ vO n tx σ τ (.error (1, s.1)) := by
    obtain ⟨b1, b2⟩ := vB_fail (σ := σ) (xs_bad_mk (k := 1) (p := s.1) (by decide) (by decide) (by omega)) (show s.1 ≤ 1000 by omega) hG.2
    exact ⟨_, xe_failC hG.1, vX_F hX b2, fun c h1 _ _ _ _ _ => b2.1 c h1, b1⟩
  unfold xf_X6_readClause
  rw [xp_jn]
  have eqn : ∀ c, c < 1000 → (nI (tx s.1) = nI c) = (tx s.1 = c) := fun c hc => xp_eq (by omega) (by omega)
  by_cases h100 : tx s.1 = 100
  · have hcl : xs_cl n tx s = (if tN s.2.1 = 0 then xs_cD n tx s else .error (3, s.1)) := by unfold xs_cl; rw [if_pos h100]
    rw [hcl]
    obtain ⟨τ, d1, d2⟩ := xe_clD hX hG hp hs hS
    refine ⟨τ, ?_, d2⟩
    rw [if_pos (show nI (tx s.1) = 100 by rw [h100]; rfl), if_pos (show nI (tx s.1) = 100 by rw [h100]; rfl), d1, ite_self]
    rfl
  · have hne100 : ¬ nI (tx s.1) = 100 := fun h => h100 ((eqn 100 (by decide)).mp h)
    by_cases hN : tN s.2.1 = 0
    · have hcl : xs_cl n tx s = .error (1, s.1) := by unfold xs_cl; rw [if_neg h100, if_pos hN]
      rw [hcl]
      obtain ⟨τ, d1, d2⟩ := hfail
      refine ⟨τ, ?_, d2⟩
      rw [e0, if_pos (by rw [hN]; rfl), if_neg hne100, hG.2, d1]
      rfl
    · rw [e0, if_neg (by rw [xl_0, xp_eq (by omega) (by omega)]; exact hN), if_neg hne100]
      by_cases h108 : tx s.1 = 108
      · have hcl : xs_cl n tx s = (if tL s.2.1 < 7 then xs_cL n tx s else .error (3, s.1)) := by unfold xs_cl; rw [if_neg h100, if_neg hN, if_pos h108]
        rw [hcl]
        obtain ⟨τ, d1, d2⟩ := xe_clL hX hG hp hs hS
        exact ⟨τ, by rw [if_pos (show nI (tx s.1) = 108 by rw [h108]; rfl), d1]; rfl, d2⟩
      · have hne108 : ¬ nI (tx s.1) = 108 := fun h => h108 ((eqn 108 (by decide)).mp h)
        rw [if_neg hne108]
        by_cases h110 : tx s.1 = 110
        · have hcl : xs_cl n tx s = (if s.2.2.2 then .error (3, s.1) else xs_cN n tx s) := by unfold xs_cl; rw [if_neg h100, if_neg hN, if_neg h108, if_pos h110]
          rw [hcl]
          obtain ⟨τ, d1, d2⟩ := xe_clN hX hG hp hs hS
          exact ⟨τ, by rw [if_pos (show nI (tx s.1) = 110 by rw [h110]; rfl), d1]; rfl, d2⟩
        · have hne110 : ¬ nI (tx s.1) = 110 := fun h => h110 ((eqn 110 (by decide)).mp h)
          rw [if_neg hne110]
          by_cases h115 : tx s.1 = 115
          · have hcl : xs_cl n tx s = (if tS s.2.1 < 6 then xs_cS n tx s else .error (3, s.1)) := by unfold xs_cl; rw [if_neg h100, if_neg hN, if_neg h108, if_neg h110, if_pos h115]
            rw [hcl]
            obtain ⟨τ, d1, d2⟩ := xe_clS hX hG hp hs hS (by omega)
            exact ⟨τ, by rw [if_pos (show nI (tx s.1) = 115 by rw [h115]; rfl), d1]; rfl, d2⟩
          · have hne115 : ¬ nI (tx s.1) = 115 := fun h => h115 ((eqn 115 (by decide)).mp h)
            have hcl : xs_cl n tx s = .error (1, s.1) := by unfold xs_cl; rw [if_neg h100, if_neg hN, if_neg h108, if_neg h110, if_neg h115]
            rw [hcl]
            obtain ⟨τ, d1, d2⟩ := hfail
            exact ⟨τ, by rw [if_neg hne115, hG.2, d1]; rfl, d2⟩
def xs_prs (n : Nat) (tx : Nat → Nat) : Nat → xa_P → Except (Nat × Nat) xa_P
  | 0, s => .ok s
  | f + 1, s => if xs_sk n tx s.1 < n then (match xs_cl n tx (xs_sk n tx s.1, s.2) with
    | .error e => .error e
    | .ok s' => xs_prs n tx f s') else .ok s
def xs_p0 : xa_P := (0, (0, 0, 0, 0, 0, fun _ => 0, fun _ => 0, fun _ => 0), fun _ _ => 0, false)
theorem xs_pi0 : xs_pi xs_p0 := ⟨⟨Nat.zero_le _, Nat.zero_le _, Nat.zero_le _, Nat.zero_le _, Nat.zero_le _, fun h => absurd h (by decide), fun l h => absurd h (Nat.not_lt_zero l)⟩, fun _ _ => Nat.zero_le _, fun _ _ _ => rfl, fun _ _ _ => rfl, fun i h => absurd h (Nat.not_lt_zero i)⟩
theorem xs_pi_pos {s : xa_P} (h : xs_pi s) (p : Nat) : xs_pi (p, s.2) := h
theorem vS_pos {σ : xr_S} {s : xa_P} (h : vS σ s) (p : Nat) : vS σ (p, s.2) := h
theorem vS_F {σ τ : xr_S} {s : xa_P} (h : vS σ s) (hk : ∀ k, k ≠ 4 → τ.1 1 k = σ.1 1 k) (hc : ∀ c, c ≠ 1 → τ.1 c = σ.1 c) : vS τ s := by
  obtain ⟨s0, s1, s2, s3, s4, s5, s6, s7⟩ := h
  refine ⟨by rw [hc 3 (by decide)]; exact s0, by rw [hc 3 (by decide)]; exact s1, by rw [hc 3 (by decide)]; exact s2, by rw [hc 3 (by decide)]; exact s3, by rw [hc 3 (by decide)]; exact s4, fun i d hi hd => by rw [hc 5 (by decide)]; exact s5 i d hi hd, fun l hl => by rw [hc 6 (by decide), hc 7 (by decide), hc 8 (by decide)]; exact s6 l hl, by rw [hk 7 (by decide)]; exact s7⟩
def vQ (R : Except (Nat × Nat) xa_P) (v : Int32) (τ : xr_S) : Prop := match R with
  | .ok s => v = 0 ∧ xs_pi s ∧ vS τ s ∧ τ.1 1 1 = -1
  | .error e => v = nI e.1 ∧ xs_bad e ∧ τ.1 1 1 = nI e.2
theorem xe_parse {σ : xr_S} {n : Nat} {tx : Nat → Nat} (hX : vX σ n tx) : ∃ v τ, xf_X6_parse σ = some (v, τ) ∧ vX τ n tx ∧ (∀ c, c ≠ 1 → c ≠ 3 → c ≠ 5 → c ≠ 6 → c ≠ 7 → c ≠ 8 → τ.1 c = σ.1 c) ∧ vQ (xs_prs n tx 241 xs_p0) v τ := by
  have hn := hX.1
  obtain ⟨τ0, hτ0⟩ : ∃ τ0, τ0 = xr_up (xr_up (xr_up (xr_up (xr_upF (xr_up (xr_up (xr_up (xr_up (xr_up σ 3 0 0) 3 1 0) 3 2 0) 3 3 0) 3 4 0) 5 (fun k => if k < 30 then (0 : Int32) else (xr_up (xr_up (xr_up (xr_up (xr_up σ 3 0 0) 3 1 0) 3 2 0) 3 3 0) 3 4 0).1 5 k)) 1 4 0) 1 5 0) 1 1 (-1)) 1 7 0 := ⟨_, rfl⟩
  have hclear : ∀ F : xr_S → Option (Int32 × xr_S), (xf_X7_clear σ).bind (fun s1 => xr_pf s1 1 4 0 (fun s2 => xr_pf s2 1 5 0 (fun s3 => xr_pf s3 1 1 (-1) (fun s4 => xr_pf s4 1 7 0 (fun s5 => F s5))))) = F τ0 := by
    intro F
    unfold xf_X7_clear xf_X9_clear
    simp only [xp_pf]
    rw [xe_fill (n := 30) (by decide), Option.bind_some, Option.bind_some, Option.bind_some, hτ0]
  have q1 : ∀ k, k ≠ 1 → k ≠ 4 → k ≠ 5 → k ≠ 7 → τ0.1 1 k = σ.1 1 k := fun k h1 h4 h5 h7 => by
    rw [hτ0, xp_same, xp_un h7, xp_same, xp_un h1, xp_same, xp_un h5, xp_same, xp_un h4, xp_otherF (by decide), xp_other (by decide), xp_other (by decide), xp_other (by decide), xp_other (by decide), xp_other (by decide)]
  have q14 : τ0.1 1 4 = 0 := by rw [hτ0, xp_same, xp_un (by decide), xp_same, xp_un (by decide), xp_same, xp_un (by decide), xp_same, xp_us]
  have q15 : τ0.1 1 5 = 0 := by rw [hτ0, xp_same, xp_un (by decide), xp_same, xp_un (by decide), xp_same, xp_us]
  have q11 : τ0.1 1 1 = -1 := by rw [hτ0, xp_same, xp_un (by decide), xp_same, xp_us]
  have q17 : τ0.1 1 7 = 0 := by rw [hτ0, xp_same, xp_us]
  have qc : ∀ c, c ≠ 1 → c ≠ 3 → c ≠ 5 → τ0.1 c = σ.1 c := fun c h1 h3 h5 => by
    rw [hτ0, xp_other h1, xp_other h1, xp_other h1, xp_other h1, xp_otherF h5, xp_other h3, xp_other h3, xp_other h3, xp_other h3, xp_other h3]
  have q3 : ∀ k, k < 5 → τ0.1 3 k = 0 := fun k hk => by
    rw [hτ0, xp_other (by decide), xp_other (by decide), xp_other (by decide), xp_other (by decide), xp_otherF (by decide), xp_same]
    by_cases h4 : k = 4
    · rw [h4, xp_us]
    · rw [xp_un h4, xp_same]
      by_cases h3 : k = 3
      · rw [h3, xp_us]
      · rw [xp_un h3, xp_same]
        by_cases h2 : k = 2
        · rw [h2, xp_us]
        · rw [xp_un h2, xp_same]
          by_cases h1 : k = 1
          · rw [h1, xp_us]
          · rw [xp_un h1, xp_same, show k = 0 by omega, xp_us]
  have q5 : ∀ k, k < 30 → τ0.1 5 k = 0 := fun k hk => by
    rw [hτ0, xp_other (by decide), xp_other (by decide), xp_other (by decide), xp_other (by decide), xp_sameF, if_pos hk]
  have hX0 : vX τ0 n tx := ⟨hX.1, hX.2.1, by rw [q1 0 (by decide) (by decide) (by decide) (by decide)]; exact hX.2.2.1, fun k hk => by rw [qc 2 (by decide) (by decide) (by decide)]; exact hX.2.2.2 k hk⟩
  have hS0 : vS τ0 xs_p0 := ⟨q3 0 (by decide), q3 1 (by decide), q3 2 (by decide), q3 3 (by decide), q3 4 (by decide), fun i d hi hd => q5 _ (by omega), fun l hl => absurd hl (Nat.not_lt_zero l), q17⟩
  obtain ⟨τ1, z1, z2, z3, z4⟩ := xe_skC (p := 0) hX0 q14 (by omega)
  have hX1 : vX τ1 n tx := vX_F hX0 ⟨z4, fun k _ h _ _ => z3 k h⟩
  have hS1 : vS τ1 xs_p0 := vS_F hS0 z3 z4
  obtain ⟨R, hR⟩ : ∃ R, R = xs_prs n tx 241 xs_p0 := ⟨_, rfl⟩
  rw [← hR]
  have key := xp_inv (body := xf_X6_parse_L33 (fun (e9 : xr_S) => some ((e9.1 1 5), e9))) (Q := fun o => ∃ v τ, o = some (v, τ) ∧ vX τ n tx ∧ (∀ c, c ≠ 1 → c ≠ 3 → c ≠ 5 → c ≠ 6 → c ≠ 7 → c ≠ 8 → τ.1 c = σ.1 c) ∧ vQ R v τ) (fun j x => ∃ τ : xr_S, x = (nI j, τ) ∧ vX τ n tx ∧ (∀ c, c ≠ 1 → c ≠ 3 → c ≠ 5 → c ≠ 6 → c ≠ 7 → c ≠ 8 → τ.1 c = σ.1 c) ∧ ((∃ s, vG τ (xs_sk n tx s.1) ∧ xs_pi s ∧ vS τ s ∧ j ≤ s.1 ∧ s.1 ≤ n ∧ τ.1 1 1 = -1 ∧ xs_prs n tx (241 - j) s = R) ∨ ∃ e, vB τ e ∧ R = .error e)) 240 (fun j x hj hI => ?_) (fun x hI => ?_) 0 (0, τ1) (by omega) ⟨τ1, rfl, hX1, fun c h1 h3 h5 h6 h7 h8 => by rw [z4 c h1, qc c h1 h3 h5], Or.inl ⟨xs_p0, ⟨by rw [z3 5 (by decide)]; exact q15, z2⟩, xs_pi0, hS1, Nat.zero_le _, Nat.zero_le _, by rw [z3 1 (by decide)]; exact q11, hR.symm⟩⟩
  · obtain ⟨v, τ, h1, h2, h3, h4⟩ := key
    refine ⟨v, τ, ?_, h2, h3, h4⟩
    unfold xf_X6_parse
    rw [hclear (fun s5 => (xf_X6_skipBlanks s5).bind (fun s6 => xr_lw (xf_X6_parse_L33 (fun (e9 : xr_S) => some ((e9.1 1 5), e9))) (0, s6))), z1, Option.bind_some]
    exact h1
  · obtain ⟨τ, rfl, x1, x2, x3⟩ := hI
    rcases x3 with ⟨s, g1, g2, g3, g4, g5, g6, g7⟩ | ⟨e, b1, b2⟩
    · have hsk := xs_sk_is n tx s.1
      have hunf : xs_prs n tx (241 - j) s = if xs_sk n tx s.1 < n then (match xs_cl n tx (xs_sk n tx s.1, s.2) with
        | .error e => .error e
        | .ok s' => xs_prs n tx (240 - j) s') else .ok s := by
        rw [show 241 - j = (240 - j) + 1 by omega]; rfl
      rw [hunf] at g7
      by_cases hlt : xs_sk n tx s.1 < n
      · right
        rw [if_pos hlt] at g7
        obtain ⟨τ2, c1, c2, c3, c4⟩ := xe_clause (s := (xs_sk n tx s.1, s.2)) x1 g1 hlt (xs_pi_pos g2 _) (vS_pos g3 _)
        have hl : τ.1 2 (xs_sk n tx s.1) = nI (tx (xs_sk n tx s.1)) := x1.2.2.2 _ hlt
        have body : ∀ rec, xf_X6_parse_L33 (fun (e9 : xr_S) => some ((e9.1 1 5), e9)) (nI j, τ) rec = (xf_X6_skipBlanks τ2).bind (fun s13 => rec (nI (j + 1), s13)) := by
          intro rec
          have c1' : xf_X6_readClause τ (nI (tx (xs_sk n tx s.1))) = some τ2 := c1
          unfold xf_X6_parse_L33
          dsimp only
          rw [if_neg (show ¬ (240 : Int32) ≤ nI j from nI_ge (b := 240) hj (by omega)), x1.2.2.1, g1.2, if_neg (nI_ge hlt (by omega)), if_pos g1.1, xp_ld (by omega) (by omega), hl, c1', Option.bind_some, nI_1]
        cases hcl : xs_cl n tx (xs_sk n tx s.1, s.2) with
        | error e =>
          rw [hcl] at c4 g7
          obtain ⟨p', hp1, hp2⟩ := c4.2.2.2
          obtain ⟨τ3, y1, y2, y3, y4⟩ := xe_skC c2 hp2 hp1
          have hsk2 := xs_sk_is n tx p'
          refine ⟨(nI (j + 1), τ3), ⟨τ3, rfl, vX_F c2 ⟨y4, fun k _ h _ _ => y3 k h⟩, fun c h1 h3 h5 h6 h7 h8 => by rw [y4 c h1, c3 c h1 h3 h5 h6 h7 h8, x2 c h1 h3 h5 h6 h7 h8], Or.inr ⟨e, ⟨c4.1, by rw [y3 5 (by decide)]; exact c4.2.1, by rw [y3 1 (by decide)]; exact c4.2.2.1, xs_sk n tx p', ?_, y2⟩, g7.symm⟩⟩, fun rec => by rw [body, y1]; rfl⟩
          by_cases hpn : p' ≤ n
          · have := hsk2.2.1 hpn; omega
          · rw [xs_sk_no (fun h => by omega)]; exact hp1
        | ok s' =>
          rw [hcl] at c4 g7
          obtain ⟨w1, w2, w3⟩ := xs_cl_ok hlt (xs_pi_pos g2 _) hcl
          obtain ⟨τ3, y1, y2, y3, y4⟩ := xe_skC (p := s'.1) c2 c4.1.2 (by omega)
          refine ⟨(nI (j + 1), τ3), ⟨τ3, rfl, vX_F c2 ⟨y4, fun k _ h _ _ => y3 k h⟩, fun c h1 h3 h5 h6 h7 h8 => by rw [y4 c h1, c3 c h1 h3 h5 h6 h7 h8, x2 c h1 h3 h5 h6 h7 h8], Or.inl ⟨s', ⟨by rw [y3 5 (by decide)]; exact c4.1.1, y2⟩, w3, vS_F c4.2.1 y3 y4, ?_, w2, by rw [y3 1 (by decide), c4.2.2]; exact g6, ?_⟩⟩, fun rec => by rw [body, y1]; rfl⟩
          · have : (xs_sk n tx s.1, s.2).1 = xs_sk n tx s.1 := rfl
            omega
          · rw [show 241 - (j + 1) = 240 - j by omega]; exact g7
      · left
        rw [if_neg hlt] at g7
        refine ⟨some (0, τ), fun rec => ?_, 0, τ, rfl, x1, x2, by rw [← g7]; exact ⟨rfl, g2, g3, g6⟩⟩
        unfold xf_X6_parse_L33
        dsimp only
        rw [if_neg (show ¬ (240 : Int32) ≤ nI j from nI_ge (b := 240) hj (by omega)), x1.2.2.1, g1.2, if_pos (nI_le (by omega) (by have := hsk.2.1 g5; omega)), g1.1]
    · left
      refine ⟨some (nI e.1, τ), fun rec => ?_, nI e.1, τ, rfl, x1, x2, by rw [b2]; exact ⟨rfl, b1.1, b1.2.2.1⟩⟩
      unfold xf_X6_parse_L33
      dsimp only
      rw [if_neg (show ¬ (240 : Int32) ≤ nI j from nI_ge (b := 240) hj (by omega)), if_neg (vB_ne b1), ite_self, b1.2.1]
  · obtain ⟨τ, rfl, x1, x2, x3⟩ := hI
    rcases x3 with ⟨s, g1, g2, g3, g4, g5, g6, g7⟩ | ⟨e, b1, b2⟩
    · have hsk := xs_sk_is n tx s.1
      have hlt : ¬ xs_sk n tx s.1 < n := by omega
      have g7' : Except.ok s = R := by
        rw [← g7]
        show _ = if xs_sk n tx s.1 < n then _ else _
        rw [if_neg hlt]
      refine ⟨some (0, τ), fun rec => ?_, 0, τ, rfl, x1, x2, by rw [← g7']; exact ⟨rfl, g2, g3, g6⟩⟩
      unfold xf_X6_parse_L33
      dsimp only
      rw [if_pos (show (240 : Int32) ≤ nI 240 by decide), g1.1]
    · refine ⟨some (nI e.1, τ), fun rec => ?_, nI e.1, τ, rfl, x1, x2, by rw [b2]; exact ⟨rfl, b1.1, b1.2.2.1⟩⟩
      unfold xf_X6_parse_L33
      dsimp only
      rw [if_pos (show (240 : Int32) ≤ nI 240 by decide), b1.2.1]
