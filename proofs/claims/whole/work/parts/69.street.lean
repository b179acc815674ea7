/-! street -/
def mQ (R : Except (Nat × Nat) xa_P) (v : Int32) (τ : xr_S) : Prop := match R with
  | .ok s => v = 1 ∧ xs_pi s ∧ mS τ s ∧ τ.1 49 16 = -1
  | .error e => v = 0 ∧ τ.1 49 15 = nI e.1 ∧ τ.1 49 16 = nI e.2
theorem xe_parseM {σ : xr_S} {n : Nat} {tx : Nat → Nat} (hX : mX σ n tx) (h12 : σ.1 49 12 = 0) (hS : mS σ xs_p0) (h16 : σ.1 49 16 = -1) : ∃ v τ, (∀ K, xr_lw (xf_X11_street_L47 K) (1, σ) = K (v, τ)) ∧ (∀ c, c ≠ 49 → c ≠ 56 → c ≠ 57 → τ.1 c = σ.1 c) ∧ (∀ k, (k < 12 ∨ 22 < k) → τ.1 49 k = σ.1 49 k) ∧ mQ (xs_prs n tx 241 xs_p0) v τ := by
  have hn := hX.1
  obtain ⟨R, hR⟩ : ∃ R, R = xs_prs n tx 241 xs_p0 := ⟨_, rfl⟩
  rw [← hR]
  have key := xp_forX (body := xf_X11_street_L47) (fun j x => (∃ (τ : xr_S) (s : xa_P), x = (1, τ) ∧ mX τ n tx ∧ (∀ c, c ≠ 49 → c ≠ 56 → c ≠ 57 → τ.1 c = σ.1 c) ∧ (∀ k, (k < 12 ∨ 22 < k) → τ.1 49 k = σ.1 49 k) ∧ τ.1 49 12 = nI s.1 ∧ s.1 ≤ n ∧ j ≤ s.1 ∧ xs_pi s ∧ mS τ s ∧ τ.1 49 16 = -1 ∧ xs_prs n tx (241 - j) s = R) ∨ ∃ (τ : xr_S) (e : Nat × Nat), x = (0, τ) ∧ (∀ c, c ≠ 49 → c ≠ 56 → c ≠ 57 → τ.1 c = σ.1 c) ∧ (∀ k, (k < 12 ∨ 22 < k) → τ.1 49 k = σ.1 49 k) ∧ R = .error e ∧ τ.1 49 15 = nI e.1 ∧ τ.1 49 16 = nI e.2) (fun g => (∀ c, c ≠ 49 → c ≠ 56 → c ≠ 57 → g.2.1 c = σ.1 c) ∧ (∀ k, (k < 12 ∨ 22 < k) → g.2.1 49 k = σ.1 49 k) ∧ mQ R g.1 g.2) 240 (fun j x hj hP => by
      rcases hP with ⟨τ, s, rfl, y1, y2, y3, y4, y5, y6, y7, y8, y9, y10⟩ | ⟨τ, e, rfl, y2, y3, y4, y5, y6⟩
      · obtain ⟨τ0, z1, z2, z3, z4, z5⟩ := xe_here y1 y4 y5
        have hsk := xs_sk_is n tx s.1
        have X0 := mX_F y1 z2
        have hS0 : mS τ0 s := by
          obtain ⟨s0, s1, s2, s3, s4, s5, s6, s7⟩ := y8
          exact ⟨by rw [z5 17 (by decide)]; exact s0, by rw [z5 18 (by decide)]; exact s1, by rw [z5 19 (by decide)]; exact s2, by rw [z5 20 (by decide)]; exact s3, by rw [z5 21 (by decide)]; exact s4, by rw [z5 22 (by decide)]; exact s5, fun i d hi hd => by rw [z2.1 56 (by decide)]; exact s6 i d hi hd, fun l hl => by rw [z2.1 57 (by decide)]; exact s7 l hl⟩
        have f0 : ∀ c, c ≠ 49 → c ≠ 56 → c ≠ 57 → τ0.1 c = σ.1 c := fun c a b d => by rw [z2.1 c a, y2 c a b d]
        have f0k : ∀ k, (k < 12 ∨ 22 < k) → τ0.1 49 k = σ.1 49 k := fun k hk => by rw [z2.2 k (by omega), y3 k hk]
        have hunf : xs_prs n tx (241 - j) s = if xs_sk n tx s.1 < n then (match xs_cl n tx (xs_sk n tx s.1, s.2) with
          | .error e => .error e
          | .ok s' => xs_prs n tx (240 - j) s') else .ok s := by
          rw [show 241 - j = (240 - j) + 1 by omega]; rfl
        rw [hunf] at y10
        by_cases hlt : xs_sk n tx s.1 < n
        · right
          rw [if_pos hlt] at y10
          obtain ⟨b, τ2, c1, c2⟩ := xe_clauseM (s := (xs_sk n tx s.1, s.2)) X0 z3 (by omega) (xs_sk_sk n tx s.1).symm hlt (xs_pi_pos y7 _) (show mS τ0 (xs_sk n tx s.1, s.2) from hS0)
          obtain ⟨d1, d2, d3, d4⟩ := c2
          have f2 : ∀ c, c ≠ 49 → c ≠ 56 → c ≠ 57 → τ2.1 c = σ.1 c := fun c a b d => by rw [d2 c a b d, f0 c a b d]
          have f2k : ∀ k, (k < 12 ∨ 22 < k) → τ2.1 49 k = σ.1 49 k := fun k hk => by rw [d3 k hk, f0k k hk]
          have body : ∀ (K : (Int32 × xr_S) → Option (Int32 × xr_S)) rec, xf_X11_street_L47 K (1, τ) rec = rec (b, τ2) := by
            intro K rec
            unfold xf_X11_street_L47
            dsimp only
            rw [if_neg (by decide), z1, Option.bind_some]
            dsimp only
            rw [if_neg (by rw [xs_let_m1 y1.2.1]; exact fun h => h hlt), c1, Option.bind_some]
          refine ⟨(b, τ2), ?_, body⟩
          cases hcl : xs_cl n tx (xs_sk n tx s.1, s.2) with
          | error e =>
            rw [hcl] at d4 y10
            right
            exact ⟨τ2, e, by rw [d4.1], f2, f2k, y10.symm, d4.2.1, d4.2.2⟩
          | ok s' =>
            rw [hcl] at d4 y10
            obtain ⟨w1, w2, w3⟩ := xs_cl_ok hlt (xs_pi_pos y7 _) hcl
            left
            refine ⟨τ2, s', by rw [d4.1], d1, f2, f2k, d4.2.1, w2, ?_, w3, d4.2.2.1, by rw [d4.2.2.2.2, z5 16 (by decide)]; exact y9, by rw [show 241 - (j + 1) = 240 - j by omega]; exact y10⟩
            have : (xs_sk n tx s.1, s.2).1 = xs_sk n tx s.1 := rfl
            omega
        · left
          rw [if_neg hlt] at y10
          refine ⟨(1, τ0), ⟨f0, f0k, by rw [← y10]; exact ⟨rfl, y7, hS0, by rw [z5 16 (by decide)]; exact y9⟩⟩, fun K rec => ?_⟩
          unfold xf_X11_street_L47
          dsimp only
          rw [if_neg (by decide), z1, Option.bind_some]
          dsimp only
          rw [if_pos (by rw [xs_let_m1 y1.2.1]; exact hlt)]
      · left
        refine ⟨(0, τ), ⟨y2, y3, by rw [y4]; exact ⟨rfl, y5, y6⟩⟩, fun K rec => ?_⟩
        unfold xf_X11_street_L47
        dsimp only
        rw [if_pos rfl]) (fun x hP => by
      rcases hP with ⟨τ, s, rfl, y1, y2, y3, y4, y5, y6, y7, y8, y9, y10⟩ | ⟨τ, e, rfl, y2, y3, y4, y5, y6⟩
      · obtain ⟨τ0, z1, z2, z3, z4, z5⟩ := xe_here y1 y4 y5
        have hsk := xs_sk_is n tx s.1
        have hlt : ¬ xs_sk n tx s.1 < n := by omega
        have hS0 : mS τ0 s := by
          obtain ⟨s0, s1, s2, s3, s4, s5, s6, s7⟩ := y8
          exact ⟨by rw [z5 17 (by decide)]; exact s0, by rw [z5 18 (by decide)]; exact s1, by rw [z5 19 (by decide)]; exact s2, by rw [z5 20 (by decide)]; exact s3, by rw [z5 21 (by decide)]; exact s4, by rw [z5 22 (by decide)]; exact s5, fun i d hi hd => by rw [z2.1 56 (by decide)]; exact s6 i d hi hd, fun l hl => by rw [z2.1 57 (by decide)]; exact s7 l hl⟩
        have y10' : Except.ok s = R := by
          rw [← y10]
          show _ = if xs_sk n tx s.1 < n then _ else _
          rw [if_neg hlt]
        refine ⟨(1, τ0), ⟨fun c a b d => by rw [z2.1 c a, y2 c a b d], fun k hk => by rw [z2.2 k (by omega), y3 k hk], by rw [← y10']; exact ⟨rfl, y7, hS0, by rw [z5 16 (by decide)]; exact y9⟩⟩, fun K rec => ?_⟩
        unfold xf_X11_street_L47
        dsimp only
        rw [if_neg (by decide), z1, Option.bind_some]
        dsimp only
        rw [if_pos (by rw [xs_let_m1 y1.2.1]; exact hlt)]
      · refine ⟨(0, τ), ⟨y2, y3, by rw [y4]; exact ⟨rfl, y5, y6⟩⟩, fun K rec => ?_⟩
        unfold xf_X11_street_L47
        dsimp only
        rw [if_pos rfl]) 240 0 (by omega) (1, σ) (Or.inl ⟨σ, xs_p0, rfl, hX, fun _ _ _ _ => rfl, fun _ _ => rfl, h12, Nat.zero_le _, Nat.zero_le _, xs_pi0, hS, h16, hR.symm⟩)
  obtain ⟨g, ⟨h1, h2, h3⟩, h4⟩ := key
  exact ⟨g.1, g.2, h4, h1, h2, h3⟩
theorem xe_begins {σ : xr_S} : ∃ τ, xf_X11_begins σ = some τ ∧ (∀ c, c ≠ 50 → τ.1 c = σ.1 c) ∧ (∀ k, k < 30 → τ.1 50 k = 0) ∧ (∀ l, l < 7 → τ.1 50 (30 + l) = -1 ∧ τ.1 50 (37 + l) = -1 ∧ τ.1 50 (44 + l) = 0) ∧ τ.1 50 51 = 0 ∧ τ.1 50 52 = 0 ∧ τ.1 50 53 = 0 ∧ τ.1 50 54 = σ.1 50 54 ∧ ∀ k, 55 ≤ k → τ.1 50 k = σ.1 50 k := by
  obtain ⟨s', ⟨τ1, rfl, a1, a2, a3⟩, a4⟩ := xp_forK (body := xf_X11_begins_L10) (out := fun s => s.2) (fun j s => ∃ τ : xr_S, s = (nI j, τ) ∧ (∀ k, k < j → τ.1 50 k = 0) ∧ (∀ k, 55 ≤ k → τ.1 50 k = σ.1 50 k) ∧ ∀ c, c ≠ 50 → τ.1 c = σ.1 c) 55 (fun j s hj hP => by
      obtain ⟨τ, rfl, q1, q2, q3⟩ := hP
      refine ⟨(nI (j + 1), xr_up τ 50 j 0), ⟨_, rfl, fun k hk => ?_, fun k hk => by rw [xp_same, xp_un (by omega), q2 k hk], fun c h => by rw [xp_other h, q3 c h]⟩, fun K rec => ?_⟩
      · rw [xp_same]
        by_cases hkj : k = j
        · rw [hkj, xp_us]
        · rw [xp_un hkj, q1 k (by omega)]
      · unfold xf_X11_begins_L10
        dsimp only
        rw [if_neg (show ¬ (55 : Int32) ≤ nI j from nI_ge (b := 55) hj (by omega)), xp_st (by omega) (by omega), nI_1]) (fun s hP K rec => by
      obtain ⟨τ, rfl, q1, q2, q3⟩ := hP
      unfold xf_X11_begins_L10
      dsimp only
      rw [if_pos (show (55 : Int32) ≤ nI 55 by decide)]) 55 0 (by omega) (0, σ) ⟨σ, rfl, fun _ h => by omega, fun _ _ => rfl, fun _ _ => rfl⟩
  obtain ⟨s', ⟨τ2, rfl, b1, b2, b3⟩, b4⟩ := xp_forK (body := xf_X11_begins_L31) (out := fun s => s.2) (fun j s => ∃ τ : xr_S, s = (nI j, τ) ∧ (∀ l, l < j → τ.1 50 (30 + l) = -1 ∧ τ.1 50 (37 + l) = -1) ∧ (∀ k, (k < 30 ∨ 44 ≤ k) → τ.1 50 k = τ1.1 50 k) ∧ ∀ c, c ≠ 50 → τ.1 c = σ.1 c) 7 (fun j s hj hP => by
      obtain ⟨τ, rfl, q1, q2, q3⟩ := hP
      refine ⟨(nI (j + 1), xr_up (xr_up τ 50 (30 + j) (-1)) 50 (37 + j) (-1)), ⟨_, rfl, fun l hl => ?_, fun k hk => by rw [xp_same, xp_un (by omega), xp_same, xp_un (by omega), q2 k hk], fun c h => by rw [xp_other h, xp_other h, q3 c h]⟩, fun K rec => ?_⟩
      · rw [xp_same, xp_same]
        by_cases hlj : l = j
        · rw [hlj, xp_us, xp_un (by omega), xp_us]; exact ⟨rfl, rfl⟩
        · rw [xp_un (by omega), xp_un (by omega), xp_un (by omega), xp_un (by omega)]; exact q1 l (by omega)
      · unfold xf_X11_begins_L31
        dsimp only
        rw [if_neg (show ¬ (7 : Int32) ≤ nI j from nI_ge (b := 7) hj (by omega)), xl_30, nI_add, xp_st (by omega) (by omega), xl_37, nI_add, xp_st (by omega) (by omega), nI_1]) (fun s hP K rec => by
      obtain ⟨τ, rfl, q1, q2, q3⟩ := hP
      unfold xf_X11_begins_L31
      dsimp only
      rw [if_pos (show (7 : Int32) ≤ nI 7 by decide)]) 7 0 (by omega) (0, τ1) ⟨τ1, rfl, fun _ h => by omega, fun _ _ => rfl, a3⟩
  refine ⟨xr_up τ2 50 54 (σ.1 50 54), ?_, fun c h => by rw [xp_other h, b3 c h], fun k hk => by rw [xp_same, xp_un (by omega), b2 k (by omega), a1 k (by omega)], fun l hl => ?_, by rw [xp_same, xp_un (by decide), b2 51 (by omega), a1 51 (by omega)], by rw [xp_same, xp_un (by decide), b2 52 (by omega), a1 52 (by omega)], by rw [xp_same, xp_un (by decide), b2 53 (by omega), a1 53 (by omega)], by rw [xp_same, xp_us], fun k hk => by rw [xp_same, xp_un (by omega), b2 k (by omega), a2 k hk]⟩
  · unfold xf_X11_begins
    rw [xl_54, xp_ld (by omega) (by omega)]
    refine (a4 _).trans ((b4 _).trans ?_)
    dsimp only
    rw [xp_st (by omega) (by omega)]
  · rw [xp_same, xp_un (by omega), xp_un (by omega), xp_un (by omega), b2 (44 + l) (by omega), a1 (44 + l) (by omega)]
    exact ⟨(b1 l hl).1, (b1 l hl).2, rfl⟩
theorem xe_copyW {σ : xr_S} {S N : Nat} (hS : σ.1 49 4 = nI S) (hN : σ.1 49 2 = nI N) (hS6 : S ≤ 6) (hN5 : N ≤ 5) : ∃ τ, (∀ i d, i < S → d < N → τ.1 50 (5 * i + d) = σ.1 56 (5 * i + d)) ∧ (∀ k, (∀ i d, i < S → d < N → k ≠ 5 * i + d) → τ.1 50 k = σ.1 50 k) ∧ (∀ c, c ≠ 50 → τ.1 c = σ.1 c) ∧ ∀ K : xr_S → Option (Int32 × xr_S), xr_lw (xf_X11_street_L130 K) (0, σ) = K τ := by
  obtain ⟨s', ⟨τ, rfl, h1, h2, h4⟩, h3⟩ := xp_forK (body := xf_X11_street_L130) (out := fun s => s.2) (fun j s => ∃ τ : xr_S, s = (nI j, τ) ∧ (∀ i d, i < j → d < N → τ.1 50 (5 * i + d) = σ.1 56 (5 * i + d)) ∧ (∀ k, (∀ i d, i < j → d < N → k ≠ 5 * i + d) → τ.1 50 k = σ.1 50 k) ∧ ∀ c, c ≠ 50 → τ.1 c = σ.1 c) S (fun j s hj hP => by
      obtain ⟨τ, rfl, q1, q2, q3⟩ := hP
      obtain ⟨s2, ⟨ρ, rfl, r1, r2, r4⟩, r3⟩ := xp_forK (body := xf_X11_street_L140 (nI j, τ)) (out := fun s => s.2) (fun d s => ∃ ρ : xr_S, s = (nI d, ρ) ∧ (∀ e, e < d → ρ.1 50 (5 * j + e) = σ.1 56 (5 * j + e)) ∧ (∀ k, (∀ e, e < d → k ≠ 5 * j + e) → ρ.1 50 k = τ.1 50 k) ∧ ∀ c, c ≠ 50 → ρ.1 c = σ.1 c) N (fun d s hd hP => by
          obtain ⟨ρ, rfl, w1, w2, w3⟩ := hP
          refine ⟨(nI (d + 1), xr_up ρ 50 (5 * j + d) (σ.1 56 (5 * j + d))), ⟨_, rfl, fun e he => ?_, fun k hk => ?_, fun c h => by rw [xp_other h, w3 c h]⟩, fun K rec => ?_⟩
          · rw [xp_same]
            by_cases hed : e = d
            · rw [hed, xp_us]
            · rw [xp_un (by omega), w1 e (by omega)]
          · rw [xp_same, xp_un (hk d (by omega)), w2 k (fun e he => hk e (by omega))]
          · unfold xf_X11_street_L140
            dsimp only
            rw [w3 49 (by decide), hN, if_neg (nI_ge hd (by omega)), xl_5, pk_mul, nI_add, xp_ld (by omega) (by omega), w3 56 (by decide), show (0 : Int32) = nI 0 from rfl, nI_add, Nat.zero_add, nI_add, xp_st (by omega) (by omega), nI_1]) (fun s hP K rec => by
          obtain ⟨ρ, rfl, w1, w2, w3⟩ := hP
          unfold xf_X11_street_L140
          dsimp only
          rw [w3 49 (by decide), hN, if_pos (nI_le (Nat.le_refl _) (by omega))]) N 0 (by omega) (0, τ) ⟨τ, rfl, fun _ h => by omega, fun _ _ => rfl, q3⟩
      refine ⟨(nI (j + 1), ρ), ⟨ρ, rfl, fun i d hi hd => ?_, fun k hk => ?_, r4⟩, fun K rec => ?_⟩
      · by_cases hij : i = j
        · rw [hij]; exact r1 d hd
        · rw [r2 _ (fun e he => by omega)]; exact q1 i d (by omega) hd
      · rw [r2 k (fun e he => hk j e (by omega) he), q2 k (fun i d hi hd => hk i d (by omega) hd)]
      · unfold xf_X11_street_L130
        dsimp only
        rw [q3 49 (by decide), hS, if_neg (nI_ge hj (by omega)), nI_1]
        exact r3 _) (fun s hP K rec => by
      obtain ⟨τ, rfl, q1, q2, q3⟩ := hP
      unfold xf_X11_street_L130
      dsimp only
      rw [q3 49 (by decide), hS, if_pos (nI_le (Nat.le_refl _) (by omega))]) S 0 (by omega) (0, σ) ⟨σ, rfl, fun _ _ h => by omega, fun _ _ => rfl, fun _ _ => rfl⟩
  exact ⟨τ, h1, h2, h4, h3⟩
theorem xe_copyL {σ : xr_S} {L : Nat} (hL : σ.1 49 5 = nI L) (hL7 : L ≤ 7) : ∃ τ, (∀ l, l < L → τ.1 52 l = σ.1 57 (3 * l) ∧ τ.1 53 l = σ.1 57 (3 * l + 1) ∧ τ.1 54 l = σ.1 57 (3 * l + 2)) ∧ (∀ c, c ≠ 52 → c ≠ 53 → c ≠ 54 → τ.1 c = σ.1 c) ∧ ∀ K : xr_S → Option (Int32 × xr_S), xr_lw (xf_X11_street_L184 K) (0, σ) = K τ := by
  obtain ⟨s', ⟨τ, rfl, h1, h2⟩, h3⟩ := xp_forK (body := xf_X11_street_L184) (out := fun s => s.2) (fun j s => ∃ τ : xr_S, s = (nI j, τ) ∧ (∀ l, l < j → τ.1 52 l = σ.1 57 (3 * l) ∧ τ.1 53 l = σ.1 57 (3 * l + 1) ∧ τ.1 54 l = σ.1 57 (3 * l + 2)) ∧ ∀ c, c ≠ 52 → c ≠ 53 → c ≠ 54 → τ.1 c = σ.1 c) L (fun j s hj hP => by
      obtain ⟨τ, rfl, q1, q2⟩ := hP
      have e57 : τ.1 57 = σ.1 57 := q2 57 (by decide) (by decide) (by decide)
      obtain ⟨ρ, hρ⟩ : ∃ ρ, ρ = xr_up (xr_up (xr_up τ 52 j (σ.1 57 (3 * j))) 53 j (σ.1 57 (3 * j + 1))) 54 j (σ.1 57 (3 * j + 2)) := ⟨_, rfl⟩
      refine ⟨(nI (j + 1), ρ), ⟨_, rfl, fun l hl => ?_, fun c a b d => by rw [hρ, xp_other d, xp_other b, xp_other a, q2 c a b d]⟩, fun K rec => ?_⟩
      · have u52 : ρ.1 52 = upd (τ.1 52) j (σ.1 57 (3 * j)) := by rw [hρ, xp_other (by decide), xp_other (by decide), xp_same]
        have u53 : ρ.1 53 = upd (τ.1 53) j (σ.1 57 (3 * j + 1)) := by rw [hρ, xp_other (by decide), xp_same, xp_other (by decide)]
        have u54 : ρ.1 54 = upd (τ.1 54) j (σ.1 57 (3 * j + 2)) := by rw [hρ, xp_same, xp_other (by decide), xp_other (by decide)]
        rw [u52, u53, u54]
        by_cases hlj : l = j
        · rw [hlj, xp_us, xp_us, xp_us]; exact ⟨rfl, rfl, rfl⟩
        · rw [xp_un hlj, xp_un hlj, xp_un hlj]; exact q1 l (by omega)
      · unfold xf_X11_street_L184
        dsimp only
        rw [q2 49 (by decide) (by decide) (by decide), hL, if_neg (nI_ge hj (by omega)), nI_1, show (3 : Int32) = nI 3 from rfl, pk_mul, xp_ld (by omega) (by omega), e57, xp_st (by omega) (by omega), nI_1, xp_ld (by omega) (by omega), xp_other (by decide), e57, xp_st (by omega) (by omega), show (2 : Int32) = nI 2 from rfl, nI_add, xp_ld (by omega) (by omega), xp_other (by decide), xp_other (by decide), e57, xp_st (by omega) (by omega), ← hρ]) (fun s hP K rec => by
      obtain ⟨τ, rfl, q1, q2⟩ := hP
      unfold xf_X11_street_L184
      dsimp only
      rw [q2 49 (by decide) (by decide) (by decide), hL, if_pos (nI_le (Nat.le_refl _) (by omega))]) L 0 (by omega) (0, σ) ⟨σ, rfl, fun _ h => by omega, fun _ _ _ _ => rfl⟩
  exact ⟨τ, h1, h2, h3⟩
