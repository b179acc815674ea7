/-! a sleeper's clause, and the whole text, read by the class -/
def xs_wp (n : Nat) (tx : Nat → Nat) (p : Nat) : Nat → Except (Nat × Nat) Nat
  | 0 => .ok p
  | d + 1 => xs_snd (xs_wn n tx p d)
theorem xs_wb_wp {n : Nat} {tx : Nat → Nat} {p d : Nat} (hd : 0 < d) : xs_wb n tx p d = xs_rs n tx (xs_wp n tx p d) 44 := by
  obtain ⟨k, rfl⟩ : ∃ k, d = k + 1 := ⟨d - 1, by omega⟩
  rfl
theorem xs_wp_err {n : Nat} {tx : Nat → Nat} {p d : Nat} {e : Nat × Nat} (h : xs_wp n tx p d = .error e) : ∀ m, xs_wp n tx p (d + m) = .error e := by
  intro m
  induction m with
  | zero => exact h
  | succ m ih =>
    have hd : 0 < d + m := by
      rcases Nat.eq_zero_or_pos (d + m) with h0 | h0
      · rw [h0] at ih; cases ih
      · exact h0
    show xs_snd (xs_rn n tx (xs_wb n tx p (d + m)) 0 10) = .error e
    rw [xs_wb_wp hd, ih]
    rfl
theorem xe_all6 (σ : xr_S) (c : Nat) : xf_X9_all σ c (nI 6) = some 0 := by
  unfold xf_X9_all
  simp (disch := omega) only [↓xp_n1, ↓reduceIte, xp_oIs, xp_v, xp_jn, xp_pf, xp_ld, xp_st, xp_le, xp_lt, xp_eq, nI_add, pk_mul, if_pos, if_neg, xp_same, xp_other, xp_us, xp_un, ne_eq, not_false_eq_true, Option.bind_some, Option.bind, xl_0, xl_1, xl_2, xl_3, xl_4, xl_5, xl_6, xl_7, xl_8, xl_9, xl_10, xl_11, xl_12, xl_13, xl_15, xl_16, xl_30, xl_31, xl_32, xl_37, xl_40, xl_44, xl_48, xl_50, xl_51, xl_52, xl_53, xl_54, xl_55, xl_57, xl_59, xl_63, xl_64, xl_99, xl_100, xl_108, xl_110, xl_115, xl_200, xl_201, xl_220, xl_240, xl_255, xl_512, xl_65536, xl_90000, xl_999999, xl_1000000]
theorem xe_all_any (σ : xr_S) {c s : Nat} (hs : s < 6) : ∃ v, xf_X9_all σ c (nI s) = some v := by
  unfold xf_X9_all
  simp (disch := omega) only [↓xp_n1, ↓reduceIte, xp_oIs, xp_v, xp_jn, xp_pf, xp_ld, xp_st, xp_le, xp_lt, xp_eq, nI_add, pk_mul, if_pos, if_neg, xp_same, xp_other, xp_us, xp_un, ne_eq, not_false_eq_true, Option.bind_some, Option.bind, xl_0, xl_1, xl_2, xl_3, xl_4, xl_5, xl_6, xl_7, xl_8, xl_9, xl_10, xl_11, xl_12, xl_13, xl_15, xl_16, xl_30, xl_31, xl_32, xl_37, xl_40, xl_44, xl_48, xl_50, xl_51, xl_52, xl_53, xl_54, xl_55, xl_57, xl_59, xl_63, xl_64, xl_99, xl_100, xl_108, xl_110, xl_115, xl_200, xl_201, xl_220, xl_240, xl_255, xl_512, xl_65536, xl_90000, xl_999999, xl_1000000]
  have key := xp_forX (body := xf_X9_all_L14 σ c (nI s)) (fun j x => ∃ v : Int32, x = (v, nI j)) (fun _ => True) 5 (fun j x hj hP => by
    obtain ⟨v, rfl⟩ := hP
    right
    refine ⟨(v + σ.1 (c + 1) (s * 5 + j), nI (j + 1)), ⟨_, rfl⟩, fun K rec => ?_⟩
    simp (disch := omega) only [xf_X9_all_L14, ↓xp_n1, ↓reduceIte, xp_oIs, xp_v, xp_jn, xp_pf, xp_ld, xp_st, xp_le, xp_lt, xp_eq, nI_add, pk_mul, if_pos, if_neg, xp_same, xp_other, xp_us, xp_un, ne_eq, not_false_eq_true, Option.bind_some, Option.bind, xl_0, xl_1, xl_2, xl_3, xl_4, xl_5, xl_6, xl_7, xl_8, xl_9, xl_10, xl_11, xl_12, xl_13, xl_15, xl_16, xl_30, xl_31, xl_32, xl_37, xl_40, xl_44, xl_48, xl_50, xl_51, xl_52, xl_53, xl_54, xl_55, xl_57, xl_59, xl_63, xl_64, xl_99, xl_100, xl_108, xl_110, xl_115, xl_200, xl_201, xl_220, xl_240, xl_255, xl_512, xl_65536, xl_90000, xl_999999, xl_1000000]) (fun x hP => by
    obtain ⟨v, rfl⟩ := hP
    refine ⟨v, trivial, fun K rec => ?_⟩
    simp (disch := omega) only [xf_X9_all_L14, ↓xp_n1, ↓reduceIte, xp_oIs, xp_v, xp_jn, xp_pf, xp_ld, xp_st, xp_le, xp_lt, xp_eq, nI_add, pk_mul, if_pos, if_neg, xp_same, xp_other, xp_us, xp_un, ne_eq, not_false_eq_true, Option.bind_some, Option.bind, xl_0, xl_1, xl_2, xl_3, xl_4, xl_5, xl_6, xl_7, xl_8, xl_9, xl_10, xl_11, xl_12, xl_13, xl_15, xl_16, xl_30, xl_31, xl_32, xl_37, xl_40, xl_44, xl_48, xl_50, xl_51, xl_52, xl_53, xl_54, xl_55, xl_57, xl_59, xl_63, xl_64, xl_99, xl_100, xl_108, xl_110, xl_115, xl_200, xl_201, xl_220, xl_240, xl_255, xl_512, xl_65536, xl_90000, xl_999999, xl_1000000]) 5 0 (by omega) (nI 0, nI 0) ⟨nI 0, rfl⟩
  obtain ⟨g, -, hg⟩ := key
  exact ⟨_, hg _⟩
theorem xe_slLoop {σ : xr_S} {n : Nat} {tx : Nat → Nat} {s : xa_P} (hs : xs_pi s) (hN : 0 < tN s.2.1) (hS6 : tS s.2.1 < 6) (hX : vX σ n tx) (hT : vT n σ (.ok (s.1 + 1))) (h30 : σ.1 3 0 = nI (tN s.2.1)) (h32 : σ.1 3 2 = nI (tS s.2.1)) (h5 : ∀ i d, i < 6 → d < 5 → σ.1 5 (i * 5 + d) = nI (s.2.2.1 i d)) : ∃ τ, vX τ n tx ∧ vT n τ (xs_snd (xs_wn n tx (s.1 + 1) (tN s.2.1 - 1))) ∧ (∀ c, c ≠ 1 → c ≠ 5 → τ.1 c = σ.1 c) ∧ τ.1 1 7 = σ.1 1 7 ∧ (∀ q, xs_snd (xs_wn n tx (s.1 + 1) (tN s.2.1 - 1)) = .ok q → (∀ i d, i < 6 → d < 5 → τ.1 5 (i * 5 + d) = nI (xs_row s.2.2.1 (tS s.2.1) (tN s.2.1) (fun d => xs_val (xs_wn n tx (s.1 + 1) d)) i d)) ∧ τ.1 1 1 = σ.1 1 1 ∧ τ.1 1 6 = nI (xs_sk n tx (xs_pos (xs_wb n tx (s.1 + 1) (tN s.2.1 - 1))))) ∧ ∀ K : xr_S → Option xr_S, xr_lw (xf_X6_readSleeper_L23 K) (0, σ) = K τ := by
  obtain ⟨t1, t2, t3, t4, t5, t6, t7⟩ := id hs.1
  obtain ⟨N, hNN⟩ : ∃ N, N = tN s.2.1 := ⟨_, rfl⟩
  rw [← hNN] at h30 hN t1 ⊢
  obtain ⟨S, hSS⟩ : ∃ S, S = tS s.2.1 := ⟨_, rfl⟩
  rw [← hSS] at h32 hS6 ⊢
  have hlast : xs_snd (xs_wn n tx (s.1 + 1) (N - 1)) = xs_wp n tx (s.1 + 1) N := by
    obtain ⟨k, hk⟩ : ∃ k, N = k + 1 := ⟨N - 1, by omega⟩
    rw [hk]; rfl
  rw [hlast]
  obtain ⟨p, hp⟩ : ∃ p, p = s.1 + 1 := ⟨_, rfl⟩
  rw [← hp] at hT ⊢
  obtain ⟨w, hw⟩ : ∃ w, w = s.2.2.1 := ⟨_, rfl⟩
  rw [← hw] at h5 ⊢
  obtain ⟨g, hg⟩ : ∃ g : Nat → Nat, g = fun d => xs_val (xs_wn n tx p d) := ⟨_, rfl⟩
  rw [← hg]
  have key := xp_forX (body := xf_X6_readSleeper_L23) (fun j x => ∃ τ : xr_S, x = (nI j, τ) ∧ vX τ n tx ∧ vT n τ (xs_wp n tx p j) ∧ (∀ c, c ≠ 1 → c ≠ 5 → τ.1 c = σ.1 c) ∧ τ.1 1 7 = σ.1 1 7 ∧ ∀ q, xs_wp n tx p j = .ok q → (∀ i d, i < 6 → d < 5 → τ.1 5 (i * 5 + d) = nI (xs_row w S j g i d)) ∧ τ.1 1 1 = σ.1 1 1 ∧ (0 < j → τ.1 1 6 = nI (xs_sk n tx (xs_pos (xs_wb n tx p (j - 1)))))) (fun τ => vX τ n tx ∧ vT n τ (xs_wp n tx p N) ∧ (∀ c, c ≠ 1 → c ≠ 5 → τ.1 c = σ.1 c) ∧ τ.1 1 7 = σ.1 1 7 ∧ ∀ q, xs_wp n tx p N = .ok q → (∀ i d, i < 6 → d < 5 → τ.1 5 (i * 5 + d) = nI (xs_row w S N g i d)) ∧ τ.1 1 1 = σ.1 1 1 ∧ (0 < N → τ.1 1 6 = nI (xs_sk n tx (xs_pos (xs_wb n tx p (N - 1)))))) N (fun j x hj hP => by
      obtain ⟨τ, rfl, x1, x2, x3, x4, x5⟩ := hP
      have e30 : τ.1 3 0 = nI N := by rw [x3 3 (by decide) (by decide)]; exact h30
      cases hr : xs_wp n tx p j with
      | error e =>
        left
        rw [hr] at x2
        have hN2 : xs_wp n tx p N = .error e := by
          have := xs_wp_err hr (N - j)
          rw [show j + (N - j) = N by omega] at this
          exact this
        refine ⟨τ, ⟨x1, by rw [hN2]; exact x2, x3, x4, fun q hq => by rw [hN2] at hq; cases hq⟩, fun K rec => ?_⟩
        unfold xf_X6_readSleeper_L23
        dsimp only
        rw [e30, if_neg (nI_ge hj (by omega)), if_neg (vB_ne x2)]
      | ok q =>
        right
        obtain ⟨y1, y2, y3⟩ := x5 q hr
        have x2' := x2
        rw [hr] at x2'
        obtain ⟨τ1, z1, z2, z3, z4⟩ : ∃ τ1, (∀ F : xr_S → Option xr_S, (if nI j ≤ 0 then (F τ) else ((xf_X6_readSign τ 44).bind (fun s13 => F s13))) = F τ1) ∧ vF τ τ1 ∧ vT n τ1 (xs_wb n tx p j) ∧ ∀ u, xs_wb n tx p j = .ok u → τ1.1 1 1 = τ.1 1 1 := by
          by_cases hj0 : j = 0
          · refine ⟨τ, fun F => ?_, vF_rf τ, ?_, fun _ _ => rfl⟩
            · rw [if_pos (show nI j ≤ 0 by rw [hj0]; decide)]
            · rw [hj0] at x2 ⊢; exact x2
          · obtain ⟨τ1, d1, d2, d3, d4⟩ := xe_rsC (c := 44) x1 x2 (by decide)
            have d1' : xf_X6_readSign τ 44 = some τ1 := d1
            rw [← xs_wb_wp (by omega)] at d3 d4
            refine ⟨τ1, fun F => ?_, d2, d3, fun u hu => (d4 u hu).1⟩
            rw [if_neg (nI_nle (by omega) (by omega)), d1']
            rfl
        have X1 := vX_F x1 z2
        obtain ⟨v, τ2, a1, a2, a3, a4⟩ := xe_rnC (lo := 0) (hi := 10) (y := 9) X1 z3 (by decide) (by decide) (by decide)
        have X2 := vX_F X1 a2
        have e32 : τ1.1 3 2 = nI S := by rw [z2.1 3 (by decide), x3 3 (by decide) (by decide)]; exact h32
        have ep : xf_X9_put τ2 4 (nI S) (nI j) v = some (xr_up τ2 5 (S * 5 + j) v) := xe_put (c := 4) (by omega) (by omega)
        have hnext : xs_wp n tx p (j + 1) = xs_snd (xs_rn n tx (xs_wb n tx p j) 0 10) := rfl
        refine ⟨(nI (j + 1), xr_up τ2 5 (S * 5 + j) v), ⟨_, rfl, vX_up X2 (by decide) (by decide), by rw [hnext]; exact vT_up a3 (by decide), fun c h1 h2 => by rw [xp_other h2, a2.1 c h1, z2.1 c h1, x3 c h1 h2], by rw [xp_other (by decide), a2.2 7 (by decide) (by decide) (by decide) (by decide), z2.2 7 (by decide) (by decide) (by decide) (by decide)]; exact x4, fun u hu => ?_⟩, fun K rec => ?_⟩
        · rw [hnext] at hu
          obtain ⟨xx, k1, k2⟩ := xs_snd_ok hu
          obtain ⟨m1, m2, m3⟩ := a4 xx k1
          obtain ⟨uu, k3, -⟩ := xs_rn_ok k1
          refine ⟨fun i d hi hd => ?_, ?_, fun _ => ?_⟩
          · rw [xp_same]
            unfold xs_row
            by_cases hid : i * 5 + d = S * 5 + j
            · have hi2 : i = S := by omega
              have hd2 : d = j := by omega
              rw [hid, xp_us, if_pos ⟨hi2, by omega⟩, hd2, m1, hg]
              rfl
            · rw [xp_un hid, a2.1 5 (by decide), z2.1 5 (by decide), y1 i d hi hd]
              unfold xs_row
              by_cases hc : i = S ∧ d < j
              · rw [if_pos hc, if_pos ⟨hc.1, by omega⟩]
              · rw [if_neg hc, if_neg (fun h => hc ⟨h.1, by omega⟩)]
          · rw [xp_other (by decide), m2, z4 uu k3]; exact y2
          · rw [xp_other (by decide), m3]; rfl
        · have a1' : xf_X6_readNumber τ1 0 9 = some (v, τ2) := a1
          unfold xf_X6_readSleeper_L23
          dsimp only
          rw [e30, if_neg (nI_ge hj (by omega)), if_pos x2'.1.1, xp_jn]
          refine (z1 (fun w8 => (xf_X6_readNumber w8 0 9).bind (fun p10 => (xf_X9_put p10.2 4 (w8.1 3 2) (nI j) p10.1).bind (fun s11 => rec ((nI j + 1), s11))))).trans ?_
          rw [a1', Option.bind_some, e32]
          dsimp only
          rw [ep, Option.bind_some, nI_1]) (fun x hP => by
      obtain ⟨τ, rfl, x1, x2, x3, x4, x5⟩ := hP
      refine ⟨τ, ⟨x1, x2, x3, x4, x5⟩, fun K rec => ?_⟩
      have e30 : τ.1 3 0 = nI N := by rw [x3 3 (by decide) (by decide)]; exact h30
      unfold xf_X6_readSleeper_L23
      dsimp only
      rw [e30, if_pos (nI_le (Nat.le_refl _) (by omega))]) N 0 (by omega) (0, σ) ⟨σ, rfl, hX, hT, fun _ _ _ => rfl, rfl, fun q _ => ⟨fun i d hi hd => by
        unfold xs_row
        rw [if_neg (by omega)]
        exact h5 i d hi hd, rfl, fun h => by omega⟩⟩
  obtain ⟨τ, ⟨k1, k2, k3, k4, k5⟩, k6⟩ := key
  exact ⟨τ, k1, k2, k3, k4, fun q hq => ⟨(k5 q hq).1, (k5 q hq).2.1, (k5 q hq).2.2 hN⟩, k6⟩
theorem xe_clS {σ : xr_S} {n : Nat} {tx : Nat → Nat} {s : xa_P} (hX : vX σ n tx) (hG : vG σ s.1) (hp : s.1 < n) (hs : xs_pi s) (hS : vS σ s) (hN : 0 < tN s.2.1) : ∃ τ, xf_X6_readSleeper σ = some τ ∧ vO n tx σ τ (if tS s.2.1 < 6 then xs_cS n tx s else .error (3, s.1)) := by
  obtain ⟨s0, s1, s2, s3, s4, s5, s6, s7⟩ := id hS
  obtain ⟨t1, t2, t3, t4, t5, t6, t7⟩ := id hs.1
  obtain ⟨b, hb⟩ : ∃ b : Bool, b = decide (tS s.2.1 < 6) := ⟨_, rfl⟩
  obtain ⟨τ0, p1, p2, p3, p4⟩ := xe_passC hX hG hp b
  have hX0 := vX_F hX p2
  have hN0 : τ0.1 3 0 = nI (tN s.2.1) := by rw [p2.1 3 (by decide)]; exact s0
  have hS0 : τ0.1 3 2 = nI (tS s.2.1) := by rw [p2.1 3 (by decide)]; exact s2
  have hW0 : ∀ i d, i < 6 → d < 5 → τ0.1 5 (i * 5 + d) = nI (s.2.2.1 i d) := fun i d hi hd => by rw [p2.1 5 (by decide)]; exact s5 i d hi hd
  have head : ∀ τ, xr_lw (xf_X6_readSleeper_L23 (fun (e6 : xr_S) => (xf_X9_all e6 4 (e6.1 3 2)).bind (fun v14 => xr_jn (fun (w15 : xr_S) => (xf_X6_readSign w15 59).bind (fun s17 => if (s17.1 1 5) = 0 then (xr_pf s17 3 2 ((s17.1 3 2) + 1) (fun s18 => some s18)) else (some s17))) (fun j16 => if v14 = 0 then ((xf_X6_fail e6 4 (e6.1 1 6)).bind (fun s19 => j16 s19)) else (j16 e6))))) (0, τ0) = some τ → xf_X6_readSleeper σ = some τ := by
    intro τ hτ
    rw [← hτ]
    have hbI : ∀ F : Int32 → Option xr_S, (if 6 ≤ (σ.1 3 2) then (F 0) else (F 1)) = F (bI b) := fun F => by
      rw [s2, hb]
      by_cases h0 : tS s.2.1 < 6
      · rw [if_neg (show ¬ (6 : Int32) ≤ nI (tS s.2.1) from nI_ge (b := 6) h0 (by omega)), decide_eq_true h0]; rfl
      · rw [if_pos (show (6 : Int32) ≤ nI (tS s.2.1) from nI_le (a := 6) (by omega) (by omega)), decide_eq_false h0]; rfl
    unfold xf_X6_readSleeper
    rw [xp_jn]
    refine (hbI (fun w1 => (xf_X6_passWord σ w1).bind (fun s3 => xr_lw (xf_X6_readSleeper_L23 (fun (e6 : xr_S) => (xf_X9_all e6 4 (e6.1 3 2)).bind (fun v14 => xr_jn (fun (w15 : xr_S) => (xf_X6_readSign w15 59).bind (fun s17 => if (s17.1 1 5) = 0 then (xr_pf s17 3 2 ((s17.1 3 2) + 1) (fun s18 => some s18)) else (some s17))) (fun j16 => if v14 = 0 then ((xf_X6_fail e6 4 (e6.1 1 6)).bind (fun s19 => j16 s19)) else (j16 e6))))) (0, s3)))).trans ?_
    rw [p1, Option.bind_some]
  have tail : ∀ (ρ : xr_S) (e : Nat × Nat) (v : Int32), vB ρ e → xr_jn (fun (w15 : xr_S) => (xf_X6_readSign w15 59).bind (fun s17 => if (s17.1 1 5) = 0 then (xr_pf s17 3 2 ((s17.1 3 2) + 1) (fun s18 => some s18)) else (some s17))) (fun j16 => if v = 0 then ((xf_X6_fail ρ 4 (ρ.1 1 6)).bind (fun s19 => j16 s19)) else (j16 ρ)) = some ρ := by
    intro ρ e v hB
    rw [xp_jn, xe_failB (vB_ne hB), Option.bind_some]
    dsimp only
    rw [xe_readSignB hB, Option.bind_some, if_neg (vB_ne hB)]
    split <;> rfl
  by_cases h0 : tS s.2.1 < 6
  · have hb1 : b = true := by rw [hb, decide_eq_true h0]
    rw [if_pos h0]
    rw [hb1, if_pos rfl] at p3
    obtain ⟨τ1, k1, k2, k3, k4, k5, k6⟩ := xe_slLoop hs hN h0 hX0 p3 hN0 hS0 hW0
    have e32 : τ1.1 3 2 = nI (tS s.2.1) := by rw [k3 3 (by decide) (by decide)]; exact hS0
    have fF : ∀ c, c ≠ 1 → c ≠ 5 → τ1.1 c = σ.1 c := fun c h h2 => by rw [k3 c h h2, p2.1 c h]
    have f17 : τ1.1 1 7 = σ.1 1 7 := by rw [k4, p2.2 7 (by decide) (by decide) (by decide) (by decide)]
    unfold xs_cS xs_wz4
    cases hr : xs_snd (xs_wn n tx (s.1 + 1) (tN s.2.1 - 1)) with
    | error e =>
      rw [hr] at k2
      obtain ⟨v, hv⟩ := xe_all_any τ1 (c := 4) (show tS s.2.1 < 6 by omega)
      refine ⟨τ1, head τ1 ?_, k1, fun c h1 _ h3 _ _ _ => fF c h1 h3, k2⟩
      refine (k6 _).trans ?_
      rw [e32, hv, Option.bind_some]
      exact tail τ1 e v k2
    | ok q =>
      rw [hr] at k2
      obtain ⟨y1, y2, y3⟩ := k5 q hr
      have hval := fun d => xs_wn_val (n := n) (tx := tx) (p := s.1 + 1) (by omega) d
      have hqW : xq_W τ1 5 (xs_row s.2.2.1 (tS s.2.1) (tN s.2.1) (fun d => xs_val (xs_wn n tx (s.1 + 1) d))) := ⟨y1, fun i d => by
        unfold xs_row
        split
        · exact hval d
        · exact hs.2.1 i d⟩
      have hall := xe_all (σ := τ1) (c := 4) hqW (show tS s.2.1 < 6 by omega)
      have hsum : xs_sum (xs_row s.2.2.1 (tS s.2.1) (tN s.2.1) (fun d => xs_val (xs_wn n tx (s.1 + 1) d)) (tS s.2.1)) 5 = xs_sum (fun d => xs_val (xs_wn n tx (s.1 + 1) d)) (tN s.2.1) := by
        rw [xs_sum_cut (n := tN s.2.1) (fun k hk => by unfold xs_row; rw [if_neg (by omega)]; exact hs.2.2.1 _ k hk) 5 t1]
        exact xs_sum_cong (fun k hk => by unfold xs_row; rw [if_pos ⟨rfl, hk⟩])
      rw [hsum] at hall
      have hsl := xs_sum_le (g := fun d => xs_val (xs_wn n tx (s.1 + 1) d)) (b := 9) hval (tN s.2.1)
      dsimp only
      by_cases hz : xs_sum (fun d => xs_val (xs_wn n tx (s.1 + 1) d)) (tN s.2.1) = 0
      · rw [if_pos hz]
        have hzp : xs_sk n tx (xs_pos (xs_wb n tx (s.1 + 1) (tN s.2.1 - 1))) ≤ 1000 := by
          obtain ⟨xx, m1, -⟩ := xs_snd_ok hr
          obtain ⟨u, m2, -⟩ := xs_rn_ok m1
          have a1 := xs_wb_le (by omega) _ u m2
          rw [m2]
          have a2 := (xs_sk_is n tx u).2.1 a1.2
          have := hX.1
          show xs_sk n tx u ≤ 1000
          omega
        obtain ⟨b1, b2⟩ := vB_fail (σ := τ1) (xs_bad_mk (k := 4) (by decide) (by decide) hzp) (show q ≤ 1000 by have := hX.1; have := k2.2; omega) k2.1.2
        obtain ⟨τ2, hτ2⟩ : ∃ τ2, τ2 = xr_up (xr_up τ1 1 5 (nI 4)) 1 1 (nI (xs_sk n tx (xs_pos (xs_wb n tx (s.1 + 1) (tN s.2.1 - 1))))) := ⟨_, rfl⟩
        rw [← hτ2] at b1 b2
        have e1 : xf_X6_fail τ1 4 (nI (xs_sk n tx (xs_pos (xs_wb n tx (s.1 + 1) (tN s.2.1 - 1))))) = some τ2 := by rw [hτ2]; exact xe_failC k2.1.1
        refine ⟨τ2, head τ2 ?_, vX_F k1 b2, fun c h1 _ h3 _ _ _ => by rw [b2.1 c h1, fF c h1 h3], b1⟩
        refine (k6 _).trans ?_
        rw [e32, hall, Option.bind_some, xp_jn, if_pos (by rw [hz]; rfl), y3, e1, Option.bind_some]
        dsimp only
        rw [xe_readSignB b1, Option.bind_some, if_neg (vB_ne b1)]
      · rw [if_neg hz]
        obtain ⟨τ2, d1, d2, d3, d4⟩ := xe_rsC (c := 59) k1 (show vT n τ1 (.ok q) from k2) (by decide)
        have d1' : xf_X6_readSign τ1 59 = some τ2 := d1
        have hX2 := vX_F k1 d2
        have e32' : τ2.1 3 2 = nI (tS s.2.1) := by rw [d2.1 3 (by decide)]; exact e32
        cases hzz : xs_rs n tx (.ok q) 59 with
        | error e =>
          rw [hzz] at d3
          refine ⟨τ2, head τ2 ?_, hX2, fun c h1 _ h3 _ _ _ => by rw [d2.1 c h1, fF c h1 h3], d3⟩
          refine (k6 _).trans ?_
          rw [e32, hall, Option.bind_some, xp_jn, if_neg (by rw [xl_0, xp_eq (by omega) (by omega)]; exact hz)]
          dsimp only
          rw [d1', Option.bind_some, if_neg (vB_ne d3)]
        | ok z =>
          rw [hzz] at d3
          have m5 := (d4 z hzz).1
          obtain ⟨τ3, hτ3⟩ : ∃ τ3, τ3 = xr_up τ2 3 2 (nI (tS s.2.1 + 1)) := ⟨_, rfl⟩
          have ff : ∀ c, c ≠ 3 → τ3.1 c = τ2.1 c := fun c h => by rw [hτ3, xp_other h]
          have f3 : ∀ k, k ≠ 2 → τ3.1 3 k = σ.1 3 k := fun k h => by rw [hτ3, xp_same, xp_un h, d2.1 3 (by decide), fF 3 (by decide) (by decide)]
          refine ⟨τ3, head τ3 ?_, ?_, fun c h1 h2 h3 _ _ _ => by rw [ff c h2, d2.1 c h1, fF c h1 h3], ⟨by rw [ff 1 (by decide)]; exact d3.1.1, by rw [ff 1 (by decide)]; exact d3.1.2⟩, ⟨by rw [f3 0 (by decide)]; exact s0, by rw [f3 1 (by decide)]; exact s1, by rw [hτ3, xp_same, xp_us]; rfl, by rw [f3 3 (by decide)]; exact s3, by rw [f3 4 (by decide)]; exact s4, fun i d hi hd => by rw [ff 5 (by decide), d2.1 5 (by decide)]; exact y1 i d hi hd, fun l hl => by rw [ff 6 (by decide), d2.1 6 (by decide), fF 6 (by decide) (by decide), ff 7 (by decide), d2.1 7 (by decide), fF 7 (by decide) (by decide), ff 8 (by decide), d2.1 8 (by decide), fF 8 (by decide) (by decide)]; exact s6 l hl, by rw [ff 1 (by decide), d2.2 7 (by decide) (by decide) (by decide) (by decide), f17]; exact s7⟩, by rw [ff 1 (by decide), m5, y2, p4 hb1]⟩
          · refine (k6 _).trans ?_
            rw [e32, hall, Option.bind_some, xp_jn, if_neg (by rw [xl_0, xp_eq (by omega) (by omega)]; exact hz)]
            dsimp only
            rw [d1', Option.bind_some, if_pos d3.1.1, e32', xp_pf, nI_1, ← hτ3]
          · exact ⟨hX2.1, hX2.2.1, by rw [ff 1 (by decide)]; exact hX2.2.2.1, fun k hk => by rw [ff 2 (by decide)]; exact hX2.2.2.2 k hk⟩
  · have hb1 : b = false := by rw [hb, decide_eq_false h0]
    have hS6 : tS s.2.1 = 6 := by omega
    rw [if_neg h0]
    rw [hb1, if_neg (by decide)] at p3
    refine ⟨τ0, head τ0 ?_, hX0, fun c h1 _ _ _ _ _ => p2.1 c h1, p3⟩
    refine (xp_iter (v := (xf_X9_all τ0 4 (τ0.1 3 2)).bind (fun v14 => xr_jn (fun (w15 : xr_S) => (xf_X6_readSign w15 59).bind (fun s17 => if (s17.1 1 5) = 0 then (xr_pf s17 3 2 ((s17.1 3 2) + 1) (fun s18 => some s18)) else (some s17))) (fun j16 => if v14 = 0 then ((xf_X6_fail τ0 4 (τ0.1 1 6)).bind (fun s19 => j16 s19)) else (j16 τ0)))) (fun i => (nI i, τ0)) 0 0 rfl (fun j h1 h2 rec => by omega) (fun rec => ?_)).trans ?_
    · unfold xf_X6_readSleeper_L23
      dsimp only
      rw [hN0, if_neg (nI_ge hN (by omega)), if_neg (vB_ne p3)]
    · rw [hS0, hS6, xe_all6, Option.bind_some]
      exact tail τ0 _ 0 p3
