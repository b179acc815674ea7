/-! bread -/
def xs_sp (ab be : Nat) (p : Nat → Nat) : Nat → Nat → Nat
  | 0 => p
  | j + 1 => fun k => if k = 6 - j + 1 then xs_sp ab be p j (6 - j + 1) + xs_sp ab be p j (6 - j) * ab / be else if k = 6 - j then xs_sp ab be p j (6 - j) - xs_sp ab be p j (6 - j) * ab / be else xs_sp ab be p j k
theorem xs_cut_le {q ab be : Nat} (h : ab ≤ be) (hb : 0 < be) : q * ab / be ≤ q := by
  apply Nat.div_le_of_le_mul
  rw [Nat.mul_comm be]
  exact Nat.mul_le_mul_left q h
theorem xs_sp_le {ab be B : Nat} {p : Nat → Nat} (h : ab ≤ be) (hb : 0 < be) (hp : ∀ k, p k ≤ B) : ∀ j, j ≤ 7 → (∀ k, k + j ≤ 7 → xs_sp ab be p j k ≤ B) ∧ ∀ k, xs_sp ab be p j k ≤ 2 * B := by
  intro j
  induction j with
  | zero => intro _; exact ⟨fun k _ => hp k, fun k => by have := hp k; simp only [xs_sp]; omega⟩
  | succ j ih =>
    intro hj
    obtain ⟨h1, h2⟩ := ih (by omega)
    have a1 := h1 (6 - j) (by omega)
    have a2 := h1 (6 - j + 1) (by omega)
    have a3 := xs_cut_le (q := xs_sp ab be p j (6 - j)) h hb
    refine ⟨fun k hk => ?_, fun k => ?_⟩
    · simp only [xs_sp]
      rw [if_neg (by omega)]
      split
      · exact Nat.le_trans (Nat.sub_le _ _) a1
      · exact h1 k (by omega)
    · simp only [xs_sp]
      split
      · omega
      · split
        · exact Nat.le_trans (Nat.sub_le _ _) (by omega)
        · exact h2 k
theorem xe_spread {σ : xr_S} {p : Nat → Nat} {ab be B : Nat} (h : ∀ k, k < 8 → σ.1 44 k = nI (p k)) (hab : ab ≤ be) (ha9 : ab ≤ 9) (hb : 0 < be) (hb2 : be < 1000) (hp : ∀ k, p k ≤ B) (hB : B ≤ 64000000) : ∃ τ, xf_X8_spread σ (nI ab) (nI be) = some τ ∧ (∀ k, k < 8 → τ.1 44 k = nI (xs_sp ab be p 7 k)) ∧ ∀ c, c ≠ 44 → τ.1 c = σ.1 c := by
  unfold xf_X8_spread
  rw [if_pos (show (0 : Int32) < nI be from nI_lt (a := 0) hb (by omega))]
  obtain ⟨s', ⟨τ, rfl, h1, h2⟩, h3⟩ := xp_forK (body := xf_X8_spread_L8 (nI be) (nI ab)) (out := fun s => s.2) (fun j s => ∃ τ : xr_S, s = (dI (7 - j), τ) ∧ (∀ k, k < 8 → τ.1 44 k = nI (xs_sp ab be p j k)) ∧ ∀ c, c ≠ 44 → τ.1 c = σ.1 c) 7 (fun j s hj hP => by
      obtain ⟨τ, rfl, q1, q2⟩ := hP
      obtain ⟨m, hm⟩ : ∃ m, 6 - j = m := ⟨_, rfl⟩
      have hd : dI (7 - j) = nI m := by rw [show 7 - j = m + 1 by omega]; rfl
      have hd2 : dI (7 - (j + 1)) = nI m + (-1) := by rw [show 7 - (j + 1) = m by omega, xp_dI]
      obtain ⟨b1, b2⟩ := xs_sp_le hab hb hp j (by omega)
      have a1 := b1 m (by omega)
      have a3 := xs_cut_le (q := xs_sp ab be p j m) hab hb
      have a4 : xs_sp ab be p j m * ab < 2 ^ 31 := Nat.lt_of_le_of_lt (Nat.mul_le_mul (Nat.le_trans a1 hB) ha9) (by decide)
      obtain ⟨d, hdd⟩ : ∃ d, d = xs_sp ab be p j m * ab / be := ⟨_, rfl⟩
      have hz : ¬ nI be = 0 := by rw [xl_0, xp_eq (by omega) (by omega)]; omega
      refine ⟨(dI (7 - (j + 1)), xr_up (xr_up τ 44 m (nI (xs_sp ab be p j m - d))) 44 (m + 1) (nI (xs_sp ab be p j (m + 1) + d))), ⟨_, rfl, fun k hk => ?_, fun c hc => by rw [xp_other hc, xp_other hc, q2 c hc]⟩, fun K rec => ?_⟩
      · rw [xp_same]
        simp only [xs_sp, hm]
        by_cases hk1 : k = m + 1
        · rw [if_pos hk1, hk1, xp_us, hdd]
        · rw [if_neg hk1, xp_un hk1, xp_same]
          by_cases hk2 : k = m
          · rw [if_pos hk2, hk2, xp_us, hdd]
          · rw [if_neg hk2, xp_un hk2]
            exact q1 k hk
      · unfold xf_X8_spread_L8
        dsimp only
        rw [hd, hd2, if_neg (nI_pos (by omega)), xp_ld (by omega) (by omega), q1 m (by omega), xp_nz hz, xp_v, pk_mul, pk_div a4 hb (by omega), ← hdd, xp_ld (by omega) (by omega), q1 m (by omega), pk_sub (by omega), xp_st (by omega) (by omega), nI_1, xp_ld (by omega) (by omega), xp_same, xp_un (by omega), q1 (m + 1) (by omega), nI_add, xp_st (by omega) (by omega)]) (fun s hP K rec => by
      obtain ⟨τ, rfl, q1, q2⟩ := hP
      unfold xf_X8_spread_L8
      dsimp only
      rw [Nat.sub_self, if_pos (show dI 0 < 0 by decide)]) 7 0 (by omega) (6, σ) ⟨σ, rfl, h, fun _ _ => rfl⟩
  exact ⟨τ, h3 _, h1, h2⟩
def xs_br (t : xa_T) (a : xa_A) : Nat → Nat → Nat
  | 0 => fun k => if k = 0 then 1000000 else 0
  | l + 1 => match qP a l with
    | none => xs_br t a l
    | some s => if (qA a).testBit s then xs_br t a l else xs_sp (qW a s (tW t l)) (xs_sum (qW a s) 5) (xs_br t a l) 7
theorem xs_br_le {t : xa_T} {a : xa_A} (hT : xi_T t) (hA : xi_A t a) : ∀ l, l ≤ tL t → ∀ k, xs_br t a l k ≤ 1000000 * 2 ^ l := by
  intro l
  induction l with
  | zero => intro _ k; simp only [xs_br]; split <;> omega
  | succ l ih =>
    intro hl k
    have h0 := ih (by omega)
    have hup : 1000000 * 2 ^ (l + 1) = 2 * (1000000 * 2 ^ l) := by rw [Nat.pow_succ]; omega
    have hk := h0 k
    simp only [xs_br]
    cases hq : qP a l with
    | none => dsimp only; omega
    | some s =>
      dsimp only
      split
      · omega
      · have hs := (hA.2.2.2.1 l s hq).2.1
        have hw := (hT.2.2.2.2.2.2 l (by omega)).2.1
        have h5 := hT.1
        have := (xs_sp_le (xs_sum_ge5 (g := qW a s) (d := tW t l) 5 (by omega)) (hA.2.2.1 s hs) h0 7 (by omega)).2 k
        omega
theorem xs_br_64 {t : xa_T} {a : xa_A} (hT : xi_T t) (hA : xi_A t a) {l : Nat} (hl : l < tL t) (k : Nat) : xs_br t a l k ≤ 64000000 := by
  have h1 := xs_br_le hT hA l (by omega) k
  have h2 : 2 ^ l ≤ 64 := xs_pow64 (by have := hT.2.2.2.1; omega)
  have h3 : 1000000 * 2 ^ l ≤ 1000000 * 64 := Nat.mul_le_mul_left _ h2
  omega
theorem xe_atLeast {σ : xr_S} {t : xa_T} {a : xa_A} {k : Nat} (hT : xi_T t) (hA : xi_A t a) (hc : xi_Tc σ t) (hC : xi_C σ 15 a) (hk : k ≤ 7) : ∃ τ, xf_X8_atLeast σ (nI k) = some (nI (xs_sum (fun j => xs_br t a (tL t) (k + j)) (8 - k)), τ) ∧ ∀ c, c ≠ 44 → τ.1 c = σ.1 c := by
  obtain ⟨n1, n2, n3, n4, n5, n6, n7⟩ := id hT
  have hbo := xi_bounds hT hA
  obtain ⟨τ0, hτ0⟩ : ∃ τ0, τ0 = xr_up (xr_upF σ 44 (fun k => if k < 8 then (0 : Int32) else σ.1 44 k)) 44 0 1000000 := ⟨_, rfl⟩
  have f0 : ∀ c, c ≠ 44 → τ0.1 c = σ.1 c := fun c h => by rw [hτ0, xp_other h, xp_otherF h]
  have z0 : ∀ k, k < 8 → τ0.1 44 k = nI (xs_br t a 0 k) := fun k hk => by
    rw [hτ0, xp_same]
    simp only [xs_br]
    by_cases hk0 : k = 0
    · rw [hk0, xp_us, if_pos rfl]; rfl
    · rw [xp_un hk0, xp_sameF, if_neg hk0, if_pos hk]; rfl
  obtain ⟨s', ⟨τ, rfl, h1, h2⟩, h3⟩ := xp_forK (body := xf_X8_atLeast_L19) (out := fun s => s.2) (fun j s => ∃ τ : xr_S, s = (nI j, τ) ∧ (∀ k, k < 8 → τ.1 44 k = nI (xs_br t a j k)) ∧ ∀ c, c ≠ 44 → τ.1 c = σ.1 c) (tL t) (fun j s hj hP => by
      obtain ⟨τ, rfl, q1, q2⟩ := hP
      have hc1 : xi_Tc τ t := xi_Tc_fr hc (fun c h => q2 c (by omega))
      have hC1 : xi_C τ 15 a := xi_C_fr hC (q2 _ (by decide)) (q2 _ (by decide)) (q2 _ (by decide)) (q2 _ (by decide))
      obtain ⟨g1, g2, g3⟩ := hc1.2.2.2.2.2 j hj
      obtain ⟨k1, k2, k3⟩ := n7 j hj
      have e0 : τ.1 18 j = oI (qP a j) := hC1.2.1 j (by omega)
      cases hq : qP a j with
      | none =>
        have hb : xs_br t a (j + 1) = xs_br t a j := by simp only [xs_br, hq]
        refine ⟨(nI (j + 1), τ), ⟨τ, rfl, by rw [hb]; exact q1, q2⟩, fun K rec => ?_⟩
        unfold xf_X8_atLeast_L19
        dsimp only
        rw [hc1.2.2.2.1, if_neg (nI_ge hj (by omega)), xp_ld (by omega) (by omega), e0, hq, xp_jn, if_pos (show oI none = -1 from rfl), nI_1]
      | some s =>
        have hs := (hA.2.2.2.1 j s hq).2.1
        have e1 := xe_isAwake hC1.2.2.2.2.1 (show qA a < 2 ^ 31 by omega) (show s < 31 by omega)
        cases hw : (qA a).testBit s with
        | true =>
          have hb : xs_br t a (j + 1) = xs_br t a j := by simp only [xs_br, hq, hw, if_true]
          refine ⟨(nI (j + 1), τ), ⟨τ, rfl, by rw [hb]; exact q1, q2⟩, fun K rec => ?_⟩
          unfold xf_X8_atLeast_L19
          dsimp only
          rw [hc1.2.2.2.1, if_neg (nI_ge hj (by omega)), xp_ld (by omega) (by omega), e0, hq, xp_jn, xp_oIs, if_neg (xp_m1 s (by omega)), e1, hw, Option.bind_some, if_neg (show ¬ bI true = 0 by decide), nI_1]
        | false =>
          have hb : xs_br t a (j + 1) = xs_sp (qW a s (tW t j)) (xs_sum (qW a s) 5) (xs_br t a j) 7 := by simp only [xs_br, hq, hw]; rfl
          have hsl := xs_sum_le (hA.1 s) 5
          have e2 := xe_of (c := 16) (xi_W hA hC1) (show s < 6 by omega) (show tW t j < 5 by omega)
          have e3 := xe_all (c := 16) (xi_W hA hC1) (show s < 6 by omega)
          obtain ⟨τ1, u1, u2, u3⟩ := xe_spread q1 (xs_sum_ge5 (g := qW a s) (d := tW t j) 5 (by omega)) (hA.1 s _) (hA.2.2.1 s hs) (by omega) (xs_br_64 hT hA hj) (Nat.le_refl _)
          refine ⟨(nI (j + 1), τ1), ⟨τ1, rfl, by rw [hb]; exact u2, fun c h => by rw [u3 c h, q2 c h]⟩, fun K rec => ?_⟩
          unfold xf_X8_atLeast_L19
          dsimp only
          rw [hc1.2.2.2.1, if_neg (nI_ge hj (by omega)), xp_ld (by omega) (by omega), e0, hq, xp_jn, xp_oIs, if_neg (xp_m1 s (by omega)), e1, hw, Option.bind_some, if_pos (show bI false = 0 from rfl), xp_ld (by omega) (by omega), g2, e2, Option.bind_some, e3, Option.bind_some, u1, Option.bind_some, nI_1]) (fun s hP K rec => by
      obtain ⟨τ, rfl, q1, q2⟩ := hP
      unfold xf_X8_atLeast_L19
      dsimp only
      rw [q2 9 (by decide), hc.2.2.2.1, if_pos (nI_le (Nat.le_refl _) (by omega))]) (tL t) 0 (by omega) (0, τ0) ⟨τ0, rfl, z0, f0⟩
  refine ⟨τ, ?_, h2⟩
  unfold xf_X8_atLeast
  rw [xe_fill (n := 8) (by decide), Option.bind_some, xl_0, xp_st (by omega) (by omega)]
  have h3' := h3 (fun (e5 : xr_S) => xr_lw (xf_X8_atLeast_L93 e5 (fun (e18 : Int32) => some (e18, e5))) (0, nI k))
  rw [hτ0] at h3'
  refine h3'.trans ?_
  refine xp_iter (fun i => (nI (xs_sum (fun j => xs_br t a (tL t) (k + j)) i), nI (k + i))) 0 (8 - k) rfl (fun j h1' h2' rec => ?_) (fun rec => ?_)
  · unfold xf_X8_atLeast_L93
    dsimp only
    rw [if_neg (show ¬ (7 : Int32) < nI (k + j) from nI_nlt (a := 7) (b := k + j) (by omega) (by omega)), xp_ld (by omega) (by omega), h1 (k + j) (by omega), xp_v, nI_add, nI_1]
    rfl
  · unfold xf_X8_atLeast_L93
    dsimp only
    rw [if_pos (show (7 : Int32) < nI (k + (0 + (8 - k))) from nI_lt (a := 7) (by omega) (by omega)), Nat.zero_add]
/-! the reference's -/
theorem xe_breadM0 {σ : xr_S} : ∃ τ : xr_S, (∀ k, k < 8 → τ.2 k = lN (if k = 0 then 1000000 else 0)) ∧ τ.1 = σ.1 ∧ ∀ K : xr_S → Option (Int32 × xr_S), xr_lw (xf_X11_bread_L17 K) (0, σ) = K τ := by
  obtain ⟨s', ⟨τ, rfl, h1, h2⟩, h3⟩ := xp_forK (body := xf_X11_bread_L17) (out := fun s => s.2) (fun j s => ∃ τ : xr_S, s = (nI j, τ) ∧ (∀ k, k < j → τ.2 k = lN (if k = 0 then 1000000 else 0)) ∧ τ.1 = σ.1) 8 (fun j s hj hP => by
      obtain ⟨τ, rfl, q1, q2⟩ := hP
      refine ⟨(nI (j + 1), xr_upL τ j (lN (if j = 0 then 1000000 else 0))), ⟨_, rfl, fun k hk => ?_, q2⟩, fun K rec => ?_⟩
      · show vp_updL τ.2 j _ k = _
        by_cases hkj : k = j
        · rw [hkj, pk_uLs]
        · rw [pk_uLn hkj, q1 k (by omega)]
      · unfold xf_X11_bread_L17
        dsimp only
        rw [if_neg (show ¬ (8 : Int32) ≤ nI j from nI_ge (b := 8) (by omega) (by omega)), xp_jn]
        by_cases hj0 : j = 0
        · rw [if_pos (by rw [hj0]; rfl)]; dsimp only; rw [xp_sl (by omega) (by omega), nI_1, if_pos hj0]; rfl
        · rw [if_neg (by rw [xl_0, xp_eq (by omega) (by omega)]; exact hj0)]; dsimp only; rw [xp_sl (by omega) (by omega), nI_1, if_neg hj0]; rfl) (fun s hP K rec => by
      obtain ⟨τ, rfl, q1, q2⟩ := hP
      unfold xf_X11_bread_L17
      dsimp only
      rw [if_pos (show (8 : Int32) ≤ nI 8 by decide)]) 8 0 (by omega) (0, σ) ⟨σ, rfl, fun _ h => by omega, rfl⟩
  exact ⟨τ, h1, h2, h3⟩
theorem xe_spreadM {σ : xr_S} {t : xa_T} {a : xa_A} {p : Nat → Nat} {l s B : Nat} (hT : xi_T t) (hA : xi_A t a) (hm : xi_Tm σ t) (hM : xi_M σ 0 a) (hl : l < tL t) (hs : s < tS t) (h : ∀ k, k < 8 → σ.2 k = lN (p k)) (hp : ∀ k, p k ≤ B) (hB : B ≤ 64000000) (ρ : xr_S) : ∃ τ : xr_S, (∀ k, k < 8 → τ.2 k = lN (xs_sp (qW a s (tW t l)) (xs_sum (qW a s) 5) p 7 k)) ∧ τ.1 = σ.1 ∧ ∀ K : xr_S → Option (Int32 × xr_S), xr_lw (xf_X11_bread_L83 (nI l, ρ) (nI s) K) (6, σ) = K τ := by
  obtain ⟨n1, n2, n3, n4, n5, n6, n7⟩ := id hT
  have hsl := xs_sum_le (hA.1 s) 5
  have hsum := hA.2.2.1 s hs
  obtain ⟨k1, k2, k3⟩ := n7 l hl
  have hab := xs_sum_ge5 (g := qW a s) (d := tW t l) 5 (by omega)
  have ha9 := hA.1 s (tW t l)
  obtain ⟨ab, hab'⟩ : ∃ ab, ab = qW a s (tW t l) := ⟨_, rfl⟩
  obtain ⟨be, hbe'⟩ : ∃ be, be = xs_sum (qW a s) 5 := ⟨_, rfl⟩
  rw [← hab', ← hbe']
  rw [← hab'] at hab ha9
  rw [← hbe'] at hsl hsum hab
  obtain ⟨s', ⟨τ, rfl, h1, h2⟩, h3⟩ := xp_forK (body := xf_X11_bread_L83 (nI l, ρ) (nI s)) (out := fun s => s.2) (fun j s => ∃ τ : xr_S, s = (dI (7 - j), τ) ∧ (∀ k, k < 8 → τ.2 k = lN (xs_sp ab be p j k)) ∧ τ.1 = σ.1) 7 (fun j s' hj hP => by
      obtain ⟨τ, rfl, q1, q2⟩ := hP
      have hm1 : xi_Tm τ t := xi_Tm_fr4 hm (fun c h => by rw [q2])
      have hM1 : xi_M τ 0 a := xi_M_fr hM (by rw [q2])
      obtain ⟨g1, g2, g3⟩ := hm1.2.2.2.2.2 l hl
      have e2 := xe_weightOf (xi_V hA hM1) (by omega) (show s < 6 by omega) (show tW t l < 5 by omega)
      have e3 := xe_allOf (xi_V hA hM1) (by omega) (show s < 6 by omega) hm1.1 n1
      rw [xi_sum hA hT] at e3
      rw [← hab'] at e2
      rw [← hbe'] at e3
      obtain ⟨m, hmm⟩ : ∃ m, 6 - j = m := ⟨_, rfl⟩
      have hd : dI (7 - j) = nI m := by rw [show 7 - j = m + 1 by omega]; rfl
      have hd2 : dI (7 - (j + 1)) = nI m + (-1) := by rw [show 7 - (j + 1) = m by omega, xp_dI]
      obtain ⟨b1, b2⟩ := xs_sp_le hab hsum hp j (by omega)
      have a1 := b1 m (by omega)
      have a3 := xs_cut_le (q := xs_sp ab be p j m) hab hsum
      have a4 : xs_sp ab be p j m * ab < 2 ^ 63 := Nat.lt_of_le_of_lt (Nat.mul_le_mul (Nat.le_trans a1 hB) ha9) (by decide)
      obtain ⟨d, hdd⟩ : ∃ d, d = xs_sp ab be p j m * ab / be := ⟨_, rfl⟩
      have hz : ¬ lN be = 0 := fun h => by
        have := (pk_lEQ (a := be) (b := 0) (by omega) (by omega)).mp h
        omega
      refine ⟨(dI (7 - (j + 1)), xr_upL (xr_upL τ m (lN (xs_sp ab be p j m - d))) (m + 1) (lN (xs_sp ab be p j (m + 1) + d))), ⟨_, rfl, fun k hk => ?_, q2⟩, fun K rec => ?_⟩
      · show vp_updL (vp_updL τ.2 m _) (m + 1) _ k = _
        simp only [xs_sp, hmm]
        by_cases hk1 : k = m + 1
        · rw [if_pos hk1, hk1, pk_uLs, hdd]
        · rw [if_neg hk1, pk_uLn hk1]
          by_cases hk2 : k = m
          · rw [if_pos hk2, hk2, pk_uLs, hdd]
          · rw [if_neg hk2, pk_uLn hk2]
            exact q1 k hk
      · have r1 : (xr_upL τ m (lN (xs_sp ab be p j m - d))).2 (m + 1) = lN (xs_sp ab be p j (m + 1)) := by
          show vp_updL τ.2 m _ (m + 1) = _
          rw [pk_uLn (by omega), q1 (m + 1) (by omega)]
        unfold xf_X11_bread_L83
        dsimp only
        rw [hd, hd2, if_neg (nI_pos (by omega)), xp_ll (by omega) (by omega), q1 m (by omega), xp_ld (by omega) (by omega), g2, xl_0, e2, Option.bind_some, e3, Option.bind_some, nI_l (show be < 2 ^ 31 by omega), nI_l (show ab < 2 ^ 31 by omega), xp_nl hz, xp_v, lN_mul, pk_lDiv a4 hsum (by omega), ← hdd, xp_ll (by omega) (by omega), q1 m (by omega), lN_sub (by omega), xp_sl (by omega) (by omega), nI_1, xp_ll (by omega) (by omega), r1, lN_add, xp_sl (by omega) (by omega)]) (fun s hP K rec => by
      obtain ⟨τ, rfl, q1, q2⟩ := hP
      unfold xf_X11_bread_L83
      dsimp only
      rw [Nat.sub_self, if_pos (show dI 0 < 0 by decide)]) 7 0 (by omega) (6, σ) ⟨σ, rfl, h, rfl⟩
  exact ⟨τ, h1, h2, h3⟩
theorem xe_breadM {σ : xr_S} {t : xa_T} {a : xa_A} {k : Nat} (hT : xi_T t) (hA : xi_A t a) (hm : xi_Tm σ t) (hM : xi_M σ 0 a) (hk : k ≤ 7) : ∃ τ, xr_lw (xf_X11_bread_L17 (fun (e4 : xr_S) => xr_lw (xf_X11_bread_L48 (fun (e12 : xr_S) => xr_lw (xf_X11_bread_L162 e12 (fun (e35 : Int64) => some ((Int64.toInt32 e35), e12))) (0, nI k))) (0, e4))) (0, σ) = some (nI (xs_sum (fun j => xs_br t a (tL t) (k + j)) (8 - k)), τ) ∧ τ.1 = σ.1 := by
  obtain ⟨n1, n2, n3, n4, n5, n6, n7⟩ := id hT
  have hbo := xi_bounds hT hA
  obtain ⟨τ0, z1, z2, z3⟩ := xe_breadM0 (σ := σ)
  obtain ⟨s', ⟨τ, rfl, h1, h2⟩, h3⟩ := xp_forK (body := xf_X11_bread_L48) (out := fun s => s.2) (fun j s => ∃ τ : xr_S, s = (nI j, τ) ∧ (∀ k, k < 8 → τ.2 k = lN (xs_br t a j k)) ∧ τ.1 = σ.1) (tL t) (fun j s hj hP => by
      obtain ⟨τ, rfl, q1, q2⟩ := hP
      have hm1 : xi_Tm τ t := xi_Tm_fr4 hm (fun c h => by rw [q2])
      have hM1 : xi_M τ 0 a := xi_M_fr hM (by rw [q2])
      obtain ⟨k1, k2, k3⟩ := n7 j hj
      have e0 : τ.1 50 (30 + j) = oI (qP a j) := (xi_M0 hM1).2.1 j (by omega)
      cases hq : qP a j with
      | none =>
        have hb : xs_br t a (j + 1) = xs_br t a j := by simp only [xs_br, hq]
        refine ⟨(nI (j + 1), τ), ⟨τ, rfl, by rw [hb]; exact q1, q2⟩, fun K rec => ?_⟩
        unfold xf_X11_bread_L48
        dsimp only
        rw [hm1.2.2.2.1, if_neg (nI_ge hj (by omega)), xl_30, nI_add, xp_ld (by omega) (by omega), e0, hq, xp_jn, if_pos (show oI none = -1 from rfl), nI_1]
      | some s =>
        have hs := (hA.2.2.2.1 j s hq).2.1
        have e1 := xe_isAwakeM (xi_M0 hM1).2.2.2.2.1 (show qA a < 2 ^ 31 by omega) (show s < 31 by omega)
        cases hw : (qA a).testBit s with
        | true =>
          have hb : xs_br t a (j + 1) = xs_br t a j := by simp only [xs_br, hq, hw, if_true]
          refine ⟨(nI (j + 1), τ), ⟨τ, rfl, by rw [hb]; exact q1, q2⟩, fun K rec => ?_⟩
          unfold xf_X11_bread_L48
          dsimp only
          rw [hm1.2.2.2.1, if_neg (nI_ge hj (by omega)), xl_30, nI_add, xp_ld (by omega) (by omega), e0, hq, xp_jn, xp_oIs, if_neg (xp_m1 s (by omega)), e1, hw, Option.bind_some, if_neg (show ¬ bI true = 0 by decide), nI_1]
        | false =>
          have hb : xs_br t a (j + 1) = xs_sp (qW a s (tW t j)) (xs_sum (qW a s) 5) (xs_br t a j) 7 := by simp only [xs_br, hq, hw]; rfl
          obtain ⟨τ1, u1, u2, u3⟩ := xe_spreadM hT hA hm1 hM1 hj hs q1 (xs_br_64 hT hA hj) (Nat.le_refl _) τ
          refine ⟨(nI (j + 1), τ1), ⟨τ1, rfl, by rw [hb]; exact u1, by rw [u2, q2]⟩, fun K rec => ?_⟩
          unfold xf_X11_bread_L48
          dsimp only
          rw [hm1.2.2.2.1, if_neg (nI_ge hj (by omega)), xl_30, nI_add, xp_ld (by omega) (by omega), e0, hq, xp_jn, xp_oIs, if_neg (xp_m1 s (by omega)), e1, hw, Option.bind_some, if_pos (show bI false = 0 from rfl), u3, nI_1]) (fun s hP K rec => by
      obtain ⟨τ, rfl, q1, q2⟩ := hP
      unfold xf_X11_bread_L48
      dsimp only
      rw [q2, hm.2.2.2.1, if_pos (nI_le (Nat.le_refl _) (by omega))]) (tL t) 0 (by omega) (0, τ0) ⟨τ0, rfl, z1, z2⟩
  refine ⟨τ, ?_, h2⟩
  refine (z3 _).trans ((h3 _).trans ?_)
  refine xp_iter (fun i => (lN (xs_sum (fun j => xs_br t a (tL t) (k + j)) i), nI (k + i))) 0 (8 - k) rfl (fun j h1' h2' rec => ?_) (fun rec => ?_)
  · unfold xf_X11_bread_L162
    dsimp only
    rw [if_neg (show ¬ (8 : Int32) ≤ nI (k + j) from nI_ge (b := 8) (by omega) (by omega)), xp_ll (by omega) (by omega), h1 (k + j) (by omega), xp_v, lN_add, nI_1]
    rfl
  · unfold xf_X11_bread_L162
    dsimp only
    rw [if_pos (show (8 : Int32) ≤ nI (k + (0 + (8 - k))) from nI_le (a := 8) (by omega) (by omega)), Nat.zero_add, lN_i]
theorem xy_bread {σ : xr_S} (h : xi σ) (x : Int32) : xi_ok σ (xf_X10_bread σ x) (fun τ => xf_X11_bread τ x) := by
  obtain ⟨t, a, hI⟩ := h
  obtain ⟨hT, hA, hc, hm, hC, hM, -⟩ := id hI
  by_cases hx : ¬ x < 1 ∧ x ≤ nI 7
  · obtain ⟨k, g1, g2, rfl⟩ := xs_rng1 (by decide) hx.1 hx.2
    obtain ⟨σ1, p1, p2⟩ := xe_atLeast (k := k) hT hA hc hC (by omega)
    have hm1 : xi_Tm σ1 t := xi_Tm_fr4 hm (fun c h => p2 c (by omega))
    have hM1 : xi_M σ1 0 a := xi_M_fr hM (p2 50 (by decide))
    obtain ⟨σ2, r1, r2⟩ := xe_breadM (k := k) hT hA hm1 hM1 (by omega)
    refine ⟨nI (xs_sum (fun j => xs_br t a (tL t) (k + j)) (8 - k)), σ1, σ2, ?_, ?_, xi_scr hI (fun c h1 h2 => p2 c (by omega)) (fun c _ _ _ _ _ _ => by rw [r2]) (fun k _ => by rw [r2])⟩
    · unfold xf_X10_bread
      rw [if_neg hx.1, if_pos (show nI k ≤ 7 from hx.2), p1]
      rfl
    · show xf_X11_bread _ _ = _
      unfold xf_X11_bread
      rw [xe_in1 (m := 7) (hi := 7) (by decide) rfl, decide_eq_true hx, bI_t, Option.bind_some, if_neg (show ¬ nI 1 = 0 by decide), r1]
  · refine ⟨-1000000002, σ, σ, ?_, ?_, ⟨t, a, hI⟩⟩
    · unfold xf_X10_bread
      by_cases h1 : x < 1
      · rw [if_pos h1]
      · rw [if_neg h1, if_neg (show ¬ x ≤ 7 from fun h => hx ⟨h1, h⟩)]
    · show xf_X11_bread _ _ = _
      unfold xf_X11_bread
      rw [xe_in1 (m := 7) (hi := 7) (by decide) rfl, decide_eq_false hx]; rfl
