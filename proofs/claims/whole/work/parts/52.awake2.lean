/-! who must be woken: the reference's search, and the call -/
theorem xs_best_step {j : Nat} {P : Nat → Bool} {r : Option Nat} (h : xs_best j P r) : (P j = false → xs_best (j + 1) P r) ∧ (P j = true → (∀ b, r = some b → xs_ones j < xs_ones b) → xs_best (j + 1) P (some j)) ∧ (∀ b, r = some b → xs_ones b ≤ xs_ones j → xs_best (j + 1) P r) := by
  refine ⟨fun hp => ⟨fun ho set hs => ?_, fun b hb => ?_⟩, fun hp hlt => ⟨fun ho => (by cases ho), fun b hb => ?_⟩, fun c hc hle => ⟨fun ho => (by rw [hc] at ho; cases ho), fun b hb => ?_⟩⟩
  · by_cases hsj : set = j
    · rw [hsj]; exact hp
    · exact h.1 ho set (by omega)
  · obtain ⟨g1, g2, g3⟩ := h.2 b hb
    refine ⟨by omega, g2, fun set hs hq => ?_⟩
    by_cases hsj : set = j
    · rw [hsj, hp] at hq; cases hq
    · exact g3 set (by omega) hq
  · cases hb
    refine ⟨by omega, hp, fun set hs hq => ?_⟩
    by_cases hsj : set = j
    · right; rw [hsj]; omega
    · left
      cases hr : r with
      | none => rw [h.1 hr set (by omega)] at hq; cases hq
      | some c =>
        have a1 := hlt c hr
        have a2 := (h.2 c hr).2.2 set (by omega) hq
        omega
  · obtain ⟨g1, g2, g3⟩ := h.2 b hb
    rw [hc] at hb
    cases hb
    refine ⟨by omega, g2, fun set hs hq => ?_⟩
    by_cases hsj : set = j
    · rw [hsj]; omega
    · exact g3 set (by omega) hq
theorem xe_awakeM {σ : xr_S} {t : xa_T} {a : xa_A} {bed : Nat → Option Nat} {n : Nat} (hT : xi_T t) (hA : xi_A t a) (hm : xi_Tm σ t) (hM : xi_M σ 0 a) (hbd : ∀ l, l < tL t → σ.1 59 l = oI (bed l)) (hb : ∀ l s, bed l = some s → s < tS t) (hn : n < 1000) : ∃ r τ, xs_best (2 ^ tS t) (xs_p2 t bed (qW a) (qA a) n) r ∧ (∀ K, xr_lw (xf_X11_awake_L34 (nI n) K) ((-1), 0, σ) = K (oI r, τ)) ∧ (∀ c, c ≠ 50 → c ≠ 60 → τ.1 c = σ.1 c) ∧ ∀ k, (k < 55 ∨ 110 ≤ k) → τ.1 50 k = σ.1 50 k := by
  obtain ⟨n1, n2, n3, n4, n5, n6, n7⟩ := id hT
  have hp := xs_pow64 n3
  have hbo := xi_bounds hT hA
  have hsh : ((1 : Int32) <<< (nI (tS t) &&& 31)) = nI (2 ^ tS t) := xp_shl1 _ (by omega)
  obtain ⟨s', ⟨τ, r, rfl, h1, h2, h4⟩, h3⟩ := xp_forK (body := xf_X11_awake_L34 (nI n)) (out := fun s => (s.1, s.2.2)) (fun j s => ∃ (τ : xr_S) (r : Option Nat), s = (oI r, nI j, τ) ∧ xs_best j (xs_p2 t bed (qW a) (qA a) n) r ∧ (∀ c, c ≠ 50 → c ≠ 60 → τ.1 c = σ.1 c) ∧ ∀ k, (k < 55 ∨ 110 ≤ k) → τ.1 50 k = σ.1 50 k) (2 ^ tS t) (fun j s hj hP => by
      obtain ⟨τ, r, rfl, q1, q2, q3⟩ := hP
      have hm1 : xi_Tm τ t := xi_Tm_fr4 hm (fun c h => q2 c (by omega) (by omega))
      have hM1 : xi_M τ 0 a := xi_M_cp hM (fun k hk => q3 _ (by omega))
      obtain ⟨τ1, u1, u2, u3, u4⟩ := xe_foreMany (out := j) (n := n) hT hm1 (xi_V hA hM1) (xi_wok hA) (fun l hl => by rw [q2 59 (by decide) (by decide)]; exact hbd l hl) hb (by omega) hn
      have hm2 : xi_Tm τ1 t := xi_Tm_fr4 hm1 (fun c h => u3 c (by omega) (by omega))
      have e1 := xe_isCalm hT hm2 u2 (xs_rw_ok hT (xi_wok hA) hb n)
      have f1 : ∀ c, c ≠ 50 → c ≠ 60 → τ1.1 c = σ.1 c := fun c h1 h2 => by rw [u3 c h1 h2, q2 c h1 h2]
      have f2 : ∀ k, (k < 55 ∨ 110 ≤ k) → τ1.1 50 k = σ.1 50 k := fun k h => by rw [u4 k h, q3 k h]
      have hrb : oB r 1000 := fun b hb => by have := (q1.2 b hb).1; omega
      have e5 : τ.1 50 51 = nI (qA a) := (xi_M0 hM1).2.2.2.2.1
      obtain ⟨b1, b2, b3⟩ := xs_best_step q1
      have hand : j &&& qA a < 64 := Nat.lt_of_le_of_lt Nat.and_le_left (by omega)
      have head : ∀ (K : (Int32 × xr_S) → Option (Int32 × xr_S)) (rec : (Int32 × Int32 × xr_S) → Option (Int32 × xr_S)) (x : Option (Int32 × xr_S)), (xr_jn (fun (w9 : Int32) => xr_jn (fun (w11 : (Int32 × xr_S)) => rec (w11.1, nI (j + 1), w11.2)) (fun j12 => if w9 = 0 then (j12 (oI r, τ)) else ((xf_X11_foretellsMany τ (nI n) (nI j)).bind (fun s14 => (xf_X11_isCalm s14).bind (fun v15 => xr_jn (fun (w16 : Int32) => j12 (w16, s14)) (fun j17 => if v15 = 0 then (j17 (oI r)) else (j17 (nI j)))))))) (fun j10 => if nI (j &&& qA a) = 0 then (if oI r = (-1) then (j10 1) else ((xf_X11_ones τ (nI j)).bind (fun v18 => (xf_X11_ones τ (oI r)).bind (fun v19 => if v19 ≤ v18 then (j10 0) else (j10 1))))) else (j10 0))) = x → xf_X11_awake_L34 (nI n) K (oI r, nI j, τ) rec = x := by
        intro K rec x hx
        rw [← hx]
        unfold xf_X11_awake_L34
        dsimp only
        rw [hm1.2.2.1, hsh, if_neg (nI_ge hj (by omega)), xl_51, xp_ld (by omega) (by omega), e5, xp_and, nI_1]
      by_cases h1 : j &&& qA a = 0
      · have few : (∀ b, r = some b → xs_ones j < xs_ones b) → ∃ s', (∃ (τ : xr_S) (r : Option Nat), s' = (oI r, nI (j + 1), τ) ∧ xs_best (j + 1) (xs_p2 t bed (qW a) (qA a) n) r ∧ (∀ c, c ≠ 50 → c ≠ 60 → τ.1 c = σ.1 c) ∧ ∀ k, (k < 55 ∨ 110 ≤ k) → τ.1 50 k = σ.1 50 k) ∧ ∀ K rec, xf_X11_awake_L34 (nI n) K (oI r, nI j, τ) rec = rec s' := by
          intro hfew
          have way : ∀ (X Y : Option (Int32 × xr_S)), (if oI r = (-1) then Y else ((xf_X11_ones τ (nI j)).bind (fun v18 => (xf_X11_ones τ (oI r)).bind (fun v19 => if v19 ≤ v18 then X else Y)))) = Y := by
            intro X Y
            cases hr : r with
            | none => rw [if_pos (show oI none = -1 from rfl)]
            | some b =>
              have hlt := hfew b hr
              have hbl := hrb b hr
              have o1 := xs_ones_le j
              have o2 := xs_ones_le b
              rw [xp_oIs, if_neg (xp_m1 b (by omega)), xe_ones τ (show j < 2 ^ 31 by omega), Option.bind_some, xe_ones τ (show b < 2 ^ 31 by omega), Option.bind_some, if_neg (nI_ge hlt (by omega))]
          cases hcalm : xs_calm t (xs_rw t bed j (qW a) n) with
          | true =>
            have hp2 : xs_p2 t bed (qW a) (qA a) n j = true := by unfold xs_p2; rw [hcalm]; simp [h1]
            refine ⟨(oI (some j), nI (j + 1), τ1), ⟨τ1, some j, rfl, b2 hp2 hfew, f1, f2⟩, fun K rec => head K rec _ ?_⟩
            simp only [xp_jn]
            rw [if_pos (by rw [h1]; rfl), way, if_neg (by decide), u1, Option.bind_some, e1, Option.bind_some, hcalm, if_neg (show ¬ bI true = 0 by decide)]
            rfl
          | false =>
            have hp2 : xs_p2 t bed (qW a) (qA a) n j = false := by unfold xs_p2; rw [hcalm]; simp
            refine ⟨(oI r, nI (j + 1), τ1), ⟨τ1, r, rfl, b1 hp2, f1, f2⟩, fun K rec => head K rec _ ?_⟩
            simp only [xp_jn]
            rw [if_pos (by rw [h1]; rfl), way, if_neg (by decide), u1, Option.bind_some, e1, Option.bind_some, hcalm, if_pos (show bI false = 0 from rfl)]
        cases hr : r with
        | none =>
          rw [hr] at few
          exact few (fun b hb => (by cases hb))
        | some b =>
          by_cases hlt : xs_ones j < xs_ones b
          · rw [hr] at few
            exact few (fun b' hb' => (by cases hb'; exact hlt))
          · have hbl := hrb b hr
            have o1 := xs_ones_le j
            have o2 := xs_ones_le b
            rw [hr] at head b3
            refine ⟨(oI (some b), nI (j + 1), τ), ⟨τ, some b, rfl, b3 b rfl (by omega), q2, q3⟩, fun K rec => head K rec _ ?_⟩
            simp only [xp_jn]
            rw [if_pos (by rw [h1]; rfl), xp_oIs, if_neg (xp_m1 b (by omega)), xe_ones τ (show j < 2 ^ 31 by omega), Option.bind_some, xe_ones τ (show b < 2 ^ 31 by omega), Option.bind_some, if_pos (nI_le (by omega) (by omega)), if_pos trivial]
      · have hp2 : xs_p2 t bed (qW a) (qA a) n j = false := by unfold xs_p2; simp [h1]
        refine ⟨(oI r, nI (j + 1), τ), ⟨τ, r, rfl, b1 hp2, q2, q3⟩, fun K rec => head K rec _ ?_⟩
        simp only [xp_jn]
        rw [if_neg (by rw [xl_0, xp_eq (by omega) (by omega)]; exact h1), if_pos trivial]) (fun s hP K rec => by
      obtain ⟨τ, r, rfl, q1, q2, q3⟩ := hP
      unfold xf_X11_awake_L34
      dsimp only
      rw [q2 49 (by decide) (by decide), hm.2.2.1, hsh, if_pos (nI_le (Nat.le_refl _) (by omega))]) (2 ^ tS t) 0 (by omega) (-1, 0, σ) ⟨σ, none, rfl, ⟨fun _ set hs => by omega, fun b hb => (by cases hb)⟩, fun _ _ _ => rfl, fun _ _ => rfl⟩
  exact ⟨r, τ, h1, h3, h2, h4⟩
/-! the two searches find the same -/
theorem xs_bed_used {t : xa_T} {a : xa_A} {l s : Nat} (h : xs_bed t a l = some s) : (xs_dif (xs_tk t a (tL t)) (qA a)).testBit s = true := by
  have hfb : xs_fb t a l (xs_tk t a l) = some s := h
  have hlt : l < tL t := by
    rcases Nat.lt_or_ge l (tL t) with hh | hh
    · exact hh
    · exfalso
      unfold xs_fb at hfb
      rw [show tL t - 1 - l = 0 by omega, show tL t - l = 0 by omega, if_pos rfl] at hfb
      cases hfb
  have hbo := (xs_fb_lt hfb).2
  have hk : (xs_tk t a l).testBit s = false := by
    unfold xs_bo at hbo
    cases hw : xs_wo t a l s with
    | none => rw [hw] at hbo; cases hbo
    | some w =>
      rw [hw, Option.bind_some] at hbo
      cases hb : (xs_tk t a l).testBit s with
      | false => rfl
      | true => rw [hb] at hbo; cases hbo
  have hA : (qA a).testBit s = false := by
    rw [xs_tm_tk, Nat.testBit_or] at hk
    cases h2 : (qA a).testBit s with
    | false => rfl
    | true => rw [h2, Bool.or_true] at hk; cases hk
  have mono : ∀ m, (xs_tk t a (l + 1 + m)).testBit s = true := by
    intro m
    induction m with
    | zero =>
      show (xs_tk t a (l + 1)).testBit s = true
      simp only [xs_tk, hfb]
      rw [Nat.testBit_or, Nat.testBit_two_pow]; simp
    | succ m ih =>
      show (xs_tk t a ((l + 1 + m) + 1)).testBit s = true
      simp only [xs_tk]
      split
      · exact ih
      · rw [Nat.testBit_or, ih]; rfl
  have := mono (tL t - (l + 1))
  rw [show l + 1 + (tL t - (l + 1)) = tL t by omega] at this
  rw [xs_dif_bit, this, hA]
  rfl
theorem xs_ts_and {w : Nat → Nat → Nat} {bed : Nat → Option Nat} {used : Nat} (h : ∀ l s, bed l = some s → used.testBit s = true) (set : Nat) : xs_ts w bed (set &&& used) = xs_ts w bed set := by
  funext l
  unfold xs_ts
  cases hl : bed l with
  | none => rfl
  | some s => dsimp only; rw [Nat.testBit_and, h l s hl, Bool.and_true]
theorem xs_rw_and {t : xa_T} {w : Nat → Nat → Nat} {bed : Nat → Option Nat} {used : Nat} (h : ∀ l s, bed l = some s → used.testBit s = true) (set n : Nat) : xs_rw t bed (set &&& used) w n = xs_rw t bed set w n := by
  have h1 : ∀ k, xs_fw t bed (set &&& used) w k = xs_fw t bed set w k := by
    intro k
    induction k with
    | zero => rfl
    | succ k ih => simp only [xs_fw]; rw [ih, xs_ts_and h]
  have h2 : ∀ k, xs_fc t bed (set &&& used) w k = xs_fc t bed set w k := by
    intro k
    unfold xs_fc
    rw [h1, xs_ts_and h]
  have h3 : xs_rc t bed (set &&& used) w n = xs_rc t bed set w n := by
    unfold xs_rc
    rw [show xs_fc t bed (set &&& used) w = xs_fc t bed set w from funext h2]
  unfold xs_rw
  rw [h3, show xs_fw t bed (set &&& used) w = xs_fw t bed set w from funext h1]
theorem xs_p12 {t : xa_T} {a : xa_A} {N n : Nat} {o : Option Nat} (h : xs_best N (xs_p1 t (xs_bed t a) (qW a) (xs_dif (xs_tk t a (tL t)) (qA a)) n) o) : xs_best N (xs_p2 t (xs_bed t a) (qW a) (qA a) n) o := by
  obtain ⟨used, hu⟩ : ∃ used, used = xs_dif (xs_tk t a (tL t)) (qA a) := ⟨_, rfl⟩
  have hub : ∀ l s, xs_bed t a l = some s → used.testBit s = true := fun l s hb => by rw [hu]; exact xs_bed_used hb
  have hua : ∀ i, used.testBit i = true → (qA a).testBit i = false := fun i hi => by
    rw [hu, xs_dif_bit] at hi
    cases hq : (qA a).testBit i with
    | false => rfl
    | true => rw [hq] at hi; simp at hi
  rw [← hu] at h
  refine xs_best_other h (fun b hb => ?_) (fun set hq => ⟨set &&& used, Nat.and_le_left, xs_ones_and _ _, ?_⟩)
  · unfold xs_p1 at hb
    unfold xs_p2
    rw [Bool.and_eq_true] at hb ⊢
    refine ⟨?_, hb.2⟩
    have h0 : xs_dif b used = 0 := by simpa using hb.1
    have : b &&& qA a = 0 := by
      apply Nat.eq_of_testBit_eq
      intro i
      rw [Nat.testBit_and, Nat.zero_testBit]
      have h1 : (xs_dif b used).testBit i = false := by rw [h0, Nat.zero_testBit]
      rw [xs_dif_bit] at h1
      cases hbi : b.testBit i with
      | false => rfl
      | true =>
        rw [hbi] at h1
        have : used.testBit i = true := by simpa using h1
        rw [hua i this]; rfl
    simp [this]
  · unfold xs_p2 at hq
    unfold xs_p1
    rw [Bool.and_eq_true] at hq ⊢
    refine ⟨?_, by rw [xs_rw_and hub]; exact hq.2⟩
    have : xs_dif (set &&& used) used = 0 := by
      apply Nat.eq_of_testBit_eq
      intro i
      rw [xs_dif_bit, Nat.testBit_and, Nat.zero_testBit]
      cases set.testBit i <;> cases used.testBit i <;> rfl
    simp [this]
theorem xe_rng2 {α : Type} {a k : Int32} {n : Nat} {x y : Option α} (hn : n < 1000) (hk : k = nI n) : (if a < 0 then x else if k < a then x else y) = if xs_inr a (n + 1) = true then y else x := by
  rw [← xe_rng (a := a) (k := k) (x := x) (y := y) hn hk]
  by_cases h0 : a < 0
  · rw [if_pos h0, if_pos h0]
  · rw [if_neg h0, if_neg h0]
    by_cases h1 : k < a
    · rw [if_pos h1, if_neg]
      intro h2
      have q1 := Int32.lt_iff_toInt_lt.mp h1
      have q2 := Int32.le_iff_toInt_le.mp h2
      omega
    · rw [if_neg h1, if_pos]
      apply Int32.le_iff_toInt_le.mpr
      have q1 : ¬ k.toInt < a.toInt := fun h => h1 (Int32.lt_iff_toInt_lt.mpr h)
      omega
theorem xy_awake {σ : xr_S} (h : xi σ) (x y : Int32) : xi_ok σ (xf_X10_awake σ x y) (fun τ => xf_X11_awake τ x y) := by
  obtain ⟨t, a, hI⟩ := h
  obtain ⟨hT, hA, hc, hm, hC, hM, -⟩ := id hI
  obtain ⟨n1, n2, n3, n4, n5, n6, n7⟩ := id hT
  have hp := xs_pow64 n3
  unfold xi_ok xf_X10_awake xf_X11_awake
  dsimp only
  rw [xe_rng2 (a := x) (n := 200) (k := 200) (by omega) rfl, xe_rng (a := y) (n := 1) (k := 1) (by omega) rfl]
  cases hx : xs_inr x 201 with
  | false =>
    refine ⟨-1000000002, σ, σ, rfl, ?_, ⟨t, a, hI⟩⟩
    rw [xe_inK (a := x) (n := 200) (lo := 0) (hi := 200) σ (by omega) rfl rfl, hx]; rfl
  | true =>
    cases hy : xs_inr y 2 with
    | false =>
      refine ⟨-1000000002, σ, σ, rfl, ?_, ⟨t, a, hI⟩⟩
      rw [xe_inK (a := x) (n := 200) (lo := 0) (hi := 200) σ (by omega) rfl rfl, hx, bI_t, Option.bind_some, if_neg (by decide), xe_inK (a := y) (n := 1) (lo := 0) (hi := 1) σ (by omega) rfl rfl, hy]; rfl
    | true =>
      obtain ⟨n, hn1, rfl⟩ := xs_inr_t (by omega) hx
      obtain ⟨σ1, p1, p2, p3, p4, p5⟩ := xe_make hT hA hc hC
      have hc1 : xi_Tc σ1 t := xi_Tc_fr hc (fun c h => p5 c (by omega) (by omega) (by omega) (by omega))
      have hC1 : xi_C σ1 15 a := xi_C_fr hC (p5 _ (by decide) (by decide) (by decide) (by decide)) (p5 _ (by decide) (by decide) (by decide) (by decide)) (p5 _ (by decide) (by decide) (by decide) (by decide)) (p5 _ (by decide) (by decide) (by decide) (by decide))
      have htk := xs_tk_lt hA (tL t)
      have hud := xs_dif_lt (b := qA a) (n := 6) (show xs_tk t a (tL t) < 2 ^ 6 by omega)
      obtain ⟨r, σ2, q1, q2, q3⟩ := xe_fewWoken (n := n) hT hc1 (xi_W hA hC1) (xi_wok hA) p4 xs_bed_lt p3 (by omega) (by omega)
      have g1 : ∀ c, (c < 31 ∨ 38 < c) → σ2.1 c = σ.1 c := fun c h => by rw [q3 c (by omega) (by omega), p5 c (by omega) (by omega) (by omega) (by omega)]
      have hm1 : xi_Tm σ2 t := xi_Tm_fr4 hm (fun c h => g1 c (by omega))
      have hM1 : xi_M σ2 0 a := xi_M_fr hM (g1 50 (by omega))
      obtain ⟨τ2, r1, r2, r3, r4⟩ := xe_findBeds hT hA hm1 hM1
      have hm2 : xi_Tm τ2 t := xi_Tm_fr4 hm1 (fun c h => r4 c (by omega) (by omega))
      have hM2 : xi_M τ2 0 a := xi_M_fr hM1 (r4 50 (by decide) (by decide))
      obtain ⟨r', τ3, u1, u2, u3, u4⟩ := xe_awakeM (n := n) hT hA hm2 hM2 r3 xs_bed_lt (by omega)
      have hrr : r = r' := xs_best_unique (xs_p12 q2) u1
      subst hrr
      have hfin : xi τ3 := xi_scr hI (fun c h1 h2 => g1 c (by omega)) (fun c h1 h2 h3 h4 h5 h6 => by rw [u3 c h1 h4, r4 c h2 h3]) (fun k hk => by rw [u4 k hk, r4 50 (by decide) (by decide)])
      have hfw : xf_X10_fewestWoken σ (nI n) = some (oI r, σ2) := by
        have hsh : ((1 : Int32) <<< (nI (tS t) &&& 31)) = nI (2 ^ tS t) := xp_shl1 _ (by omega)
        unfold xf_X10_fewestWoken
        rw [p1, Option.bind_some, hc1.2.2.1, hsh, xp_v, q1]
      have hM' : ∀ (G : (Int32 × xr_S) → Option (Int32 × xr_S)), ((xf_X11_in σ2 (Int32.toInt64 (nI n)) 0 200).bind (fun v1 => if v1 = 0 then (some ((-1000000002), σ2)) else ((xf_X11_in σ2 (Int32.toInt64 y) 0 1).bind (fun v2 => if v2 = 0 then (some ((-1000000002), σ2)) else ((xf_X11_findBeds σ2).bind (fun s3 => xr_lw (xf_X11_awake_L34 (nI n) G) ((-1), 0, s3))))))) = G (oI r, τ3) := by
        intro G
        rw [xe_inK (a := nI n) (n := 200) (lo := 0) (hi := 200) σ2 (by omega) rfl rfl, hx, bI_t, Option.bind_some, if_neg (by decide), xe_inK (a := y) (n := 1) (lo := 0) (hi := 1) σ2 (by omega) rfl rfl, hy, bI_t, Option.bind_some, if_neg (by decide), r1, Option.bind_some]
        exact u2 G
      cases hr : r with
      | none =>
        rw [hr] at hfw hM'
        refine ⟨-1, σ2, τ3, ?_, ?_, hfin⟩
        · rw [if_pos rfl, if_pos rfl, hfw]; rfl
        · rw [hM']; rfl
      | some b =>
        have hb64 := ((xs_p12 q2).2 b hr).1
        have hm1' : ¬ nI b = -1 := xp_m1 b (by omega)
        rw [hr, xp_oIs] at hfw hM'
        by_cases hy1 : y = 1
        · refine ⟨nI b, σ2, τ3, ?_, ?_, hfin⟩
          · rw [if_pos rfl, if_pos rfl, hfw, Option.bind_some, if_neg hm1', if_pos hy1]
          · rw [hM']
            dsimp only
            rw [if_neg hm1', if_pos hy1]
        · refine ⟨nI (xs_ones b), σ2, τ3, ?_, ?_, hfin⟩
          · rw [if_pos rfl, if_pos rfl, hfw, Option.bind_some, if_neg hm1', if_neg hy1]
            dsimp only
            rw [xe_bitCount σ2 (show b < 64 by omega)]; rfl
          · rw [hM']
            dsimp only
            rw [if_neg hm1', if_neg hy1, xe_ones τ3 (show b < 2 ^ 31 by omega)]; rfl
