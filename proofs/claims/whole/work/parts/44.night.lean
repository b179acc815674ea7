/-! nights -/
theorem xp_forS {S β : Type} {body : S → (S → Option β) → Option β} {K : S → Option β} (P : Nat → S → Prop) (n k : Nat) (hk : k ≤ n) (hs : ∀ j s, k ≤ j → j < n → P j s → ∃ s', P (j + 1) s' ∧ ∀ rec, body s rec = rec s') (he : ∀ s, P n s → ∀ rec, body s rec = K s) (s : S) (h0 : P k s) : ∃ s', P n s' ∧ xr_lw body s = K s' := by
  refine xp_inv (Q := fun o => ∃ s', P n s' ∧ o = K s') (fun j s => k ≤ j ∧ P j s) n (fun j s hj hI => ?_) (fun s hI => ?_) k s hk ⟨Nat.le_refl _, h0⟩
  · right
    obtain ⟨s', h1, h2⟩ := hs j s hI.1 hj hI.2
    exact ⟨s', ⟨by omega, h1⟩, h2⟩
  · exact ⟨K s, he s hI.2, s, hI.2, rfl⟩
/-- the same, whatever comes behind the loop -/
theorem xp_forK {S β γ : Type} {body : (γ → Option β) → S → (S → Option β) → Option β} {out : S → γ} (P : Nat → S → Prop) (n : Nat) (hs : ∀ j s, j < n → P j s → ∃ s', P (j + 1) s' ∧ ∀ K rec, body K s rec = rec s') (he : ∀ s, P n s → ∀ K rec, body K s rec = K (out s)) : ∀ (d k : Nat), k + d = n → ∀ s, P k s → ∃ s', P n s' ∧ ∀ K, xr_lw (body K) s = K (out s') := by
  intro d
  induction d with
  | zero =>
    intro k hk s h0
    have hk' : k = n := by omega
    subst hk'
    refine ⟨s, h0, fun K => ?_⟩
    refine xr_lw_eq 1 (fun m hm => ?_)
    obtain ⟨m, rfl⟩ : ∃ i, m = i + 1 := ⟨m - 1, by omega⟩
    exact he s h0 K _
  | succ d ih =>
    intro k hk s h0
    obtain ⟨s1, h1, h2⟩ := hs k s (by omega) h0
    obtain ⟨s', h3, h4⟩ := ih (k + 1) (by omega) s1 h1
    exact ⟨s', h3, fun K => by rw [xp_open (h2 K)]; exact h4 K⟩
theorem xi_Tm_fr2 {σ τ : xr_S} {t : xa_T} (h : xi_Tm σ t) (hf : ∀ c, c ≠ 50 → τ.1 c = σ.1 c) : xi_Tm τ t := by
  simpa only [xi_Tm, hf 49 (by decide), hf 52 (by decide), hf 53 (by decide), hf 54 (by decide)] using h
theorem xp_land (a b : Nat) : lN a &&& lN b = lN (a &&& b) := by
  apply Int64.toBitVec_inj.mp
  rw [Int64.toBitVec_and]
  show BitVec.ofNat 64 a &&& BitVec.ofNat 64 b = BitVec.ofNat 64 (a &&& b)
  apply BitVec.eq_of_getLsbD_eq
  intro i hi
  simp [BitVec.getLsbD_ofNat, Nat.testBit_and, hi]
def xs_next (r : Nat) : Nat := (r * 1103515245 + 12345) % 2147483648
theorem xs_next_lt (r : Nat) : xs_next r < 2 ^ 31 := Nat.mod_lt _ (by decide)
theorem xp_next1 {r : Nat} (hr : r < 2 ^ 31) : Int64.toInt32 ((((nI r).toInt64 * 1103515245) + 12345) &&& 2147483647) = nI (xs_next r) := by
  rw [nI_l hr, show (1103515245 : Int64) = lN 1103515245 from rfl, show (12345 : Int64) = lN 12345 from rfl, show (2147483647 : Int64) = lN 2147483647 from rfl, lN_mul, lN_add, xp_land, lN_i]
  have : (r * 1103515245 + 12345) &&& 2147483647 = (r * 1103515245 + 12345) % 2147483648 := Nat.and_two_pow_sub_one_eq_mod _ 31
  rw [this]
  rfl
theorem xp_next2 {r : Nat} (hr : r < 2 ^ 31) : Int64.toInt32 ((((nI r).toInt64 * 1103515245) + 12345) - (((nI r).toInt64 * 1103515245) + 12345) / 2147483648 * 2147483648) = nI (xs_next r) := by
  have h1 : r * 1103515245 + 12345 < 2 ^ 63 := by omega
  rw [nI_l hr, show (1103515245 : Int64) = lN 1103515245 from rfl, show (12345 : Int64) = lN 12345 from rfl, show (2147483648 : Int64) = lN 2147483648 from rfl, lN_mul, lN_add, pk_lRem h1 (by decide) (by decide), lN_i]
  rfl
theorem qW_sR (a : xa_A) (v : Nat) : qW (sR a v) = qW a := rfl
theorem qP_sR (a : xa_A) (v : Nat) : qP (sR a v) = qP a := rfl
/-- the dream that is drawn -/
def xs_dr (g : Nat → Nat) (x : Nat) : Nat := (xs_find (fun d => decide (x < xs_sum g (d + 1))) 5).getD 0
theorem xs_dr_is {g : Nat → Nat} {x : Nat} (h : x < xs_sum g 5) : xs_dr g x < 5 ∧ x < xs_sum g (xs_dr g x + 1) ∧ xs_sum g (xs_dr g x) ≤ x ∧ ∀ i, i < xs_dr g x → xs_sum g (i + 1) ≤ x := by
  unfold xs_dr
  cases hf : xs_find (fun d => decide (x < xs_sum g (d + 1))) 5 with
  | none =>
    have := xs_find_none.mp hf 4 (by decide)
    simp at this
    omega
  | some D =>
    obtain ⟨h1, h2, h3⟩ := xs_find_some.mp hf
    have h4 : ∀ i, i < D → xs_sum g (i + 1) ≤ x := fun i hi => by
      have := h3 i hi
      simpa using this
    refine ⟨h1, by simpa using h2, ?_, h4⟩
    show xs_sum g D ≤ x
    cases D with
    | zero => simp [xs_sum]
    | succ D => exact h4 D (by omega)
theorem xs_sum_mono {g : Nat → Nat} : ∀ m n, n ≤ m → xs_sum g n ≤ xs_sum g m := by
  intro m
  induction m with
  | zero => intro n h; rw [show n = 0 by omega]; exact Nat.le_refl _
  | succ m ih =>
    intro n h
    by_cases hh : n = m + 1
    · rw [hh]; exact Nat.le_refl _
    · have := ih n (by omega)
      simp only [xs_sum]
      omega
theorem xs_dr_N {g : Nat → Nat} {x N : Nat} (h : x < xs_sum g 5) (hN : ∀ k, N ≤ k → g k = 0) : xs_dr g x < N := by
  obtain ⟨d1, d2, d3, d4⟩ := xs_dr_is h
  rcases Nat.lt_or_ge (xs_dr g x) N with hh | hh
  · exact hh
  · exfalso
    have hz := hN _ hh
    have : xs_sum g (xs_dr g x + 1) = xs_sum g (xs_dr g x) + g (xs_dr g x) := rfl
    omega
/-- one sleeper's night -/
def xs_slx (a : xa_A) (s R D : Nat) : xa_A := match xs_find (fun l => decide (qP a l = some s)) 7 with
  | none => sR a R
  | some l => sP (sT (sR a R) l (some D)) l none
def xs_sl (a : xa_A) (s : Nat) : xa_A := if (qA a).testBit s then a else xs_slx a s (xs_next (qR a)) (xs_dr (qW a s) (xs_next (qR a) / 65536 % xs_sum (qW a s) 5))
def xs_slf (t : xa_T) (a : xa_A) (s R x D : Nat) : Prop := R < 2 ^ 31 ∧ x < xs_sum (qW a s) 5 ∧ D < 5 ∧ D < tN t ∧ x < xs_sum (qW a s) (D + 1) ∧ xs_sum (qW a s) D ≤ x ∧ (∀ i, i < D → xs_sum (qW a s) (i + 1) ≤ x) ∧ Int64.toInt32 ((((nI (qR a)).toInt64 * 1103515245) + 12345) &&& 2147483647) = nI R ∧ Int64.toInt32 ((((nI (qR a)).toInt64 * 1103515245) + 12345) - (((nI (qR a)).toInt64 * 1103515245) + 12345) / 2147483648 * 2147483648) = nI R ∧ nI R / 65536 - nI R / 65536 / nI (xs_sum (qW a s) 5) * nI (xs_sum (qW a s) 5) = nI x
theorem xs_sl_ex {t : xa_T} {a : xa_A} {s : Nat} (hA : xi_A t a) (hs : s < tS t) (haw : (qA a).testBit s = false) : ∃ R x D, xs_slf t a s R x D ∧ xs_sl a s = xs_slx a s R D := by
  have hsum := hA.2.2.1 s hs
  have hsl := xs_sum_le (hA.1 s) 5
  have hR := hA.2.2.2.2.2.2.2.2.2
  have hn := xs_next_lt (qR a)
  have e1 := xp_next1 hR
  have e2 := xp_next2 hR
  have e3 : xs_sl a s = xs_slx a s (xs_next (qR a)) (xs_dr (qW a s) (xs_next (qR a) / 65536 % xs_sum (qW a s) 5)) := by
    unfold xs_sl
    rw [if_neg (by rw [haw]; decide)]
  generalize xs_next (qR a) = R at hn e1 e2 e3
  have hx := Nat.mod_lt (R / 65536) hsum
  have e4 : nI R / 65536 - nI R / 65536 / nI (xs_sum (qW a s) 5) * nI (xs_sum (qW a s) 5) = nI (R / 65536 % xs_sum (qW a s) 5) := by
    rw [xl_65536, pk_div hn (by decide) (by decide), pk_rem (by omega) hsum (by omega)]
  generalize R / 65536 % xs_sum (qW a s) 5 = x at hx e3 e4
  obtain ⟨d1, d2, d3, d4⟩ := xs_dr_is hx
  exact ⟨R, x, _, ⟨hn, hx, d1, xs_dr_N hx (fun k hk => hA.2.1 s k hk), d2, d3, d4, e1, e2, e4⟩, e3⟩
theorem xe_drawDream {σ : xr_S} {t : xa_T} {a : xa_A} {s R x D : Nat} (hT : xi_T t) (hA : xi_A t a) (hC : xi_C σ 15 a) (hs : s < tS t) (hf : xs_slf t a s R x D) : xf_X5_drawDream σ (nI s) = some (nI D, xr_up σ 15 7 (nI R)) := by
  obtain ⟨n1, n2, n3, n4, n5, n6, n7⟩ := id hT
  obtain ⟨f1, f2, f3, f4, f5, f6, f7, f8, f9, f10⟩ := hf
  have hsum := hA.2.2.1 s hs
  have hsl := xs_sum_le (hA.1 s) 5
  have ed : xf_X5_draw σ (nI (xs_sum (qW a s) 5)) = some (nI x, xr_up σ 15 7 (nI R)) := by
    unfold xf_X5_draw
    rw [hC.2.2.2.2.2.2.2, f8, xp_pf, if_neg (nI_nle hsum (by omega)), xp_nz (by rw [xl_0, xp_eq (by omega) (by omega)]; omega), xp_same, xp_us, f10]
  have hC' : xi_C (xr_up σ 15 7 (nI R)) 15 (sR a R) := C_R hC
  have hA' : xi_A t (sR a R) := A_R hA f1
  unfold xf_X5_drawDream
  rw [xe_all (c := 16) (xi_W hA hC) (show s < 6 by omega), Option.bind_some, ed, Option.bind_some]
  refine xp_iter (fun k => (nI (xs_sum (qW a s) k), nI k)) 0 D rfl (fun j h1 h2 rec => ?_) (fun rec => ?_)
  · have e1 := xe_of (c := 16) (xi_W hA' hC') (show s < 6 by omega) (show j < 5 by omega)
    have e2 : qW (sR a R) s j = qW a s j := by rw [qW_sR]
    have := f7 j (by omega)
    have e3 : xs_sum (qW a s) j + qW a s j = xs_sum (qW a s) (j + 1) := rfl
    simp (disch := omega) only [xf_X5_drawDream_L18, xl_5, xl_1, xp_le, if_neg, e1, e2, Option.bind_some, xp_v, nI_add, e3, if_pos]
  · have e1 := xe_of (c := 16) (xi_W hA' hC') (show s < 6 by omega) f3
    have e2 : qW (sR a R) s D = qW a s D := by rw [qW_sR]
    have e3 : xs_sum (qW a s) D + qW a s D = xs_sum (qW a s) (D + 1) := rfl
    have hle := xs_sum_mono (g := qW a s) 5 (D + 1) (by omega)
    simp (disch := omega) only [xf_X5_drawDream_L18, xl_5, xl_1, Nat.zero_add, xp_le, if_neg, e1, e2, Option.bind_some, xp_v, nI_add, e3]
theorem A_sl {t : xa_T} {a : xa_A} {s : Nat} (hA : xi_A t a) (hs : s < tS t) : xi_A t (xs_sl a s) := by
  cases haw : (qA a).testBit s with
  | true => unfold xs_sl; rw [haw]; exact hA
  | false =>
    obtain ⟨R, x, D, hf, he⟩ := xs_sl_ex hA hs haw
    have h1 := A_R hA hf.1
    rw [he]
    unfold xs_slx
    split
    · exact h1
    next l hl =>
      obtain ⟨q1, q2, q3⟩ := xs_find_some.mp hl
      refine A_P (A_T h1 (fun d hd => ?_)) (fun s hs => by cases hs)
      cases hd
      exact ⟨(hA.2.2.2.1 l s (by simpa using q2)).1, hf.2.2.2.1⟩
theorem xe_sl {σ : xr_S} {t : xa_T} {a : xa_A} {s : Nat} (hT : xi_T t) (hA : xi_A t a) (hC : xi_C σ 15 a) (hs : s < tS t) : ∃ τ, xi_C τ 15 (xs_sl a s) ∧ (∀ c, c ≠ 15 → c ≠ 18 → c ≠ 19 → τ.1 c = σ.1 c) ∧ ∀ K : xr_S → Option xr_S, ((xf_X5_isAwake σ (nI s)).bind (fun v5 => xr_jn (fun (w6 : xr_S) => K w6) (fun j7 => if v5 = 0 then ((xf_X5_drawDream σ (nI s)).bind (fun p9 => (xf_X5_loafOn p9.2 (nI s)).bind (fun v10 => if v10 = (-1) then (j7 p9.2) else (xr_st p9.2 19 7 v10 p9.1 (fun s11 => xr_st s11 18 7 v10 (-1) (fun s12 => j7 s12)))))) else (j7 σ)))) = K τ := by
  obtain ⟨n1, n2, n3, n4, n5, n6, n7⟩ := id hT
  have hb := xi_bounds hT hA
  have e0 := xe_isAwake hC.2.2.2.2.1 (show qA a < 2 ^ 31 by omega) (show s < 31 by omega)
  cases haw : (qA a).testBit s with
  | true =>
    refine ⟨σ, by unfold xs_sl; rw [haw]; exact hC, fun _ _ _ _ => rfl, fun K => ?_⟩
    rw [e0, haw]; rfl
  | false =>
    obtain ⟨R, x, D, hf, he⟩ := xs_sl_ex hA hs haw
    have e1 := xe_drawDream hT hA hC hs hf
    have hC1 : xi_C (xr_up σ 15 7 (nI R)) 15 (sR a R) := C_R hC
    have e2 := xe_loafOn (s := s) hC1.2.1 (by rw [qP_sR]; exact hb.1) (show s < 2 ^ 31 by omega)
    rw [qP_sR] at e2
    rw [he]
    unfold xs_slx
    cases hf : xs_find (fun l => decide (qP a l = some s)) 7 with
    | none =>
      refine ⟨_, hC1, fun c h1 h2 h3 => xp_other h1, fun K => ?_⟩
      rw [e0, haw, e1]
      simp only [bI_f, Option.bind_some, xp_jn, show (nI 0 = 0) from rfl, if_true, e2, hf]
      rfl
    | some l =>
      obtain ⟨q1, q2, q3⟩ := xs_find_some.mp hf
      have hm1 : ¬ nI l = -1 := xp_m1 l (by omega)
      refine ⟨_, C_P (o := none) (l := l) (C_T (o := some D) (l := l) hC1), fun c h1 h2 h3 => by rw [xp_other h2, xp_other h3, xp_other h1], fun K => ?_⟩
      rw [e0, haw, e1]
      simp only [bI_f, Option.bind_some, xp_jn, show (nI 0 = 0) from rfl, if_true, e2, hf, xp_oIs, hm1, if_false]
      rw [xp_st (by omega) (by omega), xp_st (by omega) (by omega)]
      rfl
theorem xe_slM {σ : xr_S} {t : xa_T} {a : xa_A} {s : Nat} (hT : xi_T t) (hA : xi_A t a) (hm : xi_Tm σ t) (hM : xi_M σ 0 a) (hs : s < tS t) (haw : (qA a).testBit s = false) : ∃ τ, xi_M τ 0 (xs_sl a s) ∧ (∀ c, c ≠ 50 → τ.1 c = σ.1 c) ∧ (∀ k, 55 ≤ k → τ.1 50 k = σ.1 50 k) ∧ xf_X11_dreamsNow σ (nI s) = some τ := by
  obtain ⟨n1, n2, n3, n4, n5, n6, n7⟩ := id hT
  have hb := xi_bounds hT hA
  have hsum := hA.2.2.1 s hs
  have hsl := xs_sum_le (hA.1 s) 5
  obtain ⟨R, x, D, hf, he⟩ := xs_sl_ex hA hs haw
  obtain ⟨f1, f2, f3, f4, f5, f6, f7, f8, f9, f10⟩ := hf
  rw [he]
  obtain ⟨o1, o2, o3, o4, o5, o6, o7, o8⟩ := xi_M0 hM
  have e1 := xe_allOf (xi_V hA hM) (by omega) (show s < 6 by omega) hm.1 n1
  rw [xi_sum hA hT] at e1
  have ed : xf_X11_draw σ (nI (xs_sum (qW a s) 5)) = some (nI x, xr_up σ 50 54 (nI R)) := by
    unfold xf_X11_draw
    rw [xl_54, xp_ld (by omega) (by omega), o8, f9, xp_st (by omega) (by omega), xp_ld (by omega) (by omega), xp_nz (by rw [xl_0, xp_eq (by omega) (by omega)]; omega), xp_same, xp_us, f10]
  have hM1 : xi_M (xr_up σ 50 54 (nI R)) 0 (sR a R) := M_R hM
  have hA1 : xi_A t (sR a R) := A_R hA f1
  have e2 := xe_onPillow (σ := xr_up σ 50 54 (nI R)) (s := s) (by rw [xp_other (by decide)]; exact hm.2.2.2.1) n4 (xi_M0 hM1).2.1 (by rw [qP_sR]; exact hb.1) (show s < 2 ^ 31 by omega)
  have hlast : xs_last (fun l => decide (qP a l = some s)) (tL t) = xs_find (fun l => decide (qP a l = some s)) 7 := by
    rw [xs_last_find (fun i j hi hj => hA.2.2.2.2.1 i j s (by simpa using hi) (by simpa using hj))]
    cases hf : xs_find (fun l => decide (qP a l = some s)) 7 with
    | none =>
      have := xs_find_none.mp hf
      exact xs_find_none.mpr (fun k hk => this k (by omega))
    | some l =>
      obtain ⟨q1, q2, q3⟩ := xs_find_some.mp hf
      exact xs_find_some.mpr ⟨(hA.2.2.2.1 l s (by simpa using q2)).1, q2, q3⟩
  rw [qP_sR, hlast] at e2
  have hloop : ∀ K : Int32 → Option xr_S, xr_lw (xf_X11_dreamsNow_L13 (nI x, xr_up σ 50 54 (nI R)) (nI s) K) (nI x, nI 0) = K (nI D) := by
    intro K
    refine xp_iter (fun k => (nI (x - xs_sum (qW a s) k), nI k)) 0 D rfl (fun j h1 h2 rec => ?_) (fun rec => ?_)
    · have w1 := xe_weightOf (xi_V hA1 hM1) (by omega) (show s < 6 by omega) (show j < 5 by omega)
      have w3 := f7 j (by omega)
      have w4 : xs_sum (qW a s) (j + 1) = xs_sum (qW a s) j + qW a s j := rfl
      rw [qW_sR] at w1
      unfold xf_X11_dreamsNow_L13
      dsimp only
      rw [xl_0, w1, Option.bind_some, if_neg (nI_nlt (by omega) (by omega)), Option.bind_some, xp_v, pk_sub (by omega), xl_1, nI_add, w4]
      rw [show x - xs_sum (qW a s) j - qW a s j = x - (xs_sum (qW a s) j + qW a s j) by omega]
    · have w1 := xe_weightOf (xi_V hA1 hM1) (by omega) (show s < 6 by omega) f3
      have w4 : xs_sum (qW a s) (D + 1) = xs_sum (qW a s) D + qW a s D := rfl
      have w5 := hA.1 s D
      rw [qW_sR] at w1
      rw [Nat.zero_add]
      unfold xf_X11_dreamsNow_L13
      dsimp only
      rw [xl_0, w1, Option.bind_some, if_pos (nI_lt (by omega) (by omega))]
  unfold xs_slx xf_X11_dreamsNow
  rw [xl_0, e1, Option.bind_some, ed, Option.bind_some]
  cases hf : xs_find (fun l => decide (qP a l = some s)) 7 with
  | none =>
    refine ⟨_, hM1, fun c h => xp_other h, fun k hk => by rw [xp_same, xp_un (by omega)], (hloop _).trans ?_⟩
    rw [e2, hf]
    rfl
  | some l =>
    obtain ⟨q1, q2, q3⟩ := xs_find_some.mp hf
    have hm1 : ¬ nI l = -1 := xp_m1 l (by omega)
    refine ⟨_, M_P (o := none) (l := l) q1 (M_T (o := some D) (l := l) q1 hM1), fun c h => by rw [xp_other h, xp_other h, xp_other h], fun k hk => by rw [xp_same, xp_un (by omega), xp_same, xp_un (by omega), xp_same, xp_un (by omega)], (hloop _).trans ?_⟩
    rw [e2, hf]
    simp only [Option.bind_some, xp_oIs, hm1, if_false, xl_37, xl_30, nI_add]
    rw [xp_st (by omega) (by omega), xp_st (by omega) (by omega)]
    rfl
def xs_sls (a : xa_A) : Nat → xa_A
  | 0 => a
  | k + 1 => xs_sl (xs_sls a k) k
def xs_nt (t : xa_T) (a : xa_A) : xa_A := sN (xs_sls a (tS t)) (qN (xs_sls a (tS t)) + 1)
def xs_nts (t : xa_T) (a : xa_A) : Nat → xa_A
  | 0 => a
  | k + 1 => xs_nt t (xs_nts t a k)
theorem A_sls {t : xa_T} {a : xa_A} (hA : xi_A t a) : ∀ k, k ≤ tS t → xi_A t (xs_sls a k) := by
  intro k
  induction k with
  | zero => intro _; exact hA
  | succ k ih => intro hk; exact A_sl (ih (by omega)) (by omega)
theorem A_nts {t : xa_T} {a : xa_A} (hA : xi_A t a) : ∀ k, xi_A t (xs_nts t a k) := by
  intro k
  induction k with
  | zero => exact hA
  | succ k ih => exact A_N (A_sls ih _ (Nat.le_refl _))
theorem xe_sleepOnce {σ : xr_S} {t : xa_T} {a : xa_A} (hT : xi_T t) (hA : xi_A t a) (hc : xi_Tc σ t) (hC : xi_C σ 15 a) : ∃ τ, xf_X5_sleepOnce σ = some τ ∧ xi_C τ 15 (xs_nt t a) ∧ ∀ c, c ≠ 15 → c ≠ 18 → c ≠ 19 → τ.1 c = σ.1 c := by
  obtain ⟨n1, n2, n3, n4, n5, n6, n7⟩ := id hT
  unfold xf_X5_sleepOnce
  obtain ⟨s', ⟨τ, rfl, hP1, hP2⟩, hP3⟩ := xp_forS (body := xf_X5_sleepOnce_L2 (fun (e3 : xr_S) => xr_pf e3 15 5 ((e3.1 15 5) + 1) (fun s13 => some s13))) (K := fun s => some (xr_up s.2 15 5 ((s.2.1 15 5) + 1))) (fun j s => ∃ τ, s = (nI j, τ) ∧ xi_C τ 15 (xs_sls a j) ∧ ∀ c, c ≠ 15 → c ≠ 18 → c ≠ 19 → τ.1 c = σ.1 c) (tS t) 0 (by omega) (fun j s h1 h2 hP => by
      obtain ⟨τ, rfl, hP1, hP2⟩ := hP
      obtain ⟨ρ, r1, r2, r3⟩ := xe_sl hT (A_sls hA j (by omega)) hP1 h2
      refine ⟨(nI (j + 1), ρ), ⟨ρ, rfl, r1, fun c h1 h2 h3 => by rw [r2 c h1 h2 h3, hP2 c h1 h2 h3]⟩, fun rec => ?_⟩
      unfold xf_X5_sleepOnce_L2
      dsimp only
      rw [hP2 9 (by decide) (by decide) (by decide), hc.2.2.1, if_neg (nI_ge (by omega) (by omega)), xl_1, nI_add]
      exact r3 (fun w => rec (nI (j + 1), w))) (fun s hP rec => by
      obtain ⟨τ, rfl, hP1, hP2⟩ := hP
      unfold xf_X5_sleepOnce_L2
      dsimp only
      rw [hP2 9 (by decide) (by decide) (by decide), hc.2.2.1, if_pos (nI_le (by omega) (by omega)), xp_pf]) (0, σ) ⟨σ, rfl, hC, fun _ _ _ _ => rfl⟩
  refine ⟨_, hP3, ?_, fun c h1 h2 h3 => by rw [xp_other h1, hP2 c h1 h2 h3]⟩
  have : τ.1 15 5 = qN (xs_sls a (tS t)) := hP1.2.2.2.2.2.1
  show xi_C (xr_up τ 15 5 (τ.1 15 5 + 1)) 15 _
  rw [this]
  exact C_N hP1
theorem xe_nightM {σ : xr_S} {t : xa_T} {a : xa_A} (hT : xi_T t) (hA : xi_A t a) (hm : xi_Tm σ t) (hM : xi_M σ 0 a) : ∃ τ, xi_M τ 0 (xs_nt t a) ∧ (∀ c, c ≠ 50 → τ.1 c = σ.1 c) ∧ (∀ k, 55 ≤ k → τ.1 50 k = σ.1 50 k) ∧ ∀ K : xr_S → Option (Int32 × xr_S), xr_lw (xf_X11_night_L49 (fun (e9 : xr_S) => xr_ld e9 50 220 52 (fun v16 => xr_st e9 50 220 52 (v16 + 1) (fun s17 => K s17)))) (0, σ) = K τ := by
  obtain ⟨n1, n2, n3, n4, n5, n6, n7⟩ := id hT
  obtain ⟨s', ⟨τ, rfl, hP1, hP2, hP4⟩, hP3⟩ := xp_forK (body := xf_X11_night_L49) (out := fun s => s.2) (fun j s => ∃ τ, s = (nI j, τ) ∧ xi_M τ 0 (xs_sls a j) ∧ (∀ c, c ≠ 50 → τ.1 c = σ.1 c) ∧ ∀ k, 55 ≤ k → τ.1 50 k = σ.1 50 k) (tS t) (fun j s h2 hP => by
      obtain ⟨τ, rfl, hP1, hP2, hP4⟩ := hP
      have hAj := A_sls hA j (by omega)
      have hb := xi_bounds hT hAj
      have hmj : xi_Tm τ t := xi_Tm_fr2 hm hP2
      have e0 := xe_isAwakeM (xi_M0 hP1).2.2.2.2.1 (show qA (xs_sls a j) < 2 ^ 31 by omega) (show j < 31 by omega)
      cases haw : (qA (xs_sls a j)).testBit j with
      | true =>
        refine ⟨(nI (j + 1), τ), ⟨τ, rfl, ?_, hP2, hP4⟩, fun K rec => ?_⟩
        · simp only [xs_sls, xs_sl, haw, if_true]; exact hP1
        · unfold xf_X11_night_L49
          dsimp only
          rw [hmj.2.2.1, if_neg (nI_ge (by omega) (by omega)), e0, haw, xl_1, nI_add]
          rfl
      | false =>
        obtain ⟨ρ, r1, r2, r3, r4⟩ := xe_slM hT hAj hmj hP1 h2 haw
        refine ⟨(nI (j + 1), ρ), ⟨ρ, rfl, r1, fun c h => by rw [r2 c h, hP2 c h], fun k hk => by rw [r3 k hk, hP4 k hk]⟩, fun K rec => ?_⟩
        unfold xf_X11_night_L49
        dsimp only
        rw [hmj.2.2.1, if_neg (nI_ge (by omega) (by omega)), e0, haw, xl_1, nI_add]
        simp only [bI_f, Option.bind_some, xp_jn, show (nI 0 = 0) from rfl, if_true, r4]) (fun s hP K rec => by
      obtain ⟨τ, rfl, hP1, hP2, hP4⟩ := hP
      unfold xf_X11_night_L49
      dsimp only
      rw [hP2 49 (by decide), hm.2.2.1, if_pos (nI_le (by omega) (by omega))]) (tS t) 0 (by omega) (0, σ) ⟨σ, rfl, hM, fun _ _ => rfl, fun _ _ => rfl⟩
  refine ⟨xr_up τ 50 52 (τ.1 50 52 + 1), ?_, fun c h1 => by rw [xp_other h1, hP2 c h1], fun k hk => by rw [xp_same, xp_un (by omega), hP4 k hk], fun K => ?_⟩
  · have : τ.1 50 52 = qN (xs_sls a (tS t)) := (xi_M0 hP1).2.2.2.2.2.1
    rw [this]
    exact M_N hP1
  · rw [hP3, xl_52, xp_ld (by omega) (by omega), xp_st (by omega) (by omega)]
theorem xs_rng1 {x : Int32} {m : Nat} (hm : m < 1000) (h1 : ¬ x < 1) (h2 : x ≤ nI m) : ∃ j, 1 ≤ j ∧ j ≤ m ∧ x = nI j := by
  have q1 : ¬ x.toInt < 1 := fun h => h1 (Int32.lt_iff_toInt_lt.mpr (by rw [show (1 : Int32).toInt = 1 from by decide]; exact h))
  obtain ⟨j, hj, rfl⟩ := nI_of (x := x) (fun h => by
    have := Int32.lt_iff_toInt_lt.mp h
    have e0 : (0 : Int32).toInt = 0 := by decide
    omega)
  rw [nI_toInt hj] at q1
  have := (nI_leI hj (by omega)).mp h2
  exact ⟨j, by omega, this, rfl⟩
theorem xe_in1 {σ : xr_S} {x : Int32} {m : Nat} {hi : Int64} (hm : m < 1000) (hh : hi = lN m) : xf_X11_in σ x.toInt64 1 hi = some (bI (decide (¬ x < 1 ∧ x ≤ nI m))) := by
  have := xe_inI σ x 1 (nI m)
  rw [show (1 : Int32).toInt64 = 1 by decide, nI_l (by omega)] at this
  rw [hh, this]
  congr 2
  apply decide_eq_decide.mpr
  rw [Int32.le_iff_toInt_le, Int32.lt_iff_toInt_lt]
  constructor
  · rintro ⟨a, b⟩; exact ⟨by omega, b⟩
  · rintro ⟨a, b⟩; exact ⟨by omega, b⟩
theorem xy_night {σ : xr_S} (h : xi σ) (x : Int32) : xi_ok σ (xf_X10_night σ x) (fun τ => xf_X11_night τ x) := by
  obtain ⟨t, a, hI⟩ := h
  obtain ⟨hT, hA, hc, hm, hC, hM, -⟩ := id hI
  obtain ⟨n1, n2, n3, n4, n5, n6, n7⟩ := id hT
  by_cases hx : ¬ x < 1 ∧ x ≤ nI 30
  · obtain ⟨n, g1, g2, rfl⟩ := xs_rng1 (by decide) hx.1 hx.2
    by_cases h0 : tN t = 0
    · refine ⟨-1000000003, σ, σ, ?_, ?_, ⟨t, a, hI⟩⟩
      · unfold xf_X10_night
        rw [if_neg hx.1, if_pos (show nI n ≤ 30 from hx.2), hc.1, h0]; rfl
      · show xf_X11_night _ _ = _
        unfold xf_X11_night
        rw [xe_in1 (m := 30) (hi := 30) (by decide) rfl, decide_eq_true hx, hm.1, h0]; rfl
    · have hz : ¬ nI (tN t) = 0 := by rw [xl_0, xp_eq (by omega) (by omega)]; exact h0
      by_cases hl : qN a ≤ 90000
      · -- the nights
        obtain ⟨s1, ⟨σ1, rfl, p1, p2⟩, p3⟩ := xp_forS (body := xf_X10_night_L44 (nI n) (fun (e3 : xr_S) => (xf_X5_sleptOnSet e3).bind (fun v7 => some (v7, e3)))) (K := fun s => (xf_X5_sleptOnSet s.2).bind (fun v7 => some (v7, s.2))) (fun j s => ∃ τ, s = (nI j, τ) ∧ xi_C τ 15 (xs_nts t a j) ∧ ∀ c, c ≠ 15 → c ≠ 18 → c ≠ 19 → τ.1 c = σ.1 c) n 0 (by omega) (fun j s h1 h2 hP => by
          obtain ⟨τ, rfl, q1, q2⟩ := hP
          obtain ⟨ρ, r1, r2, r3⟩ := xe_sleepOnce hT (A_nts hA j) (xi_Tc_fr hc (fun c h => q2 c (by omega) (by omega) (by omega))) q1
          refine ⟨(nI (j + 1), ρ), ⟨ρ, rfl, r2, fun c h1 h2 h3 => by rw [r3 c h1 h2 h3, q2 c h1 h2 h3]⟩, fun rec => ?_⟩
          unfold xf_X10_night_L44
          dsimp only
          rw [if_neg (nI_ge (by omega) (by omega)), r1, xl_1, nI_add]
          rfl) (fun s hP rec => by
          obtain ⟨τ, rfl, q1, q2⟩ := hP
          unfold xf_X10_night_L44
          dsimp only
          rw [if_pos (nI_le (by omega) (by omega))]) (0, σ) ⟨σ, rfl, hC, fun _ _ _ _ => rfl⟩
        have ff : ∀ c, (49 ≤ c ∨ xi_free c = false) → σ1.1 c = σ.1 c := fun c h => by
          have hne : c ≠ 15 ∧ c ≠ 18 ∧ c ≠ 19 := by
            refine ⟨fun e => ?_, fun e => ?_, fun e => ?_⟩ <;> (subst e; rcases h with h | h <;> revert h <;> decide)
          exact p2 c hne.1 hne.2.1 hne.2.2
        have hm1 : xi_Tm σ1 t := xi_Tm_fr hm (fun c h => ff c (Or.inl h))
        have hM1 : xi_M σ1 0 a := xi_M_fr hM (ff 50 (Or.inl (by decide)))
        obtain ⟨s2, ⟨σ2, rfl, k1, k2, k4⟩, k3⟩ := xp_forS (body := xf_X11_night_L42 (nI n) (fun (e5 : xr_S) => (xf_X11_loavesBy e5 10).bind (fun v19 => some (v19, e5)))) (K := fun s => (xf_X11_loavesBy s.2 10).bind (fun v19 => some (v19, s.2))) (fun j s => ∃ τ, s = (nI j, τ) ∧ xi_M τ 0 (xs_nts t a j) ∧ (∀ c, c ≠ 50 → τ.1 c = σ1.1 c) ∧ ∀ k, 55 ≤ k → τ.1 50 k = σ1.1 50 k) n 0 (by omega) (fun j s h1 h2 hP => by
          obtain ⟨τ, rfl, q1, q2, q3⟩ := hP
          obtain ⟨ρ, r1, r2, r3, r4⟩ := xe_nightM hT (A_nts hA j) (xi_Tm_fr2 hm1 q2) q1
          refine ⟨(nI (j + 1), ρ), ⟨ρ, rfl, r1, fun c h => by rw [r2 c h, q2 c h], fun k hk => by rw [r3 k hk, q3 k hk]⟩, fun rec => ?_⟩
          unfold xf_X11_night_L42
          dsimp only
          rw [if_neg (nI_ge (by omega) (by omega)), xl_1, nI_add]
          exact r4 (fun s => rec (nI (j + 1), s))) (fun s hP rec => by
          obtain ⟨τ, rfl, q1, q2, q3⟩ := hP
          unfold xf_X11_night_L42
          dsimp only
          rw [if_pos (nI_le (by omega) (by omega))]) (0, σ1) ⟨σ1, rfl, hM1, fun _ _ => rfl, fun _ _ => rfl⟩
        have hAn := A_nts hA n
        have hbn := xi_bounds hT hAn
        refine ⟨nI (xs_bits (fun l => (qT (xs_nts t a n) l).isSome) (tL t)), σ1, σ2, ?_, ?_, xi_ofI (xi_two hI ff (fun c h => ?_) (fun k hk => k4 k (by omega)) hAn p1 k1)⟩
        · unfold xf_X10_night
          rw [if_neg hx.1, if_pos (show nI n ≤ 30 from hx.2), hc.1, if_neg hz, hC.2.2.2.2.2.1, if_pos hl, p3, xe_slept hT hAn p1]
          rfl
        · show xf_X11_night _ _ = _
          unfold xf_X11_night
          rw [xe_in1 (m := 30) (hi := 30) (by decide) rfl, decide_eq_true hx, hm1.1, bI_t, Option.bind_some, if_neg (show ¬ nI 1 = 0 by decide), if_neg hz, xl_52, xp_ld (by omega) (by omega), (xi_M0 hM1).2.2.2.2.2.1, if_pos hl, k3, xe_loavesBy10 ((k2 49 (by decide) ▸ hm1.2.2.2.1)) n4 (xi_M0 k1).2.2.1 hbn.2.1]
          rfl
        · have : c ≠ 50 := fun e => by subst e; rcases h with h | h <;> revert h <;> decide
          exact k2 c this
      · refine ⟨-1000000004, σ, σ, ?_, ?_, ⟨t, a, hI⟩⟩
        · unfold xf_X10_night
          rw [if_neg hx.1, if_pos (show nI n ≤ 30 from hx.2), hc.1, if_neg hz, hC.2.2.2.2.2.1, if_neg hl]
        · show xf_X11_night _ _ = _
          unfold xf_X11_night
          rw [xe_in1 (m := 30) (hi := 30) (by decide) rfl, decide_eq_true hx, hm.1, bI_t, Option.bind_some, if_neg (show ¬ nI 1 = 0 by decide), if_neg hz, xl_52, xp_ld (by omega) (by omega), (xi_M0 hM).2.2.2.2.2.1, if_neg hl]
  · refine ⟨-1000000002, σ, σ, ?_, ?_, ⟨t, a, hI⟩⟩
    · unfold xf_X10_night
      by_cases h1 : x < 1
      · rw [if_pos h1]
      · rw [if_neg h1, if_neg (show ¬ x ≤ 30 from fun h => hx ⟨h1, h⟩)]
    · show xf_X11_night _ _ = _
      unfold xf_X11_night
      rw [xe_in1 (m := 30) (hi := 30) (by decide) rfl, decide_eq_false hx]; rfl
