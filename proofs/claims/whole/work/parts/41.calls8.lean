/-! a weight grows -/
def xs_gr (v g : Nat) : Nat := if v + g ≤ 9 then v + g else 9
theorem xs_gr_le (v g : Nat) : xs_gr v g ≤ 9 := by unfold xs_gr; split <;> omega
theorem xe_put {σ : xr_S} {c s d : Nat} {v : Int32} (hs : s < 6) (hd : d < 5) : xf_X9_put σ c (nI s) (nI d) v = some (xr_up σ (c + 1) (s * 5 + d) v) := by
  unfold xf_X9_put
  simp (disch := omega) only [↓xp_n1, ↓reduceIte, xp_oIs, xp_v, xp_jn, xp_pf, xp_ld, xp_st, xp_le, xp_lt, xp_eq, nI_add, pk_mul, if_pos, if_neg, xp_same, xp_other, xp_us, xp_un, ne_eq, not_false_eq_true, Option.bind_some, Option.bind, xl_0, xl_1, xl_2, xl_3, xl_4, xl_5, xl_6, xl_7, xl_8, xl_9, xl_10, xl_11, xl_12, xl_13, xl_15, xl_16, xl_30, xl_31, xl_32, xl_37, xl_40, xl_44, xl_48, xl_50, xl_51, xl_52, xl_53, xl_54, xl_55, xl_57, xl_59, xl_63, xl_64, xl_99, xl_100, xl_108, xl_110, xl_115, xl_200, xl_201, xl_220, xl_240, xl_255, xl_512, xl_65536, xl_90000, xl_999999, xl_1000000]
theorem xe_grow {σ : xr_S} {c s d g : Nat} {w : Nat → Nat → Nat} (h : xq_W σ (c + 1) w) (hs : s < 6) (hd : d < 5) (hg : g ≤ 5) : xf_X9_grow σ c (nI s) (nI d) (nI g) = some (bI (decide (xs_gr (w s d) g ≠ w s d)), xr_up σ (c + 1) (s * 5 + d) (nI (xs_gr (w s d) g))) := by
  have b1 := h.2 s d
  have b2 := xs_gr_le (w s d) g
  have e0 : (if nI (w s d) + nI g < 9 then nI (w s d) + nI g else 9) = nI (xs_gr (w s d) g) := by
    rw [nI_add]
    unfold xs_gr
    by_cases hc : w s d + g < 9
    · rw [if_pos (show nI (w s d + g) < 9 from nI_lt (b := 9) hc (by decide)), if_pos (by omega)]
    · rw [if_neg (show ¬ nI (w s d + g) < 9 from nI_nlt (b := 9) (by omega) (by omega))]
      by_cases hc2 : w s d + g ≤ 9
      · rw [if_pos hc2, show w s d + g = 9 by omega]; rfl
      · rw [if_neg hc2]; rfl
  unfold xf_X9_grow
  rw [xe_of h hs hd]
  simp only [Option.bind_some, xp_v, e0, xe_put hs hd]
  by_cases hq : xs_gr (w s d) g = w s d
  · rw [if_pos (by rw [hq])]
    simp [hq, bI]; rfl
  · rw [if_neg (by rw [xp_eq (by omega) (by omega)]; exact hq)]
    simp [hq, bI]; rfl
theorem xe_grows {σ : xr_S} {b s d g : Nat} {w : Nat → Nat → Nat} (h : xq_V σ b w) (hb : b ≤ 165) (hs : s < 6) (hd : d < 5) (hg : σ.1 49 3 = nI g) (hg5 : g ≤ 5) : xf_X11_grows σ (nI b) (nI s) (nI d) = some (xr_up σ 50 (b + 5 * s + d) (nI (xs_gr (w s d) g))) := by
  have b1 := h.2 s d
  unfold xf_X11_grows
  rw [xe_weightOf h hb hs hd, hg]
  simp (disch := omega) only [↓xp_n1, ↓reduceIte, xp_oIs, xp_v, xp_jn, xp_pf, xp_ld, xp_st, xp_le, xp_lt, xp_eq, nI_add, pk_mul, if_pos, if_neg, xp_same, xp_other, xp_us, xp_un, ne_eq, not_false_eq_true, Option.bind_some, Option.bind, xl_0, xl_1, xl_2, xl_3, xl_4, xl_5, xl_6, xl_7, xl_8, xl_9, xl_10, xl_11, xl_12, xl_13, xl_15, xl_16, xl_30, xl_31, xl_32, xl_37, xl_40, xl_44, xl_48, xl_50, xl_51, xl_52, xl_53, xl_54, xl_55, xl_57, xl_59, xl_63, xl_64, xl_99, xl_100, xl_108, xl_110, xl_115, xl_200, xl_201, xl_220, xl_240, xl_255, xl_512, xl_65536, xl_90000, xl_999999, xl_1000000, Nat.add_zero]
  unfold xs_gr
  by_cases hc : w s d + g ≤ 9
  · rw [if_pos hc, if_pos hc]
  · rw [if_neg hc, if_neg hc]
theorem A_W {t : xa_T} {a : xa_A} {s d v : Nat} (h : xi_A t a) (hv : v ≤ 9) (hd : d < tN t) (hge : qW a s d ≤ v) : xi_A t (sW a s d v) := by
  obtain ⟨a1, a2, a3, a4, a5, a6, a7, a8, a9, a10⟩ := h
  refine ⟨fun i j => ?_, fun i j hj => ?_, fun i hi => ?_, a4, a5, a6, a7, a8, a9, a10⟩
  · simp only [qW, sW]
    split
    · exact hv
    · exact a1 i j
  · simp only [qW, sW]
    rw [if_neg (by omega)]
    exact a2 i j hj
  · have key : ∀ n, xs_sum (qW a i) n ≤ xs_sum (qW (sW a s d v) i) n := by
      intro n
      induction n with
      | zero => simp [xs_sum]
      | succ n ih =>
        simp only [xs_sum]
        have : qW a i n ≤ qW (sW a s d v) i n := by
          simp only [qW, sW]
          split
          next hc => obtain ⟨rfl, rfl⟩ := hc; exact hge
          next => exact Nat.le_refl _
        omega
    have := a3 i hi
    have := key 5
    omega
theorem xs_gr_ge {v g : Nat} (hv : v ≤ 9) : v ≤ xs_gr v g := by unfold xs_gr; split <;> omega
/-- a loaf eaten -/
def xs_eat1 (t : xa_T) (a : xa_A) (l d : Nat) : xa_A := if (qS a).testBit l then a else sW a (tE t l) d (xs_gr (qW a (tE t l) d) (tG t))
def xs_earn (t : xa_T) (a : xa_A) (l d : Nat) : Nat := if d = tW t l then (if qE a + tV t l ≤ 999999 then qE a + tV t l else 999999) else qE a
def xs_eat (t : xa_T) (a : xa_A) (l d : Nat) : xa_A := sS (sT (sE (xs_eat1 t a l d) (xs_earn t a l d)) l none) (xs_clr (qS a) l)
theorem A_eat {t : xa_T} {a : xa_A} {l d : Nat} (hA : xi_A t a) (hd : d < tN t) : xi_A t (xs_eat t a l d) := by
  have h1 : xi_A t (xs_eat1 t a l d) := by
    unfold xs_eat1
    split
    · exact hA
    · exact A_W hA (xs_gr_le _ _) hd (xs_gr_ge (hA.1 _ _))
  refine A_S (A_T (A_E h1 ?_) (fun d hd => by cases hd)) (xs_clr_lt hA.2.2.2.2.2.2.1)
  unfold xs_earn
  have := hA.2.2.2.2.2.2.2.2.1
  split
  · split <;> omega
  · exact this
theorem xe_consume {σ : xr_S} {t : xa_T} {a : xa_A} {l d : Nat} (hT : xi_T t) (hA : xi_A t a) (hc : xi_Tc σ t) (hC : xi_C σ 15 a) (hl : l < tL t) (hd : qT a l = some d) : ∃ τ, xf_X5_consume σ (nI l) = some τ ∧ xi_C τ 15 (xs_eat t a l d) ∧ ∀ c, (49 ≤ c ∨ xi_free c = false) → τ.1 c = σ.1 c := by
  obtain ⟨n1, n2, n3, n4, n5, n6, n7⟩ := id hT
  obtain ⟨p1, p2, p3, p4, p5, p6, p7, p8⟩ := id hC
  obtain ⟨g1, g2, g3⟩ := hc.2.2.2.2.2 l hl
  obtain ⟨k1, k2, k3⟩ := n7 l hl
  have hb := xi_bounds hT hA
  have hdN := (hA.2.2.2.2.2.1 l d hd).2
  have hE := hA.2.2.2.2.2.2.2.2.1
  have hts : σ.1 19 l = nI d := by have := p3 l (by omega); rw [hd] at this; exact this
  -- first: the eater's weight
  obtain ⟨σa, ha1, ha2, ha3⟩ : ∃ σa, (∀ K : xr_S → Option xr_S, (if (((σ.1 15 3) >>> (nI l &&& 31)) &&& 1) = 0 then (xr_ld σ 12 7 (nI l) (fun v11 => xr_ld σ 19 7 (nI l) (fun v12 => (xf_X9_grow σ 16 v11 v12 (σ.1 9 1)).bind (fun p13 => K p13.2)))) else (K σ)) = K σa) ∧ xi_C σa 15 (xs_eat1 t a l d) ∧ ∀ c, c ≠ 17 → σa.1 c = σ.1 c := by
    have hbit : ((σ.1 15 3) >>> (nI l &&& 31)) &&& 1 = bI ((qS a).testBit l) := by
      rw [p4]; exact xp_bitb (by omega) (by omega)
    unfold xs_eat1
    cases hsb : (qS a).testBit l with
    | true =>
      refine ⟨σ, fun K => ?_, hC, fun _ _ => rfl⟩
      rw [hbit, hsb, if_neg (by decide)]
    | false =>
      refine ⟨xr_up σ 17 (tE t l * 5 + d) (nI (xs_gr (qW a (tE t l) d) (tG t))), fun K => ?_, C_W (by omega) (by omega) hC, fun c h => xp_other h⟩
      rw [hbit, hsb, if_pos (by decide), xp_ld (by omega) (by omega), xp_ld (by omega) (by omega), g1, hts, hc.2.1, xe_grow (c := 16) (xi_W hA hC) (by omega) (by omega) n2]
      rfl
  obtain ⟨q1, q2, q3, q4, q5, q6, q7, q8⟩ := id ha2
  have r19 : σa.1 19 l = nI d := by rw [ha3 19 (by decide)]; exact hts
  have r13 : σa.1 13 l = nI (tW t l) := by rw [ha3 13 (by decide)]; exact g2
  have r14 : σa.1 14 l = nI (tV t l) := by rw [ha3 14 (by decide)]; exact g3
  have r6 : σa.1 15 6 = nI (qE a) := by rw [ha3 15 (by decide)]; exact p7
  obtain ⟨σb, hb1, hb2, hb3⟩ : ∃ σb, (∀ K : xr_S → Option xr_S, (if nI d = nI (tW t l) then (xr_ld σa 14 7 (nI l) (fun v9 => xr_pf σa 15 6 (if ((σa.1 15 6) + v9) < 999999 then ((σa.1 15 6) + v9) else 999999) (fun s10 => K s10))) else (K σa)) = K σb) ∧ xi_C σb 15 (sE (xs_eat1 t a l d) (xs_earn t a l d)) ∧ ∀ c, c ≠ 15 → σb.1 c = σa.1 c := by
    unfold xs_earn
    by_cases hw : d = tW t l
    · refine ⟨xr_up σa 15 6 (nI (if qE a + tV t l ≤ 999999 then qE a + tV t l else 999999)), fun K => ?_, by rw [if_pos hw]; exact C_E ha2, fun c h => xp_other h⟩
      rw [if_pos (by rw [hw]), xp_ld (by omega) (by omega), xp_pf, r14, r6, nI_add]
      congr 2
      by_cases hc1 : qE a + tV t l < 999999
      · rw [if_pos (show nI (qE a + tV t l) < 999999 from nI_lt (b := 999999) hc1 (by decide)), if_pos (by omega)]
      · rw [if_neg (show ¬ nI (qE a + tV t l) < 999999 from nI_nlt (b := 999999) (by omega) (by omega))]
        by_cases hc2 : qE a + tV t l ≤ 999999
        · rw [if_pos hc2, show qE a + tV t l = 999999 by omega]; rfl
        · rw [if_neg hc2]; rfl
    · refine ⟨σa, fun K => ?_, ?_, fun _ _ => rfl⟩
      · rw [if_neg (by rw [xp_eq (by omega) (by omega)]; exact hw)]
      · rw [if_neg hw]
        have hqE : qE (xs_eat1 t a l d) = qE a := by unfold xs_eat1; split <;> rfl
        exact ⟨q1, q2, q3, q4, q5, q6, by rw [r6]; rfl, q8⟩
  have hS : σb.1 15 3 = nI (qS a) := by
    have := hb2.2.2.2.1
    rw [this]
    have : qS (sE (xs_eat1 t a l d) (xs_earn t a l d)) = qS a := by
      show qS (xs_eat1 t a l d) = qS a
      unfold xs_eat1; split <;> rfl
    rw [this]
  refine ⟨xr_up (xr_up σb 19 l (oI none)) 15 3 (nI (xs_clr (qS a) l)), ?_, C_S (C_T (o := none) hb2), fun c h => ?_⟩
  · unfold xf_X5_consume
    rw [xp_jn]
    refine (ha1 (fun (w1 : xr_S) => xr_ld w1 19 7 (nI l) (fun v3 => xr_ld w1 13 7 (nI l) (fun v4 => xr_jn (fun (w5 : xr_S) => xr_st w5 19 7 (nI l) (-1) (fun s7 => xr_pf s7 15 3 ((s7.1 15 3) &&& (((1 : Int32) <<< (nI l &&& 31)) ^^^ (-1))) (fun s8 => some s8))) (fun j6 => if v3 = v4 then (xr_ld w1 14 7 (nI l) (fun v9 => xr_pf w1 15 6 (if ((w1.1 15 6) + v9) < 999999 then ((w1.1 15 6) + v9) else 999999) (fun s10 => j6 s10))) else (j6 w1)))))).trans ?_
    rw [xp_ld (by omega) (by omega), xp_ld (by omega) (by omega), r19, r13, xp_jn]
    refine (hb1 (fun (w5 : xr_S) => xr_st w5 19 7 (nI l) (-1) (fun s7 => xr_pf s7 15 3 ((s7.1 15 3) &&& (((1 : Int32) <<< (nI l &&& 31)) ^^^ (-1))) (fun s8 => some s8)))).trans ?_
    rw [xp_st (by omega) (by omega), xp_pf, xp_other (by decide), hS, xp_clrL (by omega)]
    rfl
  · have hne : c ≠ 15 ∧ c ≠ 17 ∧ c ≠ 19 := by
      refine ⟨fun e => ?_, fun e => ?_, fun e => ?_⟩ <;> (subst e; rcases h with h | h <;> revert h <;> decide)
    rw [xp_other hne.1, xp_other hne.2.2, hb3 c hne.1, ha3 c hne.2.1]

theorem xy_eat {σ : xr_S} (h : xi σ) (x : Int32) : xi_ok σ (xf_X10_eat σ x) (fun τ => xf_X11_eat τ x) := by
  obtain ⟨t, a, hI⟩ := h
  obtain ⟨hT, hA, hc, hm, hC, hM, -⟩ := id hI
  obtain ⟨n1, n2, n3, n4, n5, n6, n7⟩ := id hT
  have hb := xi_bounds hT hA
  cases hl : xs_inr x (tL t) with
  | false =>
    refine ⟨-1000000001, σ, σ, ?_, ?_, ⟨t, a, hI⟩⟩
    · unfold xf_X10_eat; rw [xe_hasLoaf hc.2.2.2.1, hl]; rfl
    · show xf_X11_eat _ _ = _
      unfold xf_X11_eat; rw [xe_isLoaf hm.2.2.2.1 (by omega), hl]; rfl
  | true =>
    obtain ⟨l, hl1, rfl⟩ := xs_inr_t (by omega) hl
    have e1 := xe_isFresh (hC.2.2.1 l (by omega)) (hb.2.1 l) (show l < 7 by omega)
    cases hd : qT a l with
    | none =>
      refine ⟨-1000000003, σ, σ, ?_, ?_, ⟨t, a, hI⟩⟩
      · unfold xf_X10_eat; rw [xe_hasLoaf hc.2.2.2.1, hl, e1, hd]; rfl
      · show xf_X11_eat _ _ = _
        unfold xf_X11_eat; rw [xe_isLoaf hm.2.2.2.1 (by omega), hl, xe_isFreshM ((xi_M0 hM).2.2.1 l (by omega)) (hb.2.1 l) (show l < 7 by omega), hd]; rfl
    | some d =>
      have hdN := (hA.2.2.2.2.2.1 l d hd).2
      have hE := hA.2.2.2.2.2.2.2.2.1
      obtain ⟨k1, k2, k3⟩ := n7 l hl1
      obtain ⟨σ1, s1, s2, s3⟩ := xe_consume hT hA hc hC hl1 hd
      have ff : ∀ c, 49 ≤ c → σ1.1 c = σ.1 c := fun c h => s3 c (Or.inl h)
      have hm1 : xi_Tm σ1 t := xi_Tm_fr hm ff
      have hM1 : xi_M σ1 0 a := xi_M_fr hM (ff 50 (by decide))
      obtain ⟨o1, o2, o3, o4, o5, o6, o7, o8⟩ := xi_M0 hM1
      obtain ⟨i1, i2, i3⟩ := hm1.2.2.2.2.2 l hl1
      -- the eater's weight
      obtain ⟨σa, ha1, ha2, ha3⟩ : ∃ σa, (∀ K : xr_S → Option (Int32 × xr_S), (if bI ((qS a).testBit l) = 0 then ((xf_X11_grows σ1 0 (σ1.1 52 l) (nI d)).bind (fun s20 => K s20)) else (K σ1)) = K σa) ∧ xi_M σa 0 (xs_eat1 t a l d) ∧ (∀ c, c ≠ 50 → σa.1 c = σ1.1 c) ∧ ∀ k, 110 ≤ k → σa.1 50 k = σ1.1 50 k := by
        unfold xs_eat1
        cases hsb : (qS a).testBit l with
        | true => exact ⟨σ1, fun K => by rw [if_neg (by decide)], hM1, fun _ _ => rfl, fun _ _ => rfl⟩
        | false =>
          refine ⟨xr_up σ1 50 (5 * tE t l + d) (nI (xs_gr (qW a (tE t l) d) (tG t))), fun K => ?_, M_W (by omega) (by omega) hM1, fun c h => xp_other h, fun k hk => by rw [xp_same, xp_un (by omega)]⟩
          rw [if_pos (by decide), i1, xl_0, xe_grows (xi_V hA hM1) (by omega) (by omega) (by omega) hm1.2.1 n2, Nat.zero_add]
          rfl
      have r53 : σa.1 50 53 = nI (qE a) := by
        have := (xi_M0 ha2).2.2.2.2.2.2.1
        rw [this]
        unfold xs_eat1; split <;> rfl
      have i2' : σa.1 53 l = nI (tW t l) := by rw [ha3.1 53 (by decide)]; exact i2
      have i3' : σa.1 54 l = nI (tV t l) := by rw [ha3.1 54 (by decide)]; exact i3
      have hsum : (if qE a + (if d = tW t l then tV t l else 0) ≤ 999999 then qE a + (if d = tW t l then tV t l else 0) else 999999) = xs_earn t a l d := by
        unfold xs_earn
        by_cases hw : d = tW t l
        · rw [if_pos hw, if_pos hw]
        · rw [if_neg hw, if_neg hw, Nat.add_zero, if_pos hE]
      have hle : xs_earn t a l d ≤ 999999 := (A_eat hA hdN).2.2.2.2.2.2.2.2.1
      refine ⟨nI (xs_earn t a l d), σ1, xr_up (xr_up (xr_up σa 50 53 (nI (xs_earn t a l d))) 50 (37 + l) (oI none)) 50 (44 + l) (bI false), ?_, ?_, xi_ofI (xi_two hI s3 (fun c h => ?_) (fun k hk => ?_) (A_eat hA hdN) s2 ?_)⟩
      · unfold xf_X10_eat
        rw [xe_hasLoaf hc.2.2.2.1, hl, e1, hd, s1]
        have : σ1.1 15 6 = nI (xs_earn t a l d) := s2.2.2.2.2.2.2.1
        simp only [bI_t, Option.bind_some, show ¬ nI 1 = 0 from by decide, if_false, Option.isNone_some, bI_f, show (nI 0 = 0) from rfl, if_true, this]
      · show xf_X11_eat _ _ = _
        unfold xf_X11_eat
        rw [xe_isLoaf hm1.2.2.2.1 (by omega), hl, xe_isFreshM (o3 l (by omega)) (hb.2.1 l) (show l < 7 by omega), hd]
        simp (disch := omega) only [bI_t, Option.bind_some, show ¬ nI 1 = 0 from by decide, if_false, Option.isNone_some, bI_f, show (nI 0 = 0) from rfl, if_true, xl_37, xl_44, nI_add, xp_ld, o3 l (by omega), o4 l (by omega), hd, xp_oIs]
        rw [xp_jn]
        refine (ha1 _).trans ?_
        simp (disch := omega) only [xl_53, xp_ld, r53, i2', i3', xp_jn, xp_v, xp_eq]
        have fin : ∀ v : Nat, v = (if d = tW t l then tV t l else 0) → (if nI (qE a) + nI v ≤ 999999 then xr_st σa 50 220 (nI 53) (nI (qE a) + nI v) (fun s14 => xr_st s14 50 220 (nI (37 + l)) (-1) (fun s15 => xr_st s15 50 220 (nI (44 + l)) 0 (fun s16 => some (s16.1 50 53, s16)))) else xr_st σa 50 220 (nI 53) 999999 (fun s14 => xr_st s14 50 220 (nI (37 + l)) (-1) (fun s15 => xr_st s15 50 220 (nI (44 + l)) 0 (fun s16 => some (s16.1 50 53, s16))))) = some (nI (xs_earn t a l d), xr_up (xr_up (xr_up σa 50 53 (nI (xs_earn t a l d))) 50 (37 + l) (oI none)) 50 (44 + l) (bI false)) := by
          intro v hv
          have hvl : v ≤ 99 := by rw [hv]; split <;> omega
          rw [← hv] at hsum
          have step : ∀ w : Int32, xr_st σa 50 220 (nI 53) w (fun s14 => xr_st s14 50 220 (nI (37 + l)) (-1) (fun s15 => xr_st s15 50 220 (nI (44 + l)) 0 (fun s16 => some (s16.1 50 53, s16)))) = some (w, xr_up (xr_up (xr_up σa 50 53 w) 50 (37 + l) (-1)) 50 (44 + l) 0) := by
            intro w
            rw [xp_st (by omega) (by omega), xp_st (by omega) (by omega), xp_st (by omega) (by omega), xp_same, xp_un (by omega), xp_same, xp_un (by omega), xp_same, xp_us]
          rw [step, step, nI_add]
          by_cases hc1 : qE a + v ≤ 999999
          · rw [if_pos (show nI (qE a + v) ≤ 999999 from nI_le (b := 999999) hc1 (by decide))]
            rw [if_pos hc1] at hsum
            rw [hsum]; rfl
          · rw [if_neg (show ¬ nI (qE a + v) ≤ 999999 from nI_ge (a := 999999) (by omega) (by omega))]
            rw [if_neg hc1] at hsum
            rw [← hsum]; rfl
        by_cases hw : d = tW t l
        · rw [if_pos hw]; exact fin _ (by rw [if_pos hw])
        · rw [if_neg hw]; exact fin 0 (by rw [if_neg hw])
      · have hne : c ≠ 50 := fun e => by subst e; rcases h with h | h <;> revert h <;> decide
        rw [xp_other hne, xp_other hne, xp_other hne, ha3.1 c hne]
      · rw [xp_same, xp_un (by omega), xp_same, xp_un (by omega), xp_same, xp_un (by omega), ha3.2 k hk]
      · refine M_S (by omega) (fun k hk => ?_) (M_T (o := none) (by omega) (M_E ha2))
        rw [xs_clr_bit]
        have : qS (sT (sE (xs_eat1 t a l d) (xs_earn t a l d)) l none) = qS a := by
          show qS (xs_eat1 t a l d) = qS a
          unfold xs_eat1; split <;> rfl
        rw [this]
        by_cases hkl : k = l
        · subst hkl; simp
        · simp [hkl, Ne.symm hkl]
