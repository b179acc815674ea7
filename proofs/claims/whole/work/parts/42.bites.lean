/-! bites: parts -/
def xs_part (w : Nat → Nat → Nat) (f : Nat → Nat) (s : Nat) : Nat → Nat
  | 0 => 1000000000
  | k + 1 => xs_part w f s k * w s (f k) / xs_sum (w s) 5
theorem xs_sum_ge {g : Nat → Nat} {d : Nat} : ∀ n, d < n → g d ≤ xs_sum g n := by
  intro n
  induction n with
  | zero => intro h; omega
  | succ n ih =>
    intro h
    simp only [xs_sum]
    by_cases hh : d = n
    · subst hh; omega
    · have := ih (by omega); omega
theorem xs_part_le {w : Nat → Nat → Nat} {f : Nat → Nat} {s : Nat} : ∀ n, (∀ k, k < n → f k < 5) → xs_part w f s n ≤ 1000000000 := by
  intro n
  induction n with
  | zero => intro _; simp [xs_part]
  | succ n ih =>
    intro h
    have h1 := ih (fun k hk => h k (by omega))
    simp only [xs_part]
    have h2 : w s (f n) ≤ xs_sum (w s) 5 := xs_sum_ge 5 (h n (by omega))
    calc xs_part w f s n * w s (f n) / xs_sum (w s) 5 ≤ xs_part w f s n * xs_sum (w s) 5 / xs_sum (w s) 5 := Nat.div_le_div_right (Nat.mul_le_mul_left _ h2)
      _ ≤ xs_part w f s n := by
          by_cases hz : xs_sum (w s) 5 = 0
          · rw [hz]; simp
          · rw [Nat.mul_div_cancel _ (by omega)]; exact Nat.le_refl _
      _ ≤ 1000000000 := h1
theorem xe_partC {σ : xr_S} {t : xa_T} {a : xa_A} {n s : Nat} {f : Nat → Nat} (hT : xi_T t) (hA : xi_A t a) (hC : xi_C σ 15 a) (hB : xi_B σ t n f) (hs : s < tS t) : xf_X1_partOf σ (nI s) = some (lN (xs_part (qW a) f s n)) := by
  obtain ⟨n1, n2, n3, n4, n5, n6, n7⟩ := id hT
  obtain ⟨b1, b2, b3, b4⟩ := hB
  have hsum := hA.2.2.1 s hs
  have hsl := xs_sum_le (hA.1 s) 5
  unfold xf_X1_partOf
  rw [xe_all (c := 16) (xi_W hA hC) (show s < 6 by omega)]
  simp (disch := omega) only [Option.bind_some, xl_0, xp_lt, if_pos]
  refine xp_iter (fun k => (lN (xs_part (qW a) f s k), nI k)) 0 n rfl (fun j h1 h2 rec => ?_) (fun rec => ?_)
  · have hf := (b4 j (by omega)).2.2
    have hp := xs_part_le (w := qW a) (f := f) (s := s) j (fun k hk => by have := (b4 k (by omega)).2.2; omega)
    have hw := hA.1 s (f j)
    have e1 := xe_of (c := 16) (xi_W hA hC) (show s < 6 by omega) (show f j < 5 by omega)
    have hmul : xs_part (qW a) f s j * qW a s (f j) ≤ 1000000000 * 9 := Nat.mul_le_mul hp hw
    simp (disch := omega) only [xf_X1_partOf_L20, b2, xp_le, if_neg, xp_ld, (b4 j (by omega)).1, e1, Option.bind_some, xp_v, xl_1, nI_add]
    rw [nI_l (by omega), nI_l (by omega), lN_mul, xp_nl (fun h => by
      have := (pk_lEQ (a := xs_sum (qW a s) 5) (b := 0) (by omega) (by omega)).mp h
      omega), pk_lDiv (by omega) (by omega) (by omega)]
    rfl
  · simp (disch := omega) only [xf_X1_partOf_L20, b2, Nat.zero_add, xp_le, if_pos]
theorem xe_partM {σ : xr_S} {t : xa_T} {a : xa_A} {n s : Nat} {f : Nat → Nat} (hT : xi_T t) (hA : xi_A t a) (hm : xi_Tm σ t) (hM : xi_M σ 0 a) (hB : xi_B σ t n f) (hs : s < tS t) : xf_X11_partOf σ (nI s) = some (lN (xs_part (qW a) f s n)) := by
  obtain ⟨n1, n2, n3, n4, n5, n6, n7⟩ := id hT
  obtain ⟨b1, b2, b3, b4⟩ := hB
  have hsum := hA.2.2.1 s hs
  have hsl := xs_sum_le (hA.1 s) 5
  have e0 := xe_allOf (xi_V hA hM) (by omega) (show s < 6 by omega) hm.1 n1
  rw [xi_sum hA hT] at e0
  unfold xf_X11_partOf
  refine xp_iter (fun k => (lN (xs_part (qW a) f s k), nI k)) 0 n rfl (fun j h1 h2 rec => ?_) (fun rec => ?_)
  · have hf := (b4 j (by omega)).2.2
    have hp := xs_part_le (w := qW a) (f := f) (s := s) j (fun k hk => by have := (b4 k (by omega)).2.2; omega)
    have hw := hA.1 s (f j)
    have e1 := xe_weightOf (xi_V hA hM) (by omega) (show s < 6 by omega) (show f j < 5 by omega)
    have hmul : xs_part (qW a) f s j * qW a s (f j) ≤ 1000000000 * 9 := Nat.mul_le_mul hp hw
    simp (disch := omega) only [xf_X11_partOf_L7, b3, xp_le, if_neg, xp_ld, (b4 j (by omega)).2.1, xl_0, e1, e0, Option.bind_some, xp_v, xl_1, nI_add]
    rw [nI_l (by omega), nI_l (by omega), lN_mul, xp_nl (fun h => by
      have := (pk_lEQ (a := xs_sum (qW a s) 5) (b := 0) (by omega) (by omega)).mp h
      omega), pk_lDiv (by omega) (by omega) (by omega)]
    rfl
  · simp (disch := omega) only [xf_X11_partOf_L7, b3, Nat.zero_add, xp_le, if_pos]
def xs_who (P : Nat → Int64) : Nat → Int32 × Int64
  | 0 => (-1, 0)
  | k + 1 => if lg_cmp (P k) (xs_who P k).2 ≤ 0 then xs_who P k else (nI k, P k)
theorem xy_whose {σ : xr_S} (h : xi σ) : ∃ r, xf_X10_whose σ = some r ∧ xf_X11_whose σ = some r := by
  obtain ⟨t, a, hT, hA, hc, hm, hC, hM, -, -, ⟨n, f, hB⟩, -⟩ := h
  obtain ⟨n1, n2, n3, n4, n5, n6, n7⟩ := id hT
  refine ⟨(xs_who (fun s => lN (xs_part (qW a) f s n)) (tS t)).1, ?_, ?_⟩
  · unfold xf_X10_whose xf_X1_greatest
    have e : xr_lw (xf_X1_greatest_L8 σ (fun e3 => some e3)) (-1, 0, 0) = some (xs_who (fun s => lN (xs_part (qW a) f s n)) (tS t)).1 := by
      refine xp_iter (fun k => ((xs_who (fun s => lN (xs_part (qW a) f s n)) k).1, (xs_who (fun s => lN (xs_part (qW a) f s n)) k).2, nI k)) 0 (tS t) rfl (fun j h1 h2 rec => ?_) (fun rec => ?_)
      · simp (disch := omega) only [xf_X1_greatest_L8, hc.2.2.1, xp_le, if_neg, xe_partC hT hA hC hB (show j < tS t by omega), Option.bind_some, xp_jn, xl_1, nI_add, xs_who]
        by_cases c : lg_cmp (lN (xs_part (qW a) f j n)) (xs_who (fun s => lN (xs_part (qW a) f s n)) j).2 ≤ 0
        · rw [if_pos c, if_pos c]
        · rw [if_neg c, if_neg c]
      · simp (disch := omega) only [xf_X1_greatest_L8, hc.2.2.1, Nat.zero_add, xp_le, if_pos]
    rw [e]; rfl
  · unfold xf_X11_whose
    refine xp_iter (fun k => ((xs_who (fun s => lN (xs_part (qW a) f s n)) k).1, (xs_who (fun s => lN (xs_part (qW a) f s n)) k).2, nI k)) 0 (tS t) rfl (fun j h1 h2 rec => ?_) (fun rec => ?_)
    · simp (disch := omega) only [xf_X11_whose_L7, hm.2.2.1, xp_le, if_neg, xe_partM hT hA hm hM hB (show j < tS t by omega), Option.bind_some, xp_jn, xl_1, nI_add, xs_who]
      by_cases c : lg_cmp (lN (xs_part (qW a) f j n)) (xs_who (fun s => lN (xs_part (qW a) f s n)) j).2 ≤ 0
      · simp only [if_pos c]
      · simp only [if_neg c]
    · simp (disch := omega) only [xf_X11_whose_L7, hm.2.2.1, Nat.zero_add, xp_le, if_pos]
theorem xy_howLikely {σ : xr_S} (h : xi σ) (x : Int32) : ∃ r, xf_X10_howLikely σ x = some r ∧ xf_X11_howLikely σ x = some r := by
  obtain ⟨t, a, hT, hA, hc, hm, hC, hM, -, -, ⟨n, f, hB⟩, -⟩ := h
  obtain ⟨n1, n2, n3, n4, n5, n6, n7⟩ := id hT
  unfold xf_X10_howLikely xf_X11_howLikely
  rw [xe_hasSleeper hc.2.2.1, xe_isSleeper hm.2.2.1 (by omega)]
  cases hs : xs_inr x (tS t) with
  | false => exact ⟨_, rfl, rfl⟩
  | true =>
    obtain ⟨s, hs1, rfl⟩ := xs_inr_t (by omega) hs
    have hpl : ∀ k, xs_part (qW a) f k n ≤ 1000000000 := fun k => xs_part_le n (fun i hi => by have := (hB.2.2.2 i hi).2.2; omega)
    have hl := xs_sum_le (g := fun k => xs_part (qW a) f k n) hpl (tS t)
    have e1 : ∀ K : Int64 → Option Int32, xr_lw (xf_X1_share_L6 σ K) (0, 0) = K (lN (xs_sum (fun k => xs_part (qW a) f k n) (tS t))) := by
      intro K
      refine xp_iter (fun k => (lN (xs_sum (fun k => xs_part (qW a) f k n) k), nI k)) 0 (tS t) rfl (fun j h1 h2 rec => ?_) (fun rec => ?_)
      · simp (disch := omega) only [xf_X1_share_L6, hc.2.2.1, xp_le, if_neg, xe_partC hT hA hC hB (show j < tS t by omega), Option.bind_some, xp_v, xl_1, nI_add, lN_add, xs_sum]
      · simp (disch := omega) only [xf_X1_share_L6, hc.2.2.1, Nat.zero_add, xp_le, if_pos]
    have e2 : ∀ K : Int64 → Option Int32, xr_lw (xf_X11_howLikely_L16 σ K) (0, 0) = K (lN (xs_sum (fun k => xs_part (qW a) f k n) (tS t))) := by
      intro K
      refine xp_iter (fun k => (lN (xs_sum (fun k => xs_part (qW a) f k n) k), nI k)) 0 (tS t) rfl (fun j h1 h2 rec => ?_) (fun rec => ?_)
      · simp (disch := omega) only [xf_X11_howLikely_L16, hm.2.2.1, xp_le, if_neg, xe_partM hT hA hm hM hB (show j < tS t by omega), Option.bind_some, xp_v, xl_1, nI_add, lN_add, xs_sum]
      · simp (disch := omega) only [xf_X11_howLikely_L16, hm.2.2.1, Nat.zero_add, xp_le, if_pos]
    unfold xf_X1_share
    rw [e1, e2, xe_partC hT hA hC hB hs1, xe_partM hT hA hm hM hB hs1]
    simp only [bI_t, Option.bind_some, show ¬ nI 1 = 0 from by decide, if_false]
    have hle : lg_cmp (lN (xs_sum (fun k => xs_part (qW a) f k n) (tS t))) 0 ≤ 0 ↔ lg_cmp (lN (xs_sum (fun k => xs_part (qW a) f k n) (tS t))) 0 = 0 := by
      rw [lg_cmp_le, lg_cmp_eq]
      have h1 := pk_lLE (a := xs_sum (fun k => xs_part (qW a) f k n) (tS t)) (b := 0) (by omega) (by omega)
      have h2 := pk_lEQ (a := xs_sum (fun k => xs_part (qW a) f k n) (tS t)) (b := 0) (by omega) (by omega)
      exact h1.trans (by rw [show ((0 : Int64)) = lN 0 from rfl, h2]; omega)
    by_cases c : lg_cmp (lN (xs_sum (fun k => xs_part (qW a) f k n) (tS t))) 0 = 0
    · exact ⟨_, by rw [if_pos (hle.mpr c)]; rfl, by rw [if_pos c]⟩
    · rw [if_neg c, if_neg (fun h => c (hle.mp h))]
      have hne : ¬ lN (xs_sum (fun k => xs_part (qW a) f k n) (tS t)) = 0 := fun h => c ((lg_cmp_eq _ _).mpr h)
      rw [xp_nl hne]
      exact ⟨_, rfl, rfl⟩
theorem xe_dreamsAll {σ : xr_S} {t : xa_T} {a : xa_A} {n s : Nat} {f : Nat → Nat} (hT : xi_T t) (hA : xi_A t a) (hC : xi_C σ 15 a) (hB : xi_B σ t n f) (hs : s < tS t) : xf_X1_dreamsAll σ (nI s) = some (bI (xs_find (fun k => decide (qW a s (f k) = 0)) n).isNone) := by
  obtain ⟨n1, n2, n3, n4, n5, n6, n7⟩ := id hT
  obtain ⟨b1, b2, b3, b4⟩ := hB
  unfold xf_X1_dreamsAll
  refine xp_inv (Q := fun o => o = some (bI (xs_find (fun k => decide (qW a s (f k) = 0)) n).isNone)) (fun j t => t = nI j ∧ xs_find (fun k => decide (qW a s (f k) = 0)) j = none) n (fun j t hj hI => ?_) (fun t hI => ?_) 0 _ (by omega) ⟨rfl, rfl⟩
  · obtain ⟨rfl, hn⟩ := hI
    have hf := (b4 j hj).2.2
    have hw := hA.1 s (f j)
    have e1 := xe_of (c := 16) (xi_W hA hC) (show s < 6 by omega) (show f j < 5 by omega)
    by_cases hp : qW a s (f j) = 0
    · left
      refine ⟨some (nI 0), fun rec => ?_, ?_⟩
      · simp (disch := omega) only [xf_X1_dreamsAll_L2, ↓xp_n1, ↓reduceIte, xp_oIs, xp_v, xp_jn, xp_pf, xp_ld, xp_st, xp_le, xp_lt, xp_eq, nI_add, pk_mul, if_pos, if_neg, xp_same, xp_other, xp_us, xp_un, ne_eq, not_false_eq_true, Option.bind_some, Option.bind, xl_0, xl_1, xl_2, xl_3, xl_4, xl_5, xl_6, xl_7, xl_8, xl_9, xl_10, xl_11, xl_12, xl_13, xl_15, xl_16, xl_30, xl_31, xl_32, xl_37, xl_40, xl_44, xl_48, xl_50, xl_51, xl_52, xl_53, xl_54, xl_55, xl_57, xl_59, xl_63, xl_64, xl_99, xl_100, xl_108, xl_110, xl_115, xl_200, xl_201, xl_220, xl_240, xl_255, xl_512, xl_65536, xl_90000, xl_999999, xl_1000000, b2, (b4 j hj).1, e1, hp]
      · have : xs_find (fun k => decide (qW a s (f k) = 0)) n = some j := xs_find_some.mpr ⟨hj, by simpa using hp, fun i hi => xs_find_none.mp hn i hi⟩
        rw [this]; rfl
    · right
      refine ⟨nI (j + 1), ⟨rfl, ?_⟩, fun rec => ?_⟩
      · simp [xs_find, hn, hp]
      · simp (disch := omega) only [xf_X1_dreamsAll_L2, ↓xp_n1, ↓reduceIte, xp_oIs, xp_v, xp_jn, xp_pf, xp_ld, xp_st, xp_le, xp_lt, xp_eq, nI_add, pk_mul, if_pos, if_neg, xp_same, xp_other, xp_us, xp_un, ne_eq, not_false_eq_true, Option.bind_some, Option.bind, xl_0, xl_1, xl_2, xl_3, xl_4, xl_5, xl_6, xl_7, xl_8, xl_9, xl_10, xl_11, xl_12, xl_13, xl_15, xl_16, xl_30, xl_31, xl_32, xl_37, xl_40, xl_44, xl_48, xl_50, xl_51, xl_52, xl_53, xl_54, xl_55, xl_57, xl_59, xl_63, xl_64, xl_99, xl_100, xl_108, xl_110, xl_115, xl_200, xl_201, xl_220, xl_240, xl_255, xl_512, xl_65536, xl_90000, xl_999999, xl_1000000, b2, (b4 j hj).1, e1]
  · obtain ⟨rfl, hn⟩ := hI
    refine ⟨some (nI 1), fun rec => ?_, by rw [hn]; rfl⟩
    simp (disch := omega) only [xf_X1_dreamsAll_L2, ↓xp_n1, ↓reduceIte, xp_oIs, xp_v, xp_jn, xp_pf, xp_ld, xp_st, xp_le, xp_lt, xp_eq, nI_add, pk_mul, if_pos, if_neg, xp_same, xp_other, xp_us, xp_un, ne_eq, not_false_eq_true, Option.bind_some, Option.bind, xl_0, xl_1, xl_2, xl_3, xl_4, xl_5, xl_6, xl_7, xl_8, xl_9, xl_10, xl_11, xl_12, xl_13, xl_15, xl_16, xl_30, xl_31, xl_32, xl_37, xl_40, xl_44, xl_48, xl_50, xl_51, xl_52, xl_53, xl_54, xl_55, xl_57, xl_59, xl_63, xl_64, xl_99, xl_100, xl_108, xl_110, xl_115, xl_200, xl_201, xl_220, xl_240, xl_255, xl_512, xl_65536, xl_90000, xl_999999, xl_1000000, b2]
theorem xy_mayBe {σ : xr_S} (h : xi σ) : ∃ r, xf_X10_mayBe σ = some r ∧ xf_X11_mayBe σ = some r := by
  obtain ⟨t, a, hT, hA, hc, hm, hC, hM, -, -, ⟨n, f, hB⟩, -⟩ := h
  obtain ⟨n1, n2, n3, n4, n5, n6, n7⟩ := id hT
  obtain ⟨b1, b2, b3, b4⟩ := id hB
  obtain ⟨p, hp⟩ : ∃ p : Nat → Bool, p = fun s => (xs_find (fun k => decide (qW a s (f k) = 0)) n).isNone := ⟨_, rfl⟩
  refine ⟨nI (xs_bits p (tS t)), ?_, ?_⟩
  · unfold xf_X10_mayBe xf_X1_possible
    have e : xr_lw (xf_X1_possible_L5 σ (fun e3 => some e3)) (0, 0) = some (nI (xs_bits p (tS t))) := by
      refine xp_iter (fun k => (nI (xs_bits p k), nI k)) 0 (tS t) rfl (fun j h1 h2 rec => ?_) (fun rec => ?_)
      · have e1 := xe_dreamsAll hT hA hC hB (show j < tS t by omega)
        have e2 : p j = (xs_find (fun k => decide (qW a j (f k) = 0)) n).isNone := by rw [hp]
        rw [← e2] at e1
        simp (disch := omega) only [xf_X1_possible_L5, ↓xp_n1, ↓reduceIte, xp_oIs, xp_v, xp_jn, xp_pf, xp_ld, xp_st, xp_le, xp_lt, xp_eq, nI_add, pk_mul, if_pos, if_neg, xp_same, xp_other, xp_us, xp_un, ne_eq, not_false_eq_true, Option.bind_some, Option.bind, xl_0, xl_1, xl_2, xl_3, xl_4, xl_5, xl_6, xl_7, xl_8, xl_9, xl_10, xl_11, xl_12, xl_13, xl_15, xl_16, xl_30, xl_31, xl_32, xl_37, xl_40, xl_44, xl_48, xl_50, xl_51, xl_52, xl_53, xl_54, xl_55, xl_57, xl_59, xl_63, xl_64, xl_99, xl_100, xl_108, xl_110, xl_115, xl_200, xl_201, xl_220, xl_240, xl_255, xl_512, xl_65536, xl_90000, xl_999999, xl_1000000, hc.2.2.1, e1, xp_b0, xs_bits, xp_shl1 j (by omega), xp_or]
        cases p j <;> rfl
      · simp (disch := omega) only [xf_X1_possible_L5, ↓xp_n1, ↓reduceIte, xp_oIs, xp_v, xp_jn, xp_pf, xp_ld, xp_st, xp_le, xp_lt, xp_eq, nI_add, pk_mul, if_pos, if_neg, xp_same, xp_other, xp_us, xp_un, ne_eq, not_false_eq_true, Option.bind_some, Option.bind, xl_0, xl_1, xl_2, xl_3, xl_4, xl_5, xl_6, xl_7, xl_8, xl_9, xl_10, xl_11, xl_12, xl_13, xl_15, xl_16, xl_30, xl_31, xl_32, xl_37, xl_40, xl_44, xl_48, xl_50, xl_51, xl_52, xl_53, xl_54, xl_55, xl_57, xl_59, xl_63, xl_64, xl_99, xl_100, xl_108, xl_110, xl_115, xl_200, xl_201, xl_220, xl_240, xl_255, xl_512, xl_65536, xl_90000, xl_999999, xl_1000000, hc.2.2.1, Nat.zero_add]
    rw [e]; rfl
  · unfold xf_X11_mayBe
    refine xp_iter (fun k => (nI (xs_bits p k), nI k)) 0 (tS t) rfl (fun j h1 h2 rec => ?_) (fun rec => ?_)
    · have e1 : ∀ K : Int32 → Option Int32, xr_lw (xf_X11_mayBe_L17 σ (nI (xs_bits p j), nI j) K) (nI 1, nI 0) = K (bI (p j)) := by
        intro K
        rw [hp]
        refine xp_iter (fun k => (bI (xs_find (fun i => decide (qW a j (f i) = 0)) k).isNone, nI k)) 0 n rfl (fun i h3 h4 rec => ?_) (fun rec => ?_)
        · have hf := (b4 i (by omega)).2.2
          have hw := hA.1 j (f i)
          have e1 := xe_weightOf (xi_V hA hM) (by omega) (show j < 6 by omega) (show f i < 5 by omega)
          simp (disch := omega) only [xf_X11_mayBe_L17, ↓xp_n1, ↓reduceIte, xp_oIs, xp_v, xp_jn, xp_pf, xp_ld, xp_st, xp_le, xp_lt, xp_eq, nI_add, pk_mul, if_pos, if_neg, xp_same, xp_other, xp_us, xp_un, ne_eq, not_false_eq_true, Option.bind_some, Option.bind, xl_0, xl_1, xl_2, xl_3, xl_4, xl_5, xl_6, xl_7, xl_8, xl_9, xl_10, xl_11, xl_12, xl_13, xl_15, xl_16, xl_30, xl_31, xl_32, xl_37, xl_40, xl_44, xl_48, xl_50, xl_51, xl_52, xl_53, xl_54, xl_55, xl_57, xl_59, xl_63, xl_64, xl_99, xl_100, xl_108, xl_110, xl_115, xl_200, xl_201, xl_220, xl_240, xl_255, xl_512, xl_65536, xl_90000, xl_999999, xl_1000000, b3, (b4 i (by omega)).2.1, e1, xp_b0, xs_find]
          cases hh : xs_find (fun i => decide (qW a j (f i) = 0)) i with
          | some k => rfl
          | none =>
            by_cases hz : qW a j (f i) = 0
            · simp [hz, bI]
            · simp [hz, bI]
        · simp (disch := omega) only [xf_X11_mayBe_L17, ↓xp_n1, ↓reduceIte, xp_oIs, xp_v, xp_jn, xp_pf, xp_ld, xp_st, xp_le, xp_lt, xp_eq, nI_add, pk_mul, if_pos, if_neg, xp_same, xp_other, xp_us, xp_un, ne_eq, not_false_eq_true, Option.bind_some, Option.bind, xl_0, xl_1, xl_2, xl_3, xl_4, xl_5, xl_6, xl_7, xl_8, xl_9, xl_10, xl_11, xl_12, xl_13, xl_15, xl_16, xl_30, xl_31, xl_32, xl_37, xl_40, xl_44, xl_48, xl_50, xl_51, xl_52, xl_53, xl_54, xl_55, xl_57, xl_59, xl_63, xl_64, xl_99, xl_100, xl_108, xl_110, xl_115, xl_200, xl_201, xl_220, xl_240, xl_255, xl_512, xl_65536, xl_90000, xl_999999, xl_1000000, b3, Nat.zero_add]
      simp (disch := omega) only [xf_X11_mayBe_L4, ↓xp_n1, ↓reduceIte, xp_oIs, xp_v, xp_jn, xp_pf, xp_ld, xp_st, xp_le, xp_lt, xp_eq, nI_add, pk_mul, if_pos, if_neg, xp_same, xp_other, xp_us, xp_un, ne_eq, not_false_eq_true, Option.bind_some, Option.bind, xl_0, xl_1, xl_2, xl_3, xl_4, xl_5, xl_6, xl_7, xl_8, xl_9, xl_10, xl_11, xl_12, xl_13, xl_15, xl_16, xl_30, xl_31, xl_32, xl_37, xl_40, xl_44, xl_48, xl_50, xl_51, xl_52, xl_53, xl_54, xl_55, xl_57, xl_59, xl_63, xl_64, xl_99, xl_100, xl_108, xl_110, xl_115, xl_200, xl_201, xl_220, xl_240, xl_255, xl_512, xl_65536, xl_90000, xl_999999, xl_1000000, hm.2.2.1, e1, xp_b0, xs_bits, xp_shl1 j (by omega), xp_or]
      cases p j
      · simp
      · rfl
    · simp (disch := omega) only [xf_X11_mayBe_L4, ↓xp_n1, ↓reduceIte, xp_oIs, xp_v, xp_jn, xp_pf, xp_ld, xp_st, xp_le, xp_lt, xp_eq, nI_add, pk_mul, if_pos, if_neg, xp_same, xp_other, xp_us, xp_un, ne_eq, not_false_eq_true, Option.bind_some, Option.bind, xl_0, xl_1, xl_2, xl_3, xl_4, xl_5, xl_6, xl_7, xl_8, xl_9, xl_10, xl_11, xl_12, xl_13, xl_15, xl_16, xl_30, xl_31, xl_32, xl_37, xl_40, xl_44, xl_48, xl_50, xl_51, xl_52, xl_53, xl_54, xl_55, xl_57, xl_59, xl_63, xl_64, xl_99, xl_100, xl_108, xl_110, xl_115, xl_200, xl_201, xl_220, xl_240, xl_255, xl_512, xl_65536, xl_90000, xl_999999, xl_1000000, hm.2.2.1, Nat.zero_add]
