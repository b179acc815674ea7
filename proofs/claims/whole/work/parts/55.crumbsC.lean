/-! crumbs: the class -/
theorem xp_forX {S β γ : Type} {body : (γ → Option β) → S → (S → Option β) → Option β} (P : Nat → S → Prop) (R : γ → Prop) (n : Nat) (hs : ∀ j s, j < n → P j s → (∃ g, R g ∧ ∀ K rec, body K s rec = K g) ∨ ∃ s', P (j + 1) s' ∧ ∀ K rec, body K s rec = rec s') (he : ∀ s, P n s → ∃ g, R g ∧ ∀ K rec, body K s rec = K g) : ∀ (d k : Nat), k + d = n → ∀ s, P k s → ∃ g, R g ∧ ∀ K, xr_lw (body K) s = K g := by
  intro d
  induction d with
  | zero =>
    intro k hk s h0
    have hk' : k = n := by omega
    subst hk'
    obtain ⟨g, h1, h2⟩ := he s h0
    refine ⟨g, h1, fun K => ?_⟩
    refine xr_lw_eq 1 (fun m hm => ?_)
    obtain ⟨m, rfl⟩ : ∃ i, m = i + 1 := ⟨m - 1, by omega⟩
    exact h2 K _
  | succ d ih =>
    intro k hk s h0
    rcases hs k s (by omega) h0 with ⟨g, h1, h2⟩ | ⟨s1, h1, h2⟩
    · refine ⟨g, h1, fun K => ?_⟩
      refine xr_lw_eq 1 (fun m hm => ?_)
      obtain ⟨m, rfl⟩ : ∃ i, m = i + 1 := ⟨m - 1, by omega⟩
      exact h2 K _
    · obtain ⟨g, h3, h4⟩ := ih (k + 1) (by omega) s1 h1
      exact ⟨g, h3, fun K => by rw [xp_open (h2 K)]; exact h4 K⟩
def xs_al (t : xa_T) (a : xa_A) (l s : Nat) : Bool := decide (s ≠ tE t l) && decide (0 < qW a s ((qT a l).getD 0))
theorem xe_bedsOf {σ : xr_S} {t : xa_T} {a : xa_A} {l : Nat} {o : Option Nat} (hT : xi_T t) (hA : xi_A t a) (hc : xi_Tc σ t) (hC : xi_C σ 15 a) (hl : l < tL t) (hq : qT a l ≠ none) (ho : oB o 1000) : xf_X3_bedsOf σ (nI l) (oI o) = some (nI (xs_bits (fun s => xs_al t a l s && (decide (o = none) || decide (o = some s))) (tS t))) := by
  obtain ⟨n1, n2, n3, n4, n5, n6, n7⟩ := id hT
  obtain ⟨g1, g2, g3⟩ := hc.2.2.2.2.2 l hl
  obtain ⟨k1, k2, k3⟩ := n7 l hl
  obtain ⟨d, hd⟩ : ∃ d, qT a l = some d := by
    cases h : qT a l with
    | none => exact absurd h hq
    | some d => exact ⟨d, rfl⟩
  have hdN := (hA.2.2.2.2.2.1 l d hd).2
  have hts : σ.1 19 l = nI d := by have := hC.2.2.1 l (by omega); rw [hd] at this; exact this
  unfold xf_X3_bedsOf
  refine xp_iter (fun k => (nI (xs_bits (fun s => xs_al t a l s && (decide (o = none) || decide (o = some s))) k), nI k)) 0 (tS t) rfl (fun j h1 h2 rec => ?_) (fun rec => ?_)
  · have hw := hA.1 j d
    have e1 := xe_of (c := 16) (xi_W hA hC) (show j < 6 by omega) (show d < 5 by omega)
    have hal : xs_al t a l j = (decide (j ≠ tE t l) && decide (0 < qW a j d)) := by unfold xs_al; rw [hd]; rfl
    unfold xf_X3_bedsOf_L6
    dsimp only
    rw [hc.2.2.1, if_neg (nI_ge (by omega) (by omega)), xp_ld (by omega) (by omega), g1]
    simp only [xp_jn, xs_bits, hal]
    rw [nI_1]
    by_cases he : j = tE t l
    · rw [if_pos (by rw [he])]
      simp [he]
    · rw [if_neg (by rw [xp_eq (by omega) (by omega)]; exact he), xp_ld (by omega) (by omega), hts, e1, Option.bind_some]
      by_cases hz : 0 < qW a j d
      · rw [if_neg (nI_nle hz (by omega)), if_neg (by decide)]
        cases o with
        | none =>
          rw [if_pos (show oI none = -1 from rfl), xp_v, xp_setL (by omega)]
          simp [he, hz]
        | some s =>
          have hs := ho s rfl
          rw [xp_oIs, if_neg (xp_m1 s (by omega))]
          by_cases hsj : s = j
          · rw [if_pos (by rw [hsj]), xp_v, xp_setL (by omega)]
            simp [he, hz, hsj]
          · rw [if_neg (by rw [xp_eq (by omega) (by omega)]; exact hsj)]
            simp [he, hz, hsj]
      · rw [if_pos (show nI (qW a j d) ≤ 0 from nI_le (b := 0) (by omega) (by omega)), if_pos trivial]
        simp [hz]
  · unfold xf_X3_bedsOf_L6
    dsimp only
    rw [Nat.zero_add, hc.2.2.1, if_pos (nI_le (Nat.le_refl _) (by omega))]
def xq_A (σ : xr_S) (c : Nat → Nat) : Prop := ∀ T, T < 64 → σ.1 42 T = nI (c T)
theorem xe_placeIn {σ : xr_S} {c : Nat → Nat} {S i fr : Nat} (hS : σ.1 9 2 = nI S) (hS6 : S ≤ 6) (hA : xq_A σ c) (hi : i < 64) (hfr : fr < 64) (ρ : xr_S) : ∃ τ, xq_A τ (xs_cs i fr c S) ∧ (∀ c, c ≠ 42 → τ.1 c = σ.1 c) ∧ ∀ K : xr_S → Option xr_S, xr_lw (xf_X3_place_L34 (nI fr) (nI i, ρ) K) (0, σ) = K τ := by
  have key := xp_forX (body := xf_X3_place_L34 (nI fr) (nI i, ρ)) (fun j s => ∃ τ : xr_S, s = (nI j, τ) ∧ xq_A τ (xs_cs i fr c j) ∧ ∀ c, c ≠ 42 → τ.1 c = σ.1 c) (fun τ => xq_A τ (xs_cs i fr c S) ∧ ∀ c, c ≠ 42 → τ.1 c = σ.1 c) S (fun j s hj hP => by
      obtain ⟨τ, rfl, q1, q2⟩ := hP
      have e2 : τ.1 9 2 = nI S := by rw [q2 9 (by decide)]; exact hS
      have esh : nI fr >>> (nI j &&& 31) = nI (fr / 2 ^ j) := xp_shr (by omega) (by omega)
      have hdl : fr / 2 ^ j < 64 := Nat.lt_of_le_of_lt (Nat.div_le_self _ _) hfr
      have ebit : (nI fr >>> (nI j &&& 31)) &&& 1 = bI (fr.testBit j) := xp_bitb (by omega) (by omega)
      by_cases hz : fr / 2 ^ j = 0
      · left
        have hlt : fr < 2 ^ j := by
          rcases Nat.lt_or_ge fr (2 ^ j) with hh | hh
          · exact hh
          · have := Nat.div_pos hh (Nat.two_pow_pos j)
            omega
        have hcut := xs_cs_cut (i := i) (c := c) (fun k hk => xs_bit_lt hlt hk) S (by omega)
        refine ⟨τ, ⟨by rw [hcut]; exact q1, q2⟩, fun K rec => ?_⟩
        unfold xf_X3_place_L34
        dsimp only
        rw [e2, if_neg (nI_ge hj (by omega)), esh, if_pos (by rw [hz]; rfl)]
      · right
        cases hb : fr.testBit j with
        | false =>
          refine ⟨(nI (j + 1), τ), ⟨τ, rfl, by simp only [xs_cs, hb]; exact q1, q2⟩, fun K rec => ?_⟩
          unfold xf_X3_place_L34
          dsimp only
          rw [e2, if_neg (nI_ge hj (by omega)), ebit, hb, esh, if_neg (by rw [xl_0, xp_eq (by omega) (by omega)]; exact hz), xp_jn, if_neg (show ¬ bI false = 1 by decide), nI_1]
        | true =>
          have hor : i ||| 2 ^ j < 64 := xs_or_lt (n := 6) hi (xs_pow_lt (n := 6) (by omega))
          refine ⟨(nI (j + 1), xr_up τ 42 (i ||| 2 ^ j) (nI (xs_cs i fr c j (i ||| 2 ^ j) + xs_cs i fr c j i))), ⟨_, rfl, fun T hT => ?_, fun c h => by rw [xp_other h, q2 c h]⟩, fun K rec => ?_⟩
          · simp only [xs_cs, hb, if_true]
            rw [xp_same]
            by_cases hTe : T = i ||| 2 ^ j
            · rw [if_pos hTe, hTe, xp_us]
            · rw [if_neg hTe, xp_un hTe]; exact q1 T hT
          · unfold xf_X3_place_L34
            dsimp only
            rw [e2, if_neg (nI_ge hj (by omega)), ebit, hb, esh, if_neg (by rw [xl_0, xp_eq (by omega) (by omega)]; exact hz), xp_jn, if_pos (show bI true = 1 from rfl), xp_setL (by omega), xp_ld (by omega) (by omega), q1 _ hor, xp_ld (by omega) (by omega), q1 i hi, nI_add, xp_st (by omega) (by omega), nI_1]) (fun s hP => by
      obtain ⟨τ, rfl, q1, q2⟩ := hP
      refine ⟨τ, ⟨q1, q2⟩, fun K rec => ?_⟩
      unfold xf_X3_place_L34
      dsimp only
      rw [q2 9 (by decide), hS, if_pos (nI_le (Nat.le_refl _) (by omega))]) S 0 (by omega) (0, σ) ⟨σ, rfl, hA, fun _ _ => rfl⟩
  obtain ⟨τ, ⟨h1, h2⟩, h3⟩ := key
  exact ⟨τ, h1, h2, h3⟩
theorem xs_cs0 {i : Nat} {c : Nat → Nat} : ∀ s, xs_cs i 0 c s = c := by
  intro s
  induction s with
  | zero => rfl
  | succ s ih => simp only [xs_cs, Nat.zero_testBit, Bool.false_eq_true, if_false]; exact ih
theorem xe_place {σ : xr_S} {c : Nat → Nat} {S b pl : Nat} {w0 w1 : Nat → Nat} (hS : σ.1 9 2 = nI S) (hS6 : S ≤ 6) (hA : xq_A σ c) (hb : b < 2 ^ S) (hpl : pl ≤ 7) (hz : ∀ T, pl + 1 < xs_ones T → c T = 0) (hw : ∀ T, T < 64 → w0 T = xs_sum (fun s => if b.testBit s && !T.testBit s then w1 (T ||| 2 ^ s) else 0) S) : ∃ τ c', xf_X3_place σ (nI b) (nI pl) = some τ ∧ xq_A τ c' ∧ xs_ph w0 w1 pl 64 c' = xs_ph w0 w1 pl 0 c ∧ (∀ T, pl + 1 < xs_ones T → c' T = 0) ∧ ∀ c, c ≠ 42 → τ.1 c = σ.1 c := by
  have hb64 : b < 64 := Nat.lt_of_lt_of_le hb (xs_pow64 hS6)
  unfold xf_X3_place
  obtain ⟨s', ⟨τ, c', rfl, h1, h2, h4, h5⟩, h3⟩ := xp_forK (body := xf_X3_place_L3 (nI pl) (nI b)) (out := fun s => s.2) (fun i s => ∃ (τ : xr_S) (c' : Nat → Nat), s = (nI i, τ) ∧ xq_A τ c' ∧ xs_ph w0 w1 pl i c' = xs_ph w0 w1 pl 0 c ∧ (∀ T, pl + 1 < xs_ones T → c' T = 0) ∧ ∀ c, c ≠ 42 → τ.1 c = σ.1 c) 64 (fun i s hi hP => by
      obtain ⟨τ, c', rfl, q1, q2, q3, q4⟩ := hP
      have e1 := xe_bitCount τ (show i < 64 by omega)
      have e2 : τ.1 9 2 = nI S := by rw [q4 9 (by decide)]; exact hS
      have ho := xs_ones_le i
      by_cases hone : xs_ones i = pl
      · have hfl : xs_dif b i < 64 := xs_dif_lt (n := 6) hb64
        obtain ⟨τ1, u1, u2, u3⟩ := xe_placeIn (S := S) (fr := xs_dif b i) e2 hS6 q1 hi hfl τ
        obtain ⟨p1, p2, p3⟩ := xs_cs_ph (w0 := w0) (w1 := w1) (fr := xs_dif b i) hi hone (fun s hs => by
          rw [xs_dif_bit] at hs
          cases h : i.testBit s with
          | false => rfl
          | true => rw [h] at hs; simp at hs) q3 S (by omega)
        refine ⟨(nI (i + 1), τ1), ⟨τ1, _, rfl, u1, ?_, p3, fun c h => by rw [u2 c h, q4 c h]⟩, fun K rec => ?_⟩
        · have hn := xs_ph_next (w0 := w0) (w1 := w1) (pl := pl) (c := xs_cs i (xs_dif b i) c' S) hi
          rw [if_pos hone, p2, p1, hw i hi] at hn
          have hsum : xs_sum (fun s => if (xs_dif b i).testBit s then w1 (i ||| 2 ^ s) else 0) S = xs_sum (fun s => if b.testBit s && !i.testBit s then w1 (i ||| 2 ^ s) else 0) S := xs_sum_cong (fun s _ => by rw [xs_dif_bit])
          rw [hsum, q2] at hn
          omega
        · unfold xf_X3_place_L3
          dsimp only
          rw [if_neg (show ¬ (64 : Int32) ≤ nI i from nI_ge (b := 64) hi (by omega)), e1, Option.bind_some, xp_jn, if_pos (by rw [hone])]
          dsimp only
          rw [xp_dif, u3, nI_1]
      · obtain ⟨τ1, u1, u2, u3⟩ := xe_placeIn (S := S) (fr := 0) e2 hS6 q1 hi (by omega) τ
        rw [xs_cs0] at u1
        refine ⟨(nI (i + 1), τ1), ⟨τ1, c', rfl, u1, ?_, q3, fun c h => by rw [u2 c h, q4 c h]⟩, fun K rec => ?_⟩
        · have hn := xs_ph_next (w0 := w0) (w1 := w1) (pl := pl) (c := c') hi
          rw [if_neg hone, q2] at hn
          omega
        · unfold xf_X3_place_L3
          dsimp only
          rw [if_neg (show ¬ (64 : Int32) ≤ nI i from nI_ge (b := 64) hi (by omega)), e1, Option.bind_some, xp_jn, if_neg (by rw [xp_eq (by omega) (by omega)]; exact hone)]
          dsimp only
          have u3' := u3 (fun e10 => rec (nI i + 1, e10))
          rw [nI_1] at u3'
          rw [nI_1]
          exact u3') (fun s hP K rec => by
      obtain ⟨τ, c', rfl, q1, q2, q3, q4⟩ := hP
      unfold xf_X3_place_L3
      dsimp only
      rw [if_pos (show (64 : Int32) ≤ nI 64 by decide)]) 64 0 (by omega) (0, σ) ⟨σ, c, rfl, hA, rfl, hz, fun _ _ => rfl⟩
  exact ⟨τ, c', h3 _, h1, h2, h4, h5⟩
theorem xe_countOf {σ : xr_S} {c : Nat → Nat} {pl : Nat} (hA : xq_A σ c) (hpl : pl ≤ 7) : xf_X3_countOf σ (nI pl) = some (nI (xs_sum (fun T => if xs_ones T = pl then c T else 0) 64)) := by
  unfold xf_X3_countOf
  refine xp_iter (fun k => (nI (xs_sum (fun T => if xs_ones T = pl then c T else 0) k), nI k)) 0 64 rfl (fun j h1 h2 rec => ?_) (fun rec => ?_)
  · have e1 := xe_bitCount σ (show j < 64 by omega)
    have ho := xs_ones_le j
    unfold xf_X3_countOf_L4
    dsimp only
    rw [if_neg (show ¬ (64 : Int32) ≤ nI j from nI_ge (b := 64) (by omega) (by omega)), e1, Option.bind_some, xp_jn]
    simp only [xs_sum]
    by_cases hone : xs_ones j = pl
    · rw [if_pos (by rw [hone]), xp_ld (by omega) (by omega), hA j (by omega), xp_v, nI_add, nI_1, if_pos hone]
    · rw [if_neg (by rw [xp_eq (by omega) (by omega)]; exact hone), nI_1, if_neg hone]; rfl
  · unfold xf_X3_countOf_L4
    dsimp only
    rw [if_pos (show (64 : Int32) ≤ nI (0 + 64) by decide)]
def xs_fr (a : xa_A) (l : Nat) : Bool := (qT a l).isNone
/-- how many ways, one loaf being held -/
def xs_wz (t : xa_T) (a : xa_A) (hl ho : Option Nat) (m k : Nat) : Nat := xs_wy (xs_ah (xs_al t a) hl ho) (xs_fr a) (tS t) (tL t) m k
theorem xe_ways {σ : xr_S} {t : xa_T} {a : xa_A} {hl ho : Option Nat} (hT : xi_T t) (hA : xi_A t a) (hc : xi_Tc σ t) (hC : xi_C σ 15 a) (hhl : oB hl 1000) (hho : oB ho 1000) : ∃ τ, xf_X3_ways σ (oI hl) (oI ho) = some (nI (xs_wz t a hl ho (tL t) 0), τ) ∧ ∀ c, c ≠ 42 → τ.1 c = σ.1 c := by
  obtain ⟨n1, n2, n3, n4, n5, n6, n7⟩ := id hT
  have hbo := xi_bounds hT hA
  obtain ⟨τ0, hτ0⟩ : ∃ τ0, τ0 = xr_up (xr_upF σ 42 (fun k => if k < 64 then (0 : Int32) else σ.1 42 k)) 42 0 1 := ⟨_, rfl⟩
  have f0 : ∀ c, c ≠ 42 → τ0.1 c = σ.1 c := fun c h => by rw [hτ0, xp_other h, xp_otherF h]
  have z0 : xq_A τ0 (fun T => if T = 0 then 1 else 0) := fun T hT => by
    rw [hτ0, xp_same]
    by_cases hk0 : T = 0
    · rw [hk0, xp_us]; rfl
    · rw [xp_un hk0, xp_sameF]; dsimp only; rw [if_neg hk0, if_pos hT]; rfl
  have hstart : xs_sum (fun T => if xs_ones T = 0 then (if T = 0 then 1 else 0) * xs_wz t a hl ho (tL t) T else 0) 64 = xs_wz t a hl ho (tL t) 0 := by
    have := xs_sum_at (f := fun T => if xs_ones T = 0 then (if T = 0 then 1 else 0) * xs_wz t a hl ho (tL t) T else 0) (g := fun _ => 0) (T := 0) (fun k hk => by simp only [if_neg hk, Nat.zero_mul]; split <;> rfl) 64 (by omega)
    have hz : xs_sum (fun _ => 0) 64 = 0 := by
      have := xs_sum_le (g := fun _ => 0) (b := 0) (fun _ => Nat.le_refl _) 64
      omega
    have h0 : xs_ones 0 = 0 := by decide
    simp only [h0, if_true, Nat.one_mul, hz] at this
    omega
  have hz0 : ∀ T, 0 < xs_ones T → (if T = 0 then 1 else 0) = 0 := fun T hT => by
    rw [if_neg]
    intro e
    rw [e] at hT
    exact absurd hT (by decide)
  obtain ⟨s', ⟨τ, c, pl, rfl, h1, h2, h4, h5, h6⟩, h3⟩ := xp_forK (body := xf_X3_ways_L21 (oI hl) (oI ho)) (out := fun s => (s.1, s.2.2)) (fun j s => ∃ (τ : xr_S) (c : Nat → Nat) (pl : Nat), s = (nI pl, nI j, τ) ∧ xq_A τ c ∧ pl ≤ j ∧ xs_sum (fun T => if xs_ones T = pl then c T * xs_wz t a hl ho (tL t - j) T else 0) 64 = xs_wz t a hl ho (tL t) 0 ∧ (∀ T, pl < xs_ones T → c T = 0) ∧ ∀ c, c ≠ 42 → τ.1 c = σ.1 c) (tL t) (fun j s hj hP => by
      obtain ⟨τ, c, pl, rfl, q1, q2, q3, q4, q5⟩ := hP
      have hc1 : xi_Tc τ t := xi_Tc_fr hc (fun c h => q5 c (by omega))
      have hC1 : xi_C τ 15 a := xi_C_fr hC (q5 _ (by decide)) (q5 _ (by decide)) (q5 _ (by decide)) (q5 _ (by decide))
      have e1 := xe_isFresh (hC1.2.2.1 j (by omega)) (hbo.2.1 j) (show j < 7 by omega)
      obtain ⟨m, hm⟩ : ∃ m, tL t - j = m + 1 := ⟨tL t - j - 1, by omega⟩
      have hjm : tL t - (m + 1) = j := by omega
      have hm2 : tL t - (j + 1) = m := by omega
      cases hfr : (qT a j).isNone with
      | true =>
        have hw : ∀ T, xs_wz t a hl ho (m + 1) T = xs_wz t a hl ho m T := fun T => by
          unfold xs_wz
          simp only [xs_wy]
          rw [hjm, if_pos (show xs_fr a j = true from hfr)]
        refine ⟨(nI pl, nI (j + 1), τ), ⟨τ, c, pl, rfl, q1, by omega, ?_, q4, q5⟩, fun K rec => ?_⟩
        · rw [← q3, hm2, hm]
          exact xs_sum_cong (fun T _ => by rw [hw T])
        · unfold xf_X3_ways_L21
          dsimp only
          rw [hc1.2.2.2.1, if_neg (nI_ge hj (by omega)), e1, hfr, Option.bind_some, xp_jn, if_neg (show ¬ bI true = 0 by decide), nI_1]
      | false =>
        obtain ⟨o, hoo⟩ : ∃ o, o = if hl = some j then ho else none := ⟨_, rfl⟩
        have hob : oB o 1000 := by rw [hoo]; split; exact hho; exact fun n hn => (by cases hn)
        have hqn : qT a j ≠ none := fun h => by rw [h] at hfr; cases hfr
        have e2 := xe_bedsOf hT hA hc1 hC1 hj hqn hob
        obtain ⟨b, hb⟩ : ∃ b, b = xs_bits (fun s => xs_al t a j s && (decide (o = none) || decide (o = some s))) (tS t) := ⟨_, rfl⟩
        have hbl : b < 2 ^ tS t := by rw [hb]; exact xs_bits_lt _ _
        have hbit : ∀ s, s < tS t → b.testBit s = xs_ah (xs_al t a) hl ho j s := fun s hs => by
          rw [hb, xs_bits_bit]
          unfold xs_ah
          rw [hoo]
          by_cases hh : hl = some j
          · rw [if_pos hh, if_pos hh]; simp [hs]
          · rw [if_neg hh, if_neg hh]; simp [hs]
        rw [← hb] at e2
        have hw : ∀ T, T < 64 → xs_wz t a hl ho (m + 1) T = xs_sum (fun s => if b.testBit s && !T.testBit s then xs_wz t a hl ho m (T ||| 2 ^ s) else 0) (tS t) := fun T _ => by
          unfold xs_wz
          simp only [xs_wy]
          rw [hjm, if_neg (show ¬ xs_fr a j = true by unfold xs_fr; rw [hfr]; decide)]
          exact xs_sum_cong (fun s hs => by rw [hbit s hs])
        obtain ⟨τ1, c', u1, u2, u3, u4, u5⟩ := xe_place (w0 := xs_wz t a hl ho (m + 1)) (w1 := xs_wz t a hl ho m) hc1.2.2.1 n3 q1 hbl (show pl ≤ 7 by omega) (fun T hT => q4 T (by omega)) hw
        refine ⟨(nI (pl + 1), nI (j + 1), τ1), ⟨τ1, c', pl + 1, rfl, u2, by omega, ?_, u4, fun c h => by rw [u5 c h, q5 c h]⟩, fun K rec => ?_⟩
        · rw [← q3, hm2, hm]
          have a1 : xs_ph (xs_wz t a hl ho (m + 1)) (xs_wz t a hl ho m) pl 64 c' = xs_sum (fun T => if xs_ones T = pl + 1 then c' T * xs_wz t a hl ho m T else 0) 64 := by
            unfold xs_ph
            refine xs_sum_cong (fun T hT => ?_)
            by_cases hp : xs_ones T = pl
            · rw [if_pos hp, if_neg (by omega), if_neg (by omega)]
            · rw [if_neg hp]
          have a2 : xs_ph (xs_wz t a hl ho (m + 1)) (xs_wz t a hl ho m) pl 0 c = xs_sum (fun T => if xs_ones T = pl then c T * xs_wz t a hl ho (m + 1) T else 0) 64 := by
            unfold xs_ph
            refine xs_sum_cong (fun T hT => ?_)
            by_cases hp : xs_ones T = pl
            · rw [if_pos hp, if_pos hp, if_pos (by omega)]
            · rw [if_neg hp, if_neg hp]
              split
              next h => rw [q4 T (by omega), Nat.zero_mul]
              next => rfl
          rw [← a1, ← a2]; exact u3
        · unfold xf_X3_ways_L21
          dsimp only
          rw [hc1.2.2.2.1, if_neg (nI_ge hj (by omega)), e1, hfr, Option.bind_some]
          simp only [xp_jn]
          rw [if_pos (show bI false = 0 from rfl), nI_1, nI_1]
          have ho' : (if nI j = oI hl then (oI ho) else (-1 : Int32)) = oI o := by
            rw [hoo]
            by_cases hh : hl = some j
            · rw [if_pos hh, if_pos (by rw [hh]; rfl)]
            · rw [if_neg hh, if_neg]
              · rfl
              · intro e
                exact hh ((xp_oIe (fun n hn => Nat.lt_trans (hhl n hn) (by decide)) (by omega)).mp e.symm)
          by_cases hh : nI j = oI hl
          · rw [if_pos hh] at ho' ⊢
            rw [ho', e2, Option.bind_some, u1, Option.bind_some]
          · rw [if_neg hh] at ho' ⊢
            rw [ho', e2, Option.bind_some, u1, Option.bind_some]) (fun s hP K rec => by
      obtain ⟨τ, c, pl, rfl, q1, q2, q3, q4, q5⟩ := hP
      unfold xf_X3_ways_L21
      dsimp only
      rw [q5 9 (by decide), hc.2.2.2.1, if_pos (nI_le (Nat.le_refl _) (by omega))]) (tL t) 0 (by omega) (0, 0, τ0) ⟨τ0, fun T => if T = 0 then 1 else 0, 0, rfl, z0, by omega, hstart, hz0, f0⟩
  refine ⟨τ, ?_, h6⟩
  have e1 := xe_countOf h1 (show pl ≤ 7 by omega)
  have e2 : xs_sum (fun T => if xs_ones T = pl then c T else 0) 64 = xs_wz t a hl ho (tL t) 0 := by
    rw [← h4, Nat.sub_self]
    refine xs_sum_cong (fun T _ => ?_)
    have : xs_wz t a hl ho 0 T = 1 := rfl
    rw [this, Nat.mul_one]
  rw [e2] at e1
  unfold xf_X3_ways
  rw [xe_fill (n := 64) (by decide), Option.bind_some, show (0 : Int32) = nI 0 from rfl, xp_st (by omega) (by omega)]
  have h3' := h3 (fun (e5 : (Int32 × xr_S)) => (xf_X3_countOf e5.2 e5.1).bind (fun v16 => some (v16, e5.2)))
  rw [hτ0] at h3'
  refine h3'.trans ?_
  dsimp only
  rw [e1]; rfl
