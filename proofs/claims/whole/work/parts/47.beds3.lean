/-! beds: the reference's table -/
theorem xe_mayLie {σ : xr_S} {t : xa_T} {a : xa_A} {l s : Nat} (hT : xi_T t) (hA : xi_A t a) (hm : xi_Tm σ t) (hM : xi_M σ 0 a) (hl : l < tL t) (hs : s < tS t) : xf_X11_mayLie σ (nI l) (nI s) = some (bI (decide (qT a l = none ∧ tE t l ≠ s ∧ (qA a).testBit s = false))) := by
  obtain ⟨n1, n2, n3, n4, n5, n6, n7⟩ := id hT
  obtain ⟨o1, o2, o3, o4, o5, o6, o7, o8⟩ := xi_M0 hM
  have hb := xi_bounds hT hA
  obtain ⟨g1, g2, g3⟩ := hm.2.2.2.2.2 l hl
  obtain ⟨k1, k2, k3⟩ := n7 l hl
  have e1 := xe_isFreshM (o3 l (by omega)) (hb.2.1 l) (show l < 7 by omega)
  have e2 := xe_isAwakeM o5 (show qA a < 2 ^ 31 by omega) (show s < 31 by omega)
  unfold xf_X11_mayLie
  rw [e1, Option.bind_some]
  cases hq : qT a l with
  | some d => simp; rfl
  | none =>
    simp only [Option.isNone_none, bI_t, show ¬ nI 1 = 0 from by decide, if_false]
    rw [xp_ld (by omega) (by omega), g1, e2, Option.bind_some]
    by_cases he : tE t l = s
    · rw [if_pos (by rw [he])]
      simp [he]; rfl
    · rw [if_neg (by rw [xp_eq (by omega) (by omega)]; exact he)]
      cases hw : (qA a).testBit s with
      | true => simp; rfl
      | false => simp [he]; rfl
theorem xs_or_swap (k A B : Nat) : (k ||| A) ||| B = (k ||| B) ||| A := by rw [Nat.or_assoc, Nat.or_comm A, ← Nat.or_assoc]
theorem xs_bo_yes {t : xa_T} {a : xa_A} {l s k : Nat} (h : k.testBit s = false) (hm : qT a l = none ∧ tE t l ≠ s ∧ (qA a).testBit s = false) : xs_bo t a l s (k ||| qA a) = some (xs_worth t (qW a) l s + xs_bb t a (tL t - 1 - l) ((k ||| 2 ^ s) ||| qA a)) := by
  unfold xs_bo xs_wo
  rw [if_pos ⟨hm.1, hm.2.1⟩, Option.bind_some, Nat.testBit_or, h, hm.2.2, if_neg (by decide), xs_or_swap]
theorem xs_bo_no1 {t : xa_T} {a : xa_A} {l s k : Nat} (h : k.testBit s = true) : xs_bo t a l s (k ||| qA a) = none := by
  unfold xs_bo
  rw [Nat.testBit_or, h]
  cases xs_wo t a l s <;> rfl
theorem xs_bo_no2 {t : xa_T} {a : xa_A} {l s k : Nat} (hm : ¬ (qT a l = none ∧ tE t l ≠ s ∧ (qA a).testBit s = false)) : xs_bo t a l s (k ||| qA a) = none := by
  unfold xs_bo xs_wo
  by_cases h1 : qT a l = none ∧ tE t l ≠ s
  · have h2 : (qA a).testBit s = true := by
      cases h : (qA a).testBit s with
      | true => rfl
      | false => exact absurd ⟨h1.1, h1.2, h⟩ hm
    rw [if_pos h1, Option.bind_some, Nat.testBit_or, h2, Bool.or_true]; rfl
  · rw [if_neg h1]; rfl
theorem xe_fbIn {σ : xr_S} {t : xa_T} {a : xa_A} {l k : Nat} (hT : xi_T t) (hA : xi_A t a) (hm : xi_Tm σ t) (hM : xi_M σ 0 a) (hl : l < tL t) (hk : k < 64) (h58 : ∀ k, k < 64 → σ.1 58 (64 * (l + 1) + k) = nI (xs_bb t a (tL t - 1 - l) (k ||| qA a))) (ρ : xr_S) (K : Int32 → Option xr_S) : xr_lw (xf_X11_findBeds_L46 (nI k, σ) (nI l, ρ) K) (nI (xs_bb t a (tL t - 1 - l) (k ||| qA a)), 0) = K (nI (xs_bb t a (tL t - l) (k ||| qA a))) := by
  obtain ⟨n1, n2, n3, n4, n5, n6, n7⟩ := id hT
  have hb1 := xs_bb_le (a := a) hT (tL t - 1 - l) (k ||| qA a) (by omega)
  have hb2 : (tL t - 1 - l) * 99000000 ≤ 6 * 99000000 := Nat.mul_le_mul_right _ (by omega)
  rw [xs_bb_step hl]
  refine xp_iter (fun j => (nI (xs_mx (fun s => (xs_bo t a l s (k ||| qA a)).getD 0) (xs_bb t a (tL t - 1 - l) (k ||| qA a)) j), nI j)) 0 (tS t) rfl (fun j h1 h2' rec => ?_) (fun rec => ?_)
  · have hj : j < tS t := by omega
    have hmx := xs_mx_le (f := fun s => (xs_bo t a l s (k ||| qA a)).getD 0) (i := xs_bb t a (tL t - 1 - l) (k ||| qA a)) (b := 2 ^ 30) (by omega) j (fun i hi => by
      cases hq : xs_bo t a l i (k ||| qA a) with
      | none => simp
      | some v => have := xs_bo_le hT hl hq; simp; omega)
    have e1 := xe_has σ (show k < 2 ^ 31 by omega) (show j < 31 by omega)
    have e2 := xe_mayLie hT hA hm hM hl hj
    have e3 := xe_worthOf hT hA hm hM hl hj
    have fin : ∀ v : Nat, (xs_bo t a l j (k ||| qA a)).getD 0 = v → (if nI v ≤ nI (xs_mx (fun s => (xs_bo t a l s (k ||| qA a)).getD 0) (xs_bb t a (tL t - 1 - l) (k ||| qA a)) j) then rec (nI (xs_mx (fun s => (xs_bo t a l s (k ||| qA a)).getD 0) (xs_bb t a (tL t - 1 - l) (k ||| qA a)) j), nI j + 1) else rec (nI v, nI j + 1)) = rec (nI (xs_mx (fun s => (xs_bo t a l s (k ||| qA a)).getD 0) (xs_bb t a (tL t - 1 - l) (k ||| qA a)) (j + 1)), nI (j + 1)) := by
      intro v hv
      have hv2 : v < 2 ^ 30 := by
        cases hq : xs_bo t a l j (k ||| qA a) with
        | none => rw [hq] at hv; simp at hv; omega
        | some u => rw [hq] at hv; simp at hv; have := xs_bo_le hT hl hq; omega
      rw [nI_1]
      simp only [xs_mx, hv]
      by_cases hc : v ≤ xs_mx (fun s => (xs_bo t a l s (k ||| qA a)).getD 0) (xs_bb t a (tL t - 1 - l) (k ||| qA a)) j
      · rw [if_pos (nI_le hc (by omega)), if_neg (by omega)]
      · rw [if_neg (nI_ge (by omega) (by omega)), if_pos (by omega)]
    unfold xf_X11_findBeds_L46
    dsimp only
    rw [hm.2.2.1, hm.2.2.2.1, if_neg (nI_ge hj (by omega)), if_neg (nI_ge hl (by omega)), e1, Option.bind_some]
    simp only [xp_jn]
    cases hbit : k.testBit j with
    | true =>
      simp only [bI_t, show ¬ nI 1 = 0 from by decide, if_false, if_true]
      exact fin 0 (by rw [xs_bo_no1 hbit]; rfl)
    | false =>
      simp only [bI_f, show (nI 0 = 0) from rfl, if_true, e2, Option.bind_some]
      by_cases hmay : qT a l = none ∧ tE t l ≠ j ∧ (qA a).testBit j = false
      · have hor : k ||| 2 ^ j < 64 := xs_or_lt (n := 6) hk (Nat.lt_of_lt_of_le (xs_pow_lt (n := 6) (by omega)) (Nat.le_refl _))
        rw [decide_eq_true hmay]
        simp only [bI_t, show ¬ nI 1 = 0 from by decide, show ¬ (1 : Int32) = 0 from by decide, if_false, e3, Option.bind_some]
        rw [xp_setL (by omega), xl_64, nI_1, pk_mul, nI_add, xp_ld (by omega) (by omega), h58 _ hor, nI_add]
        exact fin _ (by rw [xs_bo_yes hbit hmay]; rfl)
      · rw [decide_eq_false hmay]
        simp only [bI_f, show (nI 0 = 0) from rfl, if_true]
        exact fin 0 (by rw [xs_bo_no2 hmay]; rfl)
  · unfold xf_X11_findBeds_L46
    dsimp only
    rw [Nat.zero_add, hm.2.2.1, if_pos (nI_le (by omega) (by omega))]
theorem xe_fbRow {σ : xr_S} {t : xa_T} {a : xa_A} {l : Nat} (hT : xi_T t) (hA : xi_A t a) (hm : xi_Tm σ t) (hM : xi_M σ 0 a) (hl : l ≤ tL t) (h58 : l < tL t → ∀ k, k < 64 → σ.1 58 (64 * (l + 1) + k) = nI (xs_bb t a (tL t - 1 - l) (k ||| qA a))) (ρ : xr_S) : ∃ τ, (∀ k, k < 64 → τ.1 58 (64 * l + k) = nI (xs_bb t a (tL t - l) (k ||| qA a))) ∧ (∀ i, 64 * (l + 1) ≤ i → τ.1 58 i = σ.1 58 i) ∧ (∀ c, c ≠ 58 → τ.1 c = σ.1 c) ∧ ∀ K : xr_S → Option xr_S, xr_lw (xf_X11_findBeds_L11 (nI l, ρ) K) (0, σ) = K τ := by
  obtain ⟨n1, n2, n3, n4, n5, n6, n7⟩ := id hT
  obtain ⟨s', ⟨τ, rfl, h1, h2, h4⟩, h3⟩ := xp_forK (body := xf_X11_findBeds_L11 (nI l, ρ)) (out := fun s => s.2) (fun j s => ∃ τ, s = (nI j, τ) ∧ (∀ k, k < j → τ.1 58 (64 * l + k) = nI (xs_bb t a (tL t - l) (k ||| qA a))) ∧ (∀ i, 64 * (l + 1) ≤ i → τ.1 58 i = σ.1 58 i) ∧ ∀ c, c ≠ 58 → τ.1 c = σ.1 c) 64 (fun j s hj hP => by
      obtain ⟨τ, rfl, q1, q2, q3⟩ := hP
      have hm1 : xi_Tm τ t := xi_Tm_fr4 hm (fun c h => q3 c (by omega))
      have hM1 : xi_M τ 0 a := xi_M_fr hM (q3 50 (by decide))
      refine ⟨(nI (j + 1), xr_up τ 58 (64 * l + j) (nI (xs_bb t a (tL t - l) (j ||| qA a)))), ⟨_, rfl, fun k hk => ?_, fun i hi => by rw [xp_same, xp_un (by omega), q2 i hi], fun c h => by rw [xp_other h, q3 c h]⟩, fun K rec => ?_⟩
      · rw [xp_same]
        by_cases hkj : k = j
        · subst hkj; rw [xp_us]
        · rw [xp_un (by omega), q1 k (by omega)]
      · unfold xf_X11_findBeds_L11
        dsimp only
        rw [if_neg (show ¬ (64 : Int32) ≤ nI j from nI_ge (b := 64) hj (by omega)), xp_jn, hm1.2.2.2.1]
        by_cases he : l = tL t
        · rw [if_pos (by rw [he])]
          have hz : xs_bb t a (tL t - l) (j ||| qA a) = 0 := by rw [he, Nat.sub_self]; rfl
          rw [hz]
          refine (xp_iter (v := xr_st τ 58 512 (64 * nI l + nI j) 0 (fun s27 => rec (nI j + 1, s27))) (fun i => (0, nI i)) 0 0 rfl (fun i g1 g2 rec => by omega) (fun rec => ?_)).trans ?_
          · unfold xf_X11_findBeds_L46
            dsimp only
            rw [hm1.2.2.2.1, if_pos (show nI (tL t) ≤ nI l by rw [he]; exact nI_le (Nat.le_refl _) (by omega))]
            split <;> rfl
          · rw [xl_64, pk_mul, nI_add, xp_st (by omega) (by omega), nI_1]; rfl
        · have hlt : l < tL t := by omega
          rw [if_neg (by rw [xp_eq (by omega) (by omega)]; exact he), xl_64, nI_1, pk_mul, nI_add, xp_ld (by omega) (by omega), q2 _ (by omega), h58 hlt j hj]
          refine (xe_fbIn hT hA hm1 hM1 hlt hj (fun k hk => by rw [q2 _ (by omega)]; exact h58 hlt k hk) ρ _).trans ?_
          rw [pk_mul, nI_add, xp_st (by omega) (by omega), nI_1]) (fun s hP K rec => by
      obtain ⟨τ, rfl, q1, q2, q3⟩ := hP
      unfold xf_X11_findBeds_L11
      dsimp only
      rw [if_pos (show (64 : Int32) ≤ nI 64 by decide)]) 64 0 (by omega) (0, σ) ⟨σ, rfl, fun _ h => by omega, fun _ _ => rfl, fun _ _ => rfl⟩
  exact ⟨τ, h1, h2, h4, h3⟩
theorem xe_fbRows {σ : xr_S} {t : xa_T} {a : xa_A} (hT : xi_T t) (hA : xi_A t a) (hm : xi_Tm σ t) (hM : xi_M σ 0 a) : ∃ τ, (∀ r k, r ≤ tL t → k < 64 → τ.1 58 (64 * r + k) = nI (xs_bb t a (tL t - r) (k ||| qA a))) ∧ (∀ c, c ≠ 58 → τ.1 c = σ.1 c) ∧ ∀ K : xr_S → Option xr_S, xr_lw (xf_X11_findBeds_L5 K) (nI (tL t), σ) = K τ := by
  obtain ⟨n1, n2, n3, n4, n5, n6, n7⟩ := id hT
  obtain ⟨s', ⟨τ, rfl, h1, h2⟩, h3⟩ := xp_forK (body := xf_X11_findBeds_L5) (out := fun s => s.2) (fun j s => ∃ τ, s = (dI (tL t + 1 - j), τ) ∧ (∀ r k, tL t + 1 - j ≤ r → r ≤ tL t → k < 64 → τ.1 58 (64 * r + k) = nI (xs_bb t a (tL t - r) (k ||| qA a))) ∧ ∀ c, c ≠ 58 → τ.1 c = σ.1 c) (tL t + 1) (fun j s hj hP => by
      obtain ⟨τ, rfl, q1, q2⟩ := hP
      obtain ⟨l, hl⟩ : ∃ l, tL t + 1 - j = l + 1 := ⟨tL t - j, by omega⟩
      have hm1 : xi_Tm τ t := xi_Tm_fr4 hm (fun c h => q2 c (by omega))
      have hM1 : xi_M τ 0 a := xi_M_fr hM (q2 50 (by decide))
      obtain ⟨τ2, r1, r2, r3, r4⟩ := xe_fbRow (l := l) hT hA hm1 hM1 (by omega) (fun hlt k hk => by rw [q1 (l + 1) k (by omega) (by omega) hk, show tL t - (l + 1) = tL t - 1 - l by omega]) τ
      refine ⟨(dI (tL t + 1 - (j + 1)), τ2), ⟨τ2, rfl, fun r k h1 h2 hk => ?_, fun c h1 => by rw [r3 c h1, q2 c h1]⟩, fun K rec => ?_⟩
      · by_cases hr : r = l
        · subst hr; exact r1 k hk
        · rw [r2 _ (by omega)]; exact q1 r k (by omega) h2 hk
      · have hd : dI (l + 1) = nI l := rfl
        unfold xf_X11_findBeds_L5
        dsimp only
        rw [hl, hd, if_neg (nI_pos (by omega)), show tL t + 1 - (j + 1) = l by omega, ← xp_dI]
        exact r4 (fun e => rec (nI l + (-1), e))) (fun s hP K rec => by
      obtain ⟨τ, rfl, q1, q2⟩ := hP
      unfold xf_X11_findBeds_L5
      dsimp only
      rw [Nat.sub_self, if_pos (show dI 0 < 0 by decide)]) (tL t + 1) 0 (by omega) (nI (tL t), σ) ⟨σ, rfl, fun r k h1 h2 hk => by omega, fun _ _ => rfl⟩
  exact ⟨τ, fun r k hr hk => h1 r k (by omega) hr hk, h2, h3⟩
/-- who is taken, as the reference tells it -/
def xs_tm (t : xa_T) (a : xa_A) : Nat → Nat
  | 0 => 0
  | l + 1 => match xs_fb t a l (xs_tm t a l ||| qA a) with
    | none => xs_tm t a l
    | some s => xs_tm t a l ||| 2 ^ s
theorem xs_tm_tk (t : xa_T) (a : xa_A) : ∀ l, xs_tk t a l = xs_tm t a l ||| qA a := by
  intro l
  induction l with
  | zero => simp [xs_tk, xs_tm]
  | succ l ih =>
    simp only [xs_tk, xs_tm, ih]
    cases xs_fb t a l (xs_tm t a l ||| qA a) with
    | none => rfl
    | some s => exact xs_or_swap _ _ _
theorem xs_tm_lt {t : xa_T} {a : xa_A} : ∀ l, xs_tm t a l < 2 ^ tS t := by
  intro l
  induction l with
  | zero => exact Nat.two_pow_pos _
  | succ l ih =>
    simp only [xs_tm]
    split
    · exact ih
    next s hs => exact xs_or_lt ih (xs_pow_lt (xs_fb_lt hs).1)
/-- the first found, looked for from the top -/
def xs_dn (p : Nat → Bool) (S : Nat) (o : Option Nat) (m : Nat) : Prop := (o = none → ∀ i, m ≤ i → i < S → p i = false) ∧ ∀ s, o = some s → m ≤ s ∧ s < S ∧ p s = true ∧ ∀ i, m ≤ i → i < s → p i = false
theorem xs_dn_find {p : Nat → Bool} {S : Nat} {o : Option Nat} (h : xs_dn p S o 0) : xs_find p S = o := by
  cases o with
  | none => exact xs_find_none.mpr (fun k hk => h.1 rfl k (by omega) hk)
  | some s =>
    obtain ⟨h1, h2, h3, h4⟩ := h.2 s rfl
    exact xs_find_some.mpr ⟨h2, h3, fun i hi => h4 i (by omega) hi⟩
theorem xs_dn_yes {p : Nat → Bool} {S m : Nat} {o : Option Nat} (hm : m < S) (hp : p m = true) : xs_dn p S (some m) m := by
  refine ⟨fun h => (by cases h), fun s hs => ?_⟩
  cases hs
  exact ⟨Nat.le_refl _, hm, hp, fun i h1 h2 => by omega⟩
theorem xs_dn_no {p : Nat → Bool} {S m : Nat} {o : Option Nat} (h : xs_dn p S o (m + 1)) (hp : p m = false) : xs_dn p S o m := by
  refine ⟨fun ho i h1 h2 => ?_, fun s hs => ?_⟩
  · by_cases hi : i = m
    · rw [hi]; exact hp
    · exact h.1 ho i (by omega) h2
  · obtain ⟨g1, g2, g3, g4⟩ := h.2 s hs
    refine ⟨by omega, g2, g3, fun i h1 h2 => ?_⟩
    by_cases hi : i = m
    · rw [hi]; exact hp
    · exact g4 i (by omega) h2
theorem xe_fbDown {σ : xr_S} {t : xa_T} {a : xa_A} {l k : Nat} (hT : xi_T t) (hA : xi_A t a) (hm : xi_Tm σ t) (hM : xi_M σ 0 a) (hl : l < tL t) (hk : k < 64) (h58 : ∀ r k, r ≤ tL t → k < 64 → σ.1 58 (64 * r + k) = nI (xs_bb t a (tL t - r) (k ||| qA a))) (ρ : xr_S) (h59 : σ.1 59 l = -1) : ∃ τ, τ.1 59 l = oI (xs_find (fun s => decide (xs_bo t a l s (k ||| qA a) = some (xs_bb t a (tL t - l) (k ||| qA a)))) (tS t)) ∧ (∀ i, i ≠ l → τ.1 59 i = σ.1 59 i) ∧ (∀ c, c ≠ 59 → τ.1 c = σ.1 c) ∧ ∀ K : xr_S → Option xr_S, xr_lw (xf_X11_findBeds_L195 (nI k, nI l, ρ) K) (dI (tS t), σ) = K τ := by
  obtain ⟨n1, n2, n3, n4, n5, n6, n7⟩ := id hT
  obtain ⟨p, hp⟩ : ∃ p : Nat → Bool, p = fun s => decide (xs_bo t a l s (k ||| qA a) = some (xs_bb t a (tL t - l) (k ||| qA a))) := ⟨_, rfl⟩
  rw [← hp]
  have hbb := xs_bb_le (a := a) hT (tL t - l) (k ||| qA a) (by omega)
  have hbb2 : (tL t - l) * 99000000 ≤ 7 * 99000000 := Nat.mul_le_mul_right _ (by omega)
  obtain ⟨s', ⟨τ, o, rfl, h1, h2, h4, h5⟩, h3⟩ := xp_forK (body := xf_X11_findBeds_L195 (nI k, nI l, ρ)) (out := fun s => s.2) (fun j s => ∃ τ o, s = (dI (tS t - j), τ) ∧ xs_dn p (tS t) o (tS t - j) ∧ τ.1 59 l = oI o ∧ (∀ i, i ≠ l → τ.1 59 i = σ.1 59 i) ∧ ∀ c, c ≠ 59 → τ.1 c = σ.1 c) (tS t) (fun j s hj hP => by
      obtain ⟨τ, o, rfl, q1, q2, q3, q4⟩ := hP
      obtain ⟨m, hmj⟩ : ∃ m, tS t - j = m + 1 := ⟨tS t - j - 1, by omega⟩
      have hmS : m < tS t := by omega
      have hm1 : xi_Tm τ t := xi_Tm_fr4 hm (fun c h => q4 c (by omega))
      have hM1 : xi_M τ 0 a := xi_M_fr hM (q4 50 (by decide))
      have e1 := xe_has τ (show k < 2 ^ 31 by omega) (show m < 31 by omega)
      have e2 := xe_mayLie hT hA hm1 hM1 hl hmS
      have e3 := xe_worthOf hT hA hm1 hM1 hl hmS
      have hd : dI (m + 1) = nI m := rfl
      have hend : tS t - (j + 1) = m := by omega
      rw [hmj] at q1
      have no : p m = false → (∀ K rec, xf_X11_findBeds_L195 (nI k, nI l, ρ) K (dI (tS t - j), τ) rec = rec (dI m, xr_up τ 59 l (oI o))) → ∃ s', (∃ τ o, s' = (dI (tS t - (j + 1)), τ) ∧ xs_dn p (tS t) o (tS t - (j + 1)) ∧ τ.1 59 l = oI o ∧ (∀ i, i ≠ l → τ.1 59 i = σ.1 59 i) ∧ ∀ c, c ≠ 59 → τ.1 c = σ.1 c) ∧ ∀ K rec, xf_X11_findBeds_L195 (nI k, nI l, ρ) K (dI (tS t - j), τ) rec = rec s' := by
        intro hpm hbody
        refine ⟨(dI m, xr_up τ 59 l (oI o)), ⟨_, o, by rw [hend], by rw [hend]; exact xs_dn_no q1 hpm, by rw [xp_same, xp_us], fun i hi => by rw [xp_same, xp_un hi, q3 i hi], fun c h => by rw [xp_other h, q4 c h]⟩, hbody⟩
      cases hbit : k.testBit m with
      | true =>
        refine no (by rw [hp]; simp only; rw [xs_bo_no1 hbit]; simp) (fun K rec => ?_)
        unfold xf_X11_findBeds_L195
        dsimp only
        rw [hmj, hd, if_neg (nI_pos (by omega)), e1, hbit, Option.bind_some]
        simp only [xp_jn, bI_t, show ¬ nI 1 = 0 from by decide, if_false, if_true]
        rw [xp_ld (by omega) (by omega), q2, xp_st (by omega) (by omega), xp_dI]
      | false =>
        by_cases hmay : qT a l = none ∧ tE t l ≠ m ∧ (qA a).testBit m = false
        · have hor : k ||| 2 ^ m < 64 := xs_or_lt (n := 6) hk (Nat.lt_of_lt_of_le (xs_pow_lt (n := 6) (by omega)) (Nat.le_refl _))
          have hbo := xs_bo_yes (t := t) hbit hmay
          have hbl := xs_bo_le hT hl hbo
          have e4 : τ.1 58 (64 * (l + 1) + (k ||| 2 ^ m)) = nI (xs_bb t a (tL t - 1 - l) ((k ||| 2 ^ m) ||| qA a)) := by rw [q4 58 (by decide), h58 (l + 1) _ (by omega) hor, show tL t - (l + 1) = tL t - 1 - l by omega]
          have e5 : τ.1 58 (64 * l + k) = nI (xs_bb t a (tL t - l) (k ||| qA a)) := by rw [q4 58 (by decide), h58 l _ (by omega) hk]
          have hbody : ∀ K rec, xf_X11_findBeds_L195 (nI k, nI l, ρ) K (dI (tS t - j), τ) rec = if xs_worth t (qW a) l m + xs_bb t a (tL t - 1 - l) ((k ||| 2 ^ m) ||| qA a) = xs_bb t a (tL t - l) (k ||| qA a) then rec (dI m, xr_up τ 59 l (nI m)) else rec (dI m, xr_up τ 59 l (oI o)) := by
            intro K rec
            unfold xf_X11_findBeds_L195
            dsimp only
            rw [hmj, hd, if_neg (nI_pos (by omega)), e1, hbit, Option.bind_some]
            simp only [xp_jn, bI_f, show (nI 0 = 0) from rfl, if_true, e2, decide_eq_true hmay, Option.bind_some, bI_t, show ¬ nI 1 = 0 from by decide, if_false, e3]
            rw [xp_setL (by omega), xl_64, nI_1, pk_mul, nI_add, xp_ld (by omega) (by omega), e4, nI_add, pk_mul, nI_add, xp_ld (by omega) (by omega), e5]
            by_cases hq : xs_worth t (qW a) l m + xs_bb t a (tL t - 1 - l) ((k ||| 2 ^ m) ||| qA a) = xs_bb t a (tL t - l) (k ||| qA a)
            · rw [if_pos (by rw [hq]), if_pos hq]
              simp only [show ¬ (1 : Int32) = 0 from by decide, if_false]
              rw [xp_st (by omega) (by omega), xp_dI]
            · rw [if_neg (by rw [xp_eq (by omega) (by omega)]; exact hq), if_neg hq]
              rw [xp_ld (by omega) (by omega), q2, xp_st (by omega) (by omega), xp_dI]
          by_cases hq : xs_worth t (qW a) l m + xs_bb t a (tL t - 1 - l) ((k ||| 2 ^ m) ||| qA a) = xs_bb t a (tL t - l) (k ||| qA a)
          · refine ⟨(dI m, xr_up τ 59 l (nI m)), ⟨_, some m, by rw [hend], by rw [hend]; exact xs_dn_yes (o := none) hmS (by rw [hp]; simp only; rw [hbo, hq]; simp), by rw [xp_same, xp_us]; rfl, fun i hi => by rw [xp_same, xp_un hi, q3 i hi], fun c h => by rw [xp_other h, q4 c h]⟩, fun K rec => by rw [hbody, if_pos hq]⟩
          · exact no (by rw [hp]; simp only; rw [hbo]; simpa using hq) (fun K rec => by rw [hbody, if_neg hq])
        · refine no (by rw [hp]; simp only; rw [xs_bo_no2 hmay]; simp) (fun K rec => ?_)
          unfold xf_X11_findBeds_L195
          dsimp only
          rw [hmj, hd, if_neg (nI_pos (by omega)), e1, hbit, Option.bind_some]
          simp only [xp_jn, bI_f, show (nI 0 = 0) from rfl, if_true, e2, decide_eq_false hmay, Option.bind_some]
          rw [xp_ld (by omega) (by omega), q2, xp_st (by omega) (by omega), xp_dI]) (fun s hP K rec => by
      obtain ⟨τ, o, rfl, q1, q2, q3, q4⟩ := hP
      unfold xf_X11_findBeds_L195
      dsimp only
      rw [Nat.sub_self, if_pos (show dI 0 < 0 by decide)]) (tS t) 0 (by omega) (dI (tS t), σ) ⟨σ, none, rfl, ⟨fun _ i h1 h2 => by omega, fun s hs => by cases hs⟩, h59, fun _ _ => rfl, fun _ _ => rfl⟩
  rw [Nat.sub_self] at h1
  exact ⟨τ, by rw [xs_dn_find h1]; exact h2, h4, h5, h3⟩
theorem xe_findBeds {σ : xr_S} {t : xa_T} {a : xa_A} (hT : xi_T t) (hA : xi_A t a) (hm : xi_Tm σ t) (hM : xi_M σ 0 a) : ∃ τ, xf_X11_findBeds σ = some τ ∧ τ.1 58 0 = nI (xs_bb t a (tL t) (qA a)) ∧ (∀ l, l < tL t → τ.1 59 l = oI (xs_bed t a l)) ∧ ∀ c, c ≠ 58 → c ≠ 59 → τ.1 c = σ.1 c := by
  obtain ⟨n1, n2, n3, n4, n5, n6, n7⟩ := id hT
  have hp := xs_pow64 n3
  obtain ⟨τ0, z1, z2, z3⟩ := xe_fbRows hT hA hm hM
  have hm0 : xi_Tm τ0 t := xi_Tm_fr4 hm (fun c h => z2 c (by omega))
  have hM0 : xi_M τ0 0 a := xi_M_fr hM (z2 50 (by decide))
  obtain ⟨s', ⟨τ, rfl, h1, h2⟩, h3⟩ := xp_forK (body := xf_X11_findBeds_L173) (out := fun s => s.2.2) (fun j s => ∃ τ, s = (nI (xs_tm t a j), nI j, τ) ∧ (∀ l, l < j → τ.1 59 l = oI (xs_bed t a l)) ∧ ∀ c, c ≠ 59 → τ.1 c = τ0.1 c) (tL t) (fun j s hj hP => by
      obtain ⟨τ, rfl, q1, q2⟩ := hP
      obtain ⟨τ1, hτ1⟩ : ∃ τ1, τ1 = xr_up τ 59 j (-1) := ⟨_, rfl⟩
      have f1 : ∀ c, c ≠ 59 → τ1.1 c = τ0.1 c := fun c h => by rw [hτ1, xp_other h, q2 c h]
      have hm1 : xi_Tm τ1 t := xi_Tm_fr4 hm0 (fun c h => f1 c (by omega))
      have hM1 : xi_M τ1 0 a := xi_M_fr hM0 (f1 50 (by decide))
      have htm := xs_tm_lt (t := t) (a := a) j
      have htm64 : xs_tm t a j < 64 := by omega
      have htk := xs_tm_tk t a j
      obtain ⟨τ2, r1, r2, r3, r4⟩ := xe_fbDown (l := j) (k := xs_tm t a j) hT hA hm1 hM1 hj htm64 (fun r k hr hk => by rw [f1 58 (by decide)]; exact z1 r k hr hk) (nI (xs_tm t a j), nI j, τ).2.2 (by rw [hτ1, xp_same, xp_us])
      have g1 : ∀ c, c ≠ 59 → τ2.1 c = τ0.1 c := fun c h => by rw [r3 c h, f1 c h]
      have hbb := xs_bb_le (a := a) hT (tL t - j) (xs_tm t a j ||| qA a) (by omega)
      have hbb2 : (tL t - j) * 99000000 ≤ 7 * 99000000 := Nat.mul_le_mul_right _ (by omega)
      have hbb3 := xs_bb_le (a := a) hT (tL t - 1 - j) (xs_tm t a j ||| qA a) (by omega)
      have hbb4 : (tL t - 1 - j) * 99000000 ≤ 6 * 99000000 := Nat.mul_le_mul_right _ (by omega)
      have e4 : τ2.1 58 (64 * (j + 1) + xs_tm t a j) = nI (xs_bb t a (tL t - 1 - j) (xs_tm t a j ||| qA a)) := by rw [g1 58 (by decide), z1 (j + 1) _ (by omega) htm64, show tL t - (j + 1) = tL t - 1 - j by omega]
      have e5 : τ2.1 58 (64 * j + xs_tm t a j) = nI (xs_bb t a (tL t - j) (xs_tm t a j ||| qA a)) := by rw [g1 58 (by decide), z1 j _ (by omega) htm64]
      have hbed : xs_bed t a j = xs_fb t a j (xs_tm t a j ||| qA a) := by rw [← htk]; rfl
      refine ⟨(nI (xs_tm t a (j + 1)), nI (j + 1), xr_up τ2 59 j (oI (xs_bed t a j))), ⟨_, rfl, fun l hl => ?_, fun c h => by rw [xp_other h, g1 c h]⟩, fun K rec => ?_⟩
      · rw [xp_same]
        by_cases hlj : l = j
        · subst hlj; rw [xp_us]
        · rw [xp_un hlj, r2 l hlj, hτ1, xp_same, xp_un hlj, q1 l (by omega)]
      · unfold xf_X11_findBeds_L173
        dsimp only
        have h495 : τ.1 49 5 = nI (tL t) := by rw [q2 49 (by decide)]; exact hm0.2.2.2.1
        rw [h495, if_neg (nI_ge hj (by omega)), xp_st (by omega) (by omega), ← hτ1, xp_v, hm1.2.2.1, xp_dI']
        refine (r4 _).trans ?_
        rw [xl_64, nI_1, pk_mul, nI_add, xp_ld (by omega) (by omega), e4, pk_mul, nI_add, xp_ld (by omega) (by omega), e5, xp_jn]
        have fin : ∀ v : Option Nat, xs_bed t a j = v → (∀ s, v = some s → s < tS t) → xr_st τ2 59 7 (nI j) (oI v) (fun s57 => xr_ld s57 59 7 (nI j) (fun v58 => xr_jn (fun (w59 : Int32) => xr_v (nI (xs_tm t a j) ||| w59) (fun v61 => rec (v61, nI (j + 1), s57))) (fun j60 => if v58 = (-1) then (j60 0) else (xr_ld s57 59 7 (nI j) (fun v63 => j60 ((1 : Int32) <<< (v63 &&& 31))))))) = rec (nI (xs_tm t a (j + 1)), nI (j + 1), xr_up τ2 59 j (oI (xs_bed t a j))) := by
          intro v hv hvs
          rw [xp_st (by omega) (by omega), xp_ld (by omega) (by omega), xp_same, xp_us, xp_jn, hv]
          rw [hbed] at hv
          cases v with
          | none =>
            have htk1 : xs_tm t a (j + 1) = xs_tm t a j := by simp only [xs_tm, hv]
            rw [if_pos (show oI none = -1 from rfl), htk1]
            dsimp only
            rw [xp_v, xl_0, xp_or, Nat.or_zero]
          | some s =>
            have hs := hvs s rfl
            have htk1 : xs_tm t a (j + 1) = xs_tm t a j ||| 2 ^ s := by simp only [xs_tm, hv]
            rw [xp_oIs, if_neg (xp_m1 s (by omega)), xp_ld (by omega) (by omega), xp_same, xp_us]
            dsimp only
            rw [xp_v, xp_setL (by omega), htk1]
        by_cases hq : xs_bb t a (tL t - 1 - j) (xs_tm t a j ||| qA a) = xs_bb t a (tL t - j) (xs_tm t a j ||| qA a)
        · rw [if_pos (by rw [hq])]
          exact fin none (by rw [hbed]; unfold xs_fb; rw [if_pos hq]) (fun s hs => by cases hs)
        · rw [if_neg (by rw [xp_eq (by omega) (by omega)]; exact hq), xp_ld (by omega) (by omega), r1]
          exact fin _ (by rw [hbed]; unfold xs_fb; rw [if_neg hq]) (fun s hs => (xs_find_some.mp hs).1)) (fun s hP K rec => by
      obtain ⟨τ, rfl, q1, q2⟩ := hP
      have h495 : τ.1 49 5 = nI (tL t) := by rw [q2 49 (by decide)]; exact hm0.2.2.2.1
      unfold xf_X11_findBeds_L173
      dsimp only
      rw [h495, if_pos (nI_le (Nat.le_refl _) (by omega))]) (tL t) 0 (by omega) (0, 0, τ0) ⟨τ0, rfl, fun _ h => by omega, fun _ _ => rfl⟩
  refine ⟨τ, ?_, ?_, h1, fun c g1 g2 => by rw [h2 c g2, z2 c g1]⟩
  · unfold xf_X11_findBeds
    rw [xp_v, hm.2.2.2.1]
    exact (z3 _).trans (h3 _)
  · have := z1 0 0 (by omega) (by omega)
    rw [Nat.mul_zero, Nat.add_zero, Nat.sub_zero, Nat.zero_or] at this
    rw [h2 58 (by decide), this]
theorem xi_fr_c : ∀ c, c < 64 → (31 ≤ c ∧ c ≤ 38 ∨ 41 ≤ c ∧ c ≤ 44 ∨ c = 50 ∨ c = 58 ∨ c = 59 ∨ c = 60 ∨ c = 62 ∨ c = 63) → xi_free c = true := by decide
/-- both sides change only what holds nothing between calls -/
theorem xi_scr {σ σ1 σ2 : xr_S} {t : xa_T} {a : xa_A} (h : xi_I σ t a) (hc : ∀ c, (c < 31 ∨ 38 < c) → (c < 41 ∨ 44 < c) → σ1.1 c = σ.1 c) (hm : ∀ c, c ≠ 50 → c ≠ 58 → c ≠ 59 → c ≠ 60 → c ≠ 62 → c ≠ 63 → σ2.1 c = σ1.1 c) (hk : ∀ k, (k < 55 ∨ 110 ≤ k) → σ2.1 50 k = σ1.1 50 k) : xi σ2 := by
  obtain ⟨hT, hA, -, -, hC, hM, -⟩ := id h
  have key : ∀ c, xi_free c = false → ¬ (31 ≤ c ∧ c ≤ 38 ∨ 41 ≤ c ∧ c ≤ 44 ∨ c = 50 ∨ c = 58 ∨ c = 59 ∨ c = 60 ∨ c = 62 ∨ c = 63) := fun c hf hh => by
    have := xi_fr_c c (by omega) hh
    rw [this] at hf; cases hf
  have e50 : σ1.1 50 = σ.1 50 := hc 50 (by omega) (by omega)
  refine ⟨t, a, xi_two h (fun c hh => ?_) (fun c hh => ?_) (fun k hh => hk k (by omega)) hA (xi_C_fr hC (hc _ (by omega) (by omega)) (hc _ (by omega) (by omega)) (hc _ (by omega) (by omega)) (hc _ (by omega) (by omega))) (xi_M_cp (xi_M_fr hM e50) (fun k hh => hk _ (by omega)))⟩
  · rcases hh with hh | hh
    · exact hc c (by omega) (by omega)
    · have := key c hh
      exact hc c (by omega) (by omega)
  · rcases hh with hh | hh
    · exact hm c (by omega) (by omega) (by omega) (by omega) (by omega) (by omega)
    · have := key c hh
      exact hm c (by omega) (by omega) (by omega) (by omega) (by omega) (by omega)
theorem xy_beds {σ : xr_S} (h : xi σ) (x : Int32) : xi_ok σ (xf_X10_beds σ x) (fun τ => xf_X11_beds τ x) := by
  obtain ⟨t, a, hI⟩ := h
  obtain ⟨hT, hA, hc, hm, hC, hM, -⟩ := id hI
  obtain ⟨n1, n2, n3, n4, n5, n6, n7⟩ := id hT
  obtain ⟨σ1, p1, p2, p3, p4, p5⟩ := xe_make hT hA hc hC
  have hm1 : xi_Tm σ1 t := xi_Tm_fr hm (fun c h => p5 c (by omega) (by omega) (by omega) (by omega))
  have hM1 : xi_M σ1 0 a := xi_M_fr hM (p5 50 (by decide) (by decide) (by decide) (by decide))
  obtain ⟨σ2, r1, r2, r3, r4⟩ := xe_findBeds hT hA hm1 hM1
  have hfin : xi σ2 := xi_scr hI (fun c h1 h2 => p5 c (by omega) (by omega) (by omega) (by omega)) (fun c h1 h2 h3 h4 h5 h6 => r4 c h2 h3) (fun k hk => by rw [r4 50 (by decide) (by decide)])
  unfold xi_ok xf_X10_beds xf_X11_beds
  simp only [xp_jn]
  by_cases hx : x = -1
  · refine ⟨nI (xs_bb t a (tL t) (qA a)), σ1, σ2, ?_, ?_, hfin⟩
    · rw [if_pos hx, p1, Option.bind_some, if_pos hx, p2]
    · rw [if_pos hx, r1, Option.bind_some, if_pos hx, xl_0, xp_ld (by omega) (by omega), r2]
  · cases hl : xs_inr x (tL t) with
    | false =>
      refine ⟨-1000000001, σ, σ, ?_, ?_, ⟨t, a, hI⟩⟩
      · rw [if_neg hx, xe_hasLoaf hc.2.2.2.1, hl]; rfl
      · rw [if_neg hx, xe_isLoaf hm.2.2.2.1 (by omega), hl]; rfl
    | true =>
      obtain ⟨l, hl1, rfl⟩ := xs_inr_t (by omega) hl
      refine ⟨oI (xs_bed t a l), σ1, σ2, ?_, ?_, hfin⟩
      · rw [if_neg hx, xe_hasLoaf hc.2.2.2.1, hl, bI_t, Option.bind_some, if_neg (by decide), p1, Option.bind_some, if_neg hx, xp_ld (by omega) (by omega), p4 l hl1]
      · rw [if_neg hx, xe_isLoaf hm1.2.2.2.1 (by omega), hl, bI_t, Option.bind_some, if_neg (by decide), r1, Option.bind_some, if_neg hx, xp_ld (by omega) (by omega), r3 l hl1]
