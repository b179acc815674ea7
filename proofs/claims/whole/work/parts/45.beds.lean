/-! beds: the best, exactly -/
def xs_mx (f : Nat → Nat) (i : Nat) : Nat → Nat
  | 0 => i
  | n + 1 => if xs_mx f i n < f n then f n else xs_mx f i n
theorem xs_mx_le {f : Nat → Nat} {i b : Nat} (hi : i ≤ b) : ∀ n, (∀ k, k < n → f k ≤ b) → xs_mx f i n ≤ b := by
  intro n
  induction n with
  | zero => intro _; exact hi
  | succ n ih =>
    intro h
    simp only [xs_mx]
    split
    · exact h n (by omega)
    · exact ih (fun k hk => h k (by omega))
theorem xs_mx_ge {f : Nat → Nat} {i : Nat} : ∀ n, i ≤ xs_mx f i n := by
  intro n
  induction n with
  | zero => exact Nat.le_refl _
  | succ n ih =>
    simp only [xs_mx]
    split <;> omega
def xs_wo (t : xa_T) (a : xa_A) (l s : Nat) : Option Nat := if qT a l = none ∧ tE t l ≠ s then some (xs_worth t (qW a) l s) else none
def xs_bb (t : xa_T) (a : xa_A) : Nat → Nat → Nat
  | 0, _ => 0
  | m + 1, k => xs_mx (fun s => ((xs_wo t a (tL t - 1 - m) s).bind (fun w => if k.testBit s then none else some (w + xs_bb t a m (k ||| 2 ^ s)))).getD 0) (xs_bb t a m k) (tS t)
def xs_bo (t : xa_T) (a : xa_A) (l s k : Nat) : Option Nat := (xs_wo t a l s).bind (fun w => if k.testBit s then none else some (w + xs_bb t a (tL t - 1 - l) (k ||| 2 ^ s)))
theorem xs_bb_step {t : xa_T} {a : xa_A} {l k : Nat} (hl : l < tL t) : xs_bb t a (tL t - l) k = xs_mx (fun s => (xs_bo t a l s k).getD 0) (xs_bb t a (tL t - 1 - l) k) (tS t) := by
  obtain ⟨m, hm⟩ : ∃ m, tL t - l = m + 1 := ⟨tL t - 1 - l, by omega⟩
  have h1 : tL t - 1 - l = m := by omega
  have h2 : tL t - 1 - m = l := by omega
  rw [hm, h1]
  simp only [xs_bb, xs_bo, h1, h2]
theorem xs_sum_ge5 {g : Nat → Nat} {d : Nat} : ∀ n, d < n → g d ≤ xs_sum g n := by
  intro n
  induction n with
  | zero => intro h; omega
  | succ n ih =>
    intro h
    simp only [xs_sum]
    by_cases hh : d = n
    · subst hh; omega
    · have := ih (by omega); omega
theorem xs_worth_le2 {t : xa_T} {w : Nat → Nat → Nat} (hT : xi_T t) {l s : Nat} (hl : l < tL t) : xs_worth t w l s ≤ 99000000 := by
  unfold xs_worth
  have k := hT.2.2.2.2.2.2 l hl
  have h5 := hT.1
  have hw : w s (tW t l) ≤ xs_sum (w s) 5 := xs_sum_ge5 5 (by omega)
  apply Nat.div_le_of_le_mul
  have h1 : 1000000 * tV t l ≤ 99000000 := by omega
  have h2 := Nat.mul_le_mul h1 hw
  rw [Nat.mul_comm (xs_sum (w s) 5)]
  exact h2
theorem xs_wo_le {t : xa_T} {a : xa_A} {l s v : Nat} (hT : xi_T t) (hl : l < tL t) (h : xs_wo t a l s = some v) : v ≤ 99000000 := by
  unfold xs_wo at h
  split at h
  · cases h
    exact xs_worth_le2 hT hl
  · cases h
theorem xs_bb_le {t : xa_T} {a : xa_A} (hT : xi_T t) : ∀ m k, m ≤ tL t → xs_bb t a m k ≤ m * 99000000 := by
  intro m
  induction m with
  | zero => intro k _; simp [xs_bb]
  | succ m ih =>
    intro k hm
    simp only [xs_bb]
    refine xs_mx_le (Nat.le_trans (ih k (by omega)) (Nat.mul_le_mul_right _ (Nat.le_succ m))) _ (fun s hs => ?_)
    cases hw : xs_wo t a (tL t - 1 - m) s with
    | none => simp
    | some w =>
      have h1 := xs_wo_le hT (by omega) hw
      simp only [Option.bind_some]
      split
      · simp
      · have h2 := ih (k ||| 2 ^ s) (by omega)
        simp only [Option.getD_some]
        rw [Nat.succ_mul, Nat.add_comm w]
        exact Nat.add_le_add h2 h1
theorem xs_bo_le {t : xa_T} {a : xa_A} {l s k v : Nat} (hT : xi_T t) (hl : l < tL t) (h : xs_bo t a l s k = some v) : v < 2 ^ 30 := by
  unfold xs_bo at h
  cases hw : xs_wo t a l s with
  | none => rw [hw] at h; cases h
  | some w =>
    rw [hw, Option.bind_some] at h
    have h1 := xs_wo_le hT hl hw
    have h2 := xs_bb_le (a := a) hT (tL t - 1 - l) (k ||| 2 ^ s) (by omega)
    have h3 := hT.2.2.2.1
    split at h
    · cases h
    · cases h
      have : (tL t - 1 - l) * 99000000 ≤ 6 * 99000000 := Nat.mul_le_mul_right _ (by omega)
      omega
def dI : Nat → Int32
  | 0 => -1
  | m + 1 => nI m
theorem xp_dI (m : Nat) : nI m + (-1) = dI m := by
  cases m with
  | zero => decide
  | succ m => exact pk_m1 m
theorem xp_dI' (m : Nat) : nI m - 1 = dI m := by
  cases m with
  | zero => decide
  | succ m => exact nI_pred m
theorem xe_fillWorths {σ : xr_S} {t : xa_T} {a : xa_A} {l : Nat} (hT : xi_T t) (hA : xi_A t a) (hc : xi_Tc σ t) (hC : xi_C σ 15 a) (hl : l < tL t) : ∃ τ, xf_X0_fillWorths σ (nI l) = some τ ∧ (∀ s, s < tS t → τ.1 33 s = oI (xs_wo t a l s)) ∧ ∀ c, c ≠ 33 → τ.1 c = σ.1 c := by
  obtain ⟨n1, n2, n3, n4, n5, n6, n7⟩ := id hT
  have hb := xi_bounds hT hA
  unfold xf_X0_fillWorths
  obtain ⟨s', ⟨τ, rfl, h1, h2⟩, h3⟩ := xp_forS (body := xf_X0_fillWorths_L3 (nI l) (fun (e3 : xr_S) => some e3)) (K := fun s => some s.2) (fun j s => ∃ τ, s = (nI j, τ) ∧ (∀ s, s < j → τ.1 33 s = oI (xs_wo t a l s)) ∧ ∀ c, c ≠ 33 → τ.1 c = σ.1 c) (tS t) 0 (by omega) (fun j s h1 h2 hP => by
      obtain ⟨τ, rfl, q1, q2⟩ := hP
      have hc1 : xi_Tc τ t := xi_Tc_fr hc (fun c h => q2 c (by omega))
      have hC1 : xi_C τ 15 a := xi_C_fr hC (q2 _ (by decide)) (q2 _ (by decide)) (q2 _ (by decide)) (q2 _ (by decide))
      have e1 := xe_isFresh (hC1.2.2.1 l (by omega)) (hb.2.1 l) (show l < 7 by omega)
      have e2 := xe_worthOn hT hA hc1 hC1 hl h2
      obtain ⟨g1, g2, g3⟩ := hc1.2.2.2.2.2 l hl
      obtain ⟨k1, k2, k3⟩ := n7 l hl
      refine ⟨(nI (j + 1), xr_up τ 33 j (oI (xs_wo t a l j))), ⟨_, rfl, fun s hs => ?_, fun c h => by rw [xp_other h, q2 c h]⟩, fun rec => ?_⟩
      · rw [xp_same]
        by_cases hsj : s = j
        · subst hsj; rw [xp_us]
        · rw [xp_un hsj, q1 s (by omega)]
      · unfold xf_X0_fillWorths_L3
        dsimp only
        rw [hc1.2.2.1, if_neg (nI_ge (by omega) (by omega)), e1]
        simp (disch := omega) only [Option.bind_some, xp_jn, xp_ld, g1, e2, xl_1, nI_add, xp_st]
        unfold xs_wo
        cases hq : qT a l with
        | some d =>
          simp only [Option.isNone_some, bI_f, show (nI 0 = 0) from rfl, if_true]
          have hn : ¬ (some d = none ∧ tE t l ≠ j) := fun h => by cases h.1
          rw [if_neg hn]
          rfl
        | none =>
          simp only [Option.isNone_none, bI_t, show ¬ nI 1 = 0 from by decide, if_false, true_and]
          by_cases he : tE t l = j
          · rw [if_pos (by rw [he])]
            simp [he]
            rfl
          · rw [if_neg (by rw [xp_eq (by omega) (by omega)]; exact he)]
            simp [he]
            rfl) (fun s hP rec => by
      obtain ⟨τ, rfl, q1, q2⟩ := hP
      have hc1 : xi_Tc τ t := xi_Tc_fr hc (fun c h => q2 c (by omega))
      unfold xf_X0_fillWorths_L3
      dsimp only
      rw [hc1.2.2.1, if_pos (nI_le (by omega) (by omega))]) (0, σ) ⟨σ, rfl, fun _ h => by omega, fun _ _ => rfl⟩
  exact ⟨τ, h3, h1, h2⟩
theorem xe_bestOn {σ : xr_S} {t : xa_T} {a : xa_A} {l s k : Nat} (hT : xi_T t) (hl : l < tL t) (hs : s < tS t) (hk : k < 2 ^ tS t) (h33 : ∀ s, s < tS t → σ.1 33 s = oI (xs_wo t a l s)) (h34 : ∀ k, k < 2 ^ tS t → σ.1 34 ((l + 1) * 64 + k) = nI (xs_bb t a (tL t - 1 - l) k)) : xf_X0_bestOn σ (nI l) (nI s) (nI k) = some (oI (xs_bo t a l s k)) := by
  obtain ⟨n1, n2, n3, n4, n5, n6, n7⟩ := id hT
  have hk64 : k < 64 := Nat.lt_of_lt_of_le hk (Nat.pow_le_pow_right (by decide) n3 : 2 ^ tS t ≤ 2 ^ 6)
  have hor : k ||| 2 ^ s < 2 ^ tS t := xs_or_lt hk (xs_pow_lt hs)
  have hor64 : k ||| 2 ^ s < 64 := Nat.lt_of_lt_of_le hor (Nat.pow_le_pow_right (by decide) n3 : 2 ^ tS t ≤ 2 ^ 6)
  have hb : ((nI k >>> (nI s &&& 31)) &&& 1) = bI (k.testBit s) := xp_bitb (by omega) (by omega)
  unfold xf_X0_bestOn xs_bo
  rw [xp_ld (by omega) (by omega), h33 s hs, hb]
  cases hw : xs_wo t a l s with
  | none => rfl
  | some w =>
    have h1 := xs_wo_le hT hl hw
    rw [xp_oIs, if_neg (xp_m1 w (by omega)), Option.bind_some]
    cases ht : k.testBit s with
    | true => rfl
    | false =>
      rw [if_neg (by decide), xp_ld (by omega) (by omega), h33 s hs, hw, xp_setL (by omega), xl_1, nI_add, xl_64, pk_mul, nI_add, xp_ld (by omega) (by omega), h34 _ hor, xp_oIs, nI_add]
      simp
      rfl
theorem xe_bestFrom {σ : xr_S} {t : xa_T} {a : xa_A} {l k : Nat} (hT : xi_T t) (h2 : σ.1 9 2 = nI (tS t)) (hl : l < tL t) (hk : k < 2 ^ tS t) (h33 : ∀ s, s < tS t → σ.1 33 s = oI (xs_wo t a l s)) (h34 : ∀ k, k < 2 ^ tS t → σ.1 34 ((l + 1) * 64 + k) = nI (xs_bb t a (tL t - 1 - l) k)) : xf_X0_bestFrom σ (nI l) (nI k) = some (nI (xs_bb t a (tL t - l) k)) := by
  obtain ⟨n1, n2, n3, n4, n5, n6, n7⟩ := id hT
  have hk64 : k < 64 := Nat.lt_of_lt_of_le hk (Nat.pow_le_pow_right (by decide) n3 : 2 ^ tS t ≤ 2 ^ 6)
  have hb1 := xs_bb_le (a := a) hT (tL t - 1 - l) k (by omega)
  have hb2 : (tL t - 1 - l) * 99000000 ≤ 6 * 99000000 := Nat.mul_le_mul_right _ (by omega)
  unfold xf_X0_bestFrom
  rw [xl_1, nI_add, xl_64, pk_mul, nI_add, xp_ld (by omega) (by omega), h34 k hk]
  rw [xs_bb_step hl]
  refine xp_iter (fun j => (nI (xs_mx (fun s => (xs_bo t a l s k).getD 0) (xs_bb t a (tL t - 1 - l) k) j), nI j)) 0 (tS t) rfl (fun j h1 h2' rec => ?_) (fun rec => ?_)
  · have e1 := xe_bestOn hT hl (show j < tS t by omega) hk h33 h34
    have hm := xs_mx_le (f := fun s => (xs_bo t a l s k).getD 0) (i := xs_bb t a (tL t - 1 - l) k) (b := 2 ^ 30) (by omega) j (fun i hi => by
      cases hq : xs_bo t a l i k with
      | none => simp
      | some v => have := xs_bo_le hT hl hq; simp; omega)
    unfold xf_X0_bestFrom_L18
    dsimp only
    rw [h2, if_neg (nI_ge (by omega) (by omega)), e1, Option.bind_some, xp_v, xl_1, nI_add]
    congr 2
    simp only [xs_mx]
    cases hq : xs_bo t a l j k with
    | none =>
      have hz : ¬ nI (xs_mx (fun s => (xs_bo t a l s k).getD 0) (xs_bb t a (tL t - 1 - l) k) j) < oI none := by
        intro h
        have q1 := Int32.lt_iff_toInt_lt.mp h
        rw [nI_toInt (by omega)] at q1
        have : (oI none).toInt = -1 := by decide
        omega
      rw [if_neg hz, if_neg (by simp)]
    | some v =>
      have := xs_bo_le hT hl hq
      simp only [Option.getD_some]
      by_cases hlt : xs_mx (fun s => (xs_bo t a l s k).getD 0) (xs_bb t a (tL t - 1 - l) k) j < v
      · have h1 : nI (xs_mx (fun s => (xs_bo t a l s k).getD 0) (xs_bb t a (tL t - 1 - l) k) j) < oI (some v) := nI_lt hlt (by omega)
        rw [if_pos h1, if_pos hlt]; rfl
      · have h1 : ¬ nI (xs_mx (fun s => (xs_bo t a l s k).getD 0) (xs_bb t a (tL t - 1 - l) k) j) < oI (some v) := nI_nlt (by omega) (by omega)
        rw [if_neg h1, if_neg hlt]
  · unfold xf_X0_bestFrom_L18
    dsimp only
    rw [Nat.zero_add, h2, if_pos (nI_le (by omega) (by omega))]
/-- the bed of a loaf, where these are taken -/
def xs_fb (t : xa_T) (a : xa_A) (l k : Nat) : Option Nat := if xs_bb t a (tL t - 1 - l) k = xs_bb t a (tL t - l) k then none else xs_find (fun s => decide (xs_bo t a l s k = some (xs_bb t a (tL t - l) k))) (tS t)
theorem xe_firstBed {σ : xr_S} {t : xa_T} {a : xa_A} {l k : Nat} (hT : xi_T t) (h2 : σ.1 9 2 = nI (tS t)) (hl : l < tL t) (hk : k < 2 ^ tS t) (h33 : ∀ s, s < tS t → σ.1 33 s = oI (xs_wo t a l s)) (h34 : ∀ k, k < 2 ^ tS t → σ.1 34 ((l + 1) * 64 + k) = nI (xs_bb t a (tL t - 1 - l) k)) (h34' : ∀ k, k < 2 ^ tS t → σ.1 34 (l * 64 + k) = nI (xs_bb t a (tL t - l) k)) : xf_X0_firstBed σ (nI l) (nI k) = some (oI (xs_fb t a l k)) := by
  obtain ⟨n1, n2, n3, n4, n5, n6, n7⟩ := id hT
  have hk64 : k < 64 := Nat.lt_of_lt_of_le hk (Nat.pow_le_pow_right (by decide) n3 : 2 ^ tS t ≤ 2 ^ 6)
  have hb1 := xs_bb_le (a := a) hT (tL t - 1 - l) k (by omega)
  have hb2 : (tL t - 1 - l) * 99000000 ≤ 6 * 99000000 := Nat.mul_le_mul_right _ (by omega)
  have hb3 := xs_bb_le (a := a) hT (tL t - l) k (by omega)
  have hb4 : (tL t - l) * 99000000 ≤ 7 * 99000000 := Nat.mul_le_mul_right _ (by omega)
  unfold xf_X0_firstBed xs_fb
  rw [xl_1, nI_add, xl_64, pk_mul, nI_add, pk_mul, nI_add, xp_ld (by omega) (by omega), xp_ld (by omega) (by omega), h34 k hk, h34' k hk]
  by_cases hq : xs_bb t a (tL t - 1 - l) k = xs_bb t a (tL t - l) k
  · rw [if_pos (by rw [hq]), if_pos hq]; rfl
  · rw [if_neg (by rw [xp_eq (by omega) (by omega)]; exact hq), if_neg hq]
    refine xp_inv (Q := fun o => o = some (oI (xs_find (fun s => decide (xs_bo t a l s k = some (xs_bb t a (tL t - l) k))) (tS t)))) (fun j x => x = nI j ∧ xs_find (fun s => decide (xs_bo t a l s k = some (xs_bb t a (tL t - l) k))) j = none) (tS t) (fun j x hj hI => ?_) (fun x hI => ?_) 0 _ (by omega) ⟨rfl, rfl⟩
    · obtain ⟨rfl, hn⟩ := hI
      have e1 := xe_bestOn hT hl hj hk h33 h34
      by_cases hp : xs_bo t a l j k = some (xs_bb t a (tL t - l) k)
      · left
        refine ⟨some (nI j), fun rec => ?_, ?_⟩
        · unfold xf_X0_firstBed_L36
          rw [h2, if_neg (nI_ge (by omega) (by omega)), e1, Option.bind_some, hp, xp_oIs, if_pos rfl]
        · have : xs_find (fun s => decide (xs_bo t a l s k = some (xs_bb t a (tL t - l) k))) (tS t) = some j := xs_find_some.mpr ⟨hj, by simpa using hp, fun i hi => xs_find_none.mp hn i hi⟩
          rw [this]; rfl
      · right
        refine ⟨nI (j + 1), ⟨rfl, ?_⟩, fun rec => ?_⟩
        · simp [xs_find, hn, hp]
        · unfold xf_X0_firstBed_L36
          rw [h2, if_neg (nI_ge (by omega) (by omega)), e1, Option.bind_some, if_neg, nI_succ]
          rw [xp_oIe (fun n hn => by have := xs_bo_le hT hl hn; omega) (by omega)]
          exact hp
    · obtain ⟨rfl, hn⟩ := hI
      refine ⟨some (-1), fun rec => ?_, by rw [hn]; rfl⟩
      unfold xf_X0_firstBed_L36
      rw [h2, if_pos (nI_le (by omega) (by omega))]
      rfl
/-- who is taken before each loaf -/
def xs_tk (t : xa_T) (a : xa_A) : Nat → Nat
  | 0 => qA a
  | l + 1 => match xs_fb t a l (xs_tk t a l) with
    | none => xs_tk t a l
    | some s => xs_tk t a l ||| 2 ^ s
def xs_bed (t : xa_T) (a : xa_A) (l : Nat) : Option Nat := xs_fb t a l (xs_tk t a l)
theorem xs_fb_lt {t : xa_T} {a : xa_A} {l k s : Nat} (h : xs_fb t a l k = some s) : s < tS t ∧ xs_bo t a l s k = some (xs_bb t a (tL t - l) k) := by
  unfold xs_fb at h
  split at h
  · cases h
  · obtain ⟨h1, h2, h3⟩ := xs_find_some.mp h
    exact ⟨h1, by simpa using h2⟩
theorem xs_tk_lt {t : xa_T} {a : xa_A} (hA : xi_A t a) : ∀ l, xs_tk t a l < 2 ^ tS t := by
  intro l
  induction l with
  | zero => exact hA.2.2.2.2.2.2.2.1
  | succ l ih =>
    simp only [xs_tk]
    split
    · exact ih
    next s hs => exact xs_or_lt ih (xs_pow_lt (xs_fb_lt hs).1)
