/-! crumbs: the reference's search -/
def xs_lay (fr : Nat → Bool) (f : Nat → Nat) (k : Nat) : Int32 := if fr k then -2 else nI (f k)
def xs_fs (fr : Nat → Bool) (p : Nat × (Nat → Int32)) (f : Nat → Nat) : Nat × (Nat → Int32) := (p.1 + 1, fun k => if p.1 = 0 ∨ p.2 k = xs_lay fr f k then xs_lay fr f k else -1)
theorem xe_cr53 {σ : xr_S} {L wy : Nat} {ly su : Nat → Int32} (hL : σ.1 49 5 = nI L) (hL7 : L ≤ 7) (hwy : wy < 2 ^ 31) (h62 : ∀ i, i < L → σ.1 62 i = ly i) (h63 : ∀ i, i < L → σ.1 63 i = su i) (x y : Int32) (ρ : xr_S) : ∃ τ, (∀ i, i < L → τ.1 63 i = if wy = 0 ∨ su i = ly i then ly i else -1) ∧ (∀ c, c ≠ 63 → τ.1 c = σ.1 c) ∧ ∀ K : xr_S → Option (Int32 × xr_S), xr_lw (xf_X11_findCrumbs_L53 (nI wy, x, y, ρ) K) (0, σ) = K τ := by
  obtain ⟨s', ⟨τ, rfl, h1, h2, h4⟩, h3⟩ := xp_forK (body := xf_X11_findCrumbs_L53 (nI wy, x, y, ρ)) (out := fun s => s.2) (fun j s => ∃ τ : xr_S, s = (nI j, τ) ∧ (∀ i, i < j → τ.1 63 i = if wy = 0 ∨ su i = ly i then ly i else -1) ∧ (∀ i, j ≤ i → i < L → τ.1 63 i = su i) ∧ ∀ c, c ≠ 63 → τ.1 c = σ.1 c) L (fun j s hj hP => by
      obtain ⟨τ, rfl, q1, q2, q3⟩ := hP
      have e62 : τ.1 62 j = ly j := by rw [q3 62 (by decide)]; exact h62 j hj
      refine ⟨(nI (j + 1), xr_up τ 63 j (if wy = 0 ∨ su j = ly j then ly j else -1)), ⟨_, rfl, fun i hi => ?_, fun i h1 h2 => by rw [xp_same, xp_un (by omega), q2 i (by omega) h2], fun c h => by rw [xp_other h, q3 c h]⟩, fun K rec => ?_⟩
      · rw [xp_same]
        by_cases hij : i = j
        · rw [hij, xp_us]
        · rw [xp_un hij, q1 i (by omega)]
      · unfold xf_X11_findCrumbs_L53
        dsimp only
        rw [q3 49 (by decide), hL, if_neg (nI_ge hj (by omega))]
        simp only [xp_jn]
        by_cases hw : wy = 0
        · rw [if_pos (by rw [hw]; rfl), xp_ld (by omega) (by omega), e62, xp_st (by omega) (by omega), nI_1, if_pos (Or.inl hw)]
        · rw [if_neg (by rw [xl_0, xp_eq hwy (by omega)]; exact hw), xp_ld (by omega) (by omega), q2 j (Nat.le_refl _) hj, xp_ld (by omega) (by omega), e62]
          by_cases hs : su j = ly j
          · rw [if_pos hs, xp_ld (by omega) (by omega), e62, xp_st (by omega) (by omega), nI_1, if_pos (Or.inr hs)]
          · rw [if_neg hs, xp_st (by omega) (by omega), nI_1, if_neg (fun h => h.elim hw hs)]) (fun s hP K rec => by
      obtain ⟨τ, rfl, q1, q2, q3⟩ := hP
      unfold xf_X11_findCrumbs_L53
      dsimp only
      rw [q3 49 (by decide), hL, if_pos (nI_le (Nat.le_refl _) (by omega))]) L 0 (by omega) (0, σ) ⟨σ, rfl, fun _ h => by omega, fun i _ hi => h63 i hi, fun _ _ => rfl⟩
  exact ⟨τ, h1, h4, h3⟩
def xs_ok (t : xa_T) (a : xa_A) (l k s : Nat) : Bool := xs_al t a l s && !k.testBit s
theorem xe_cr211 {σ : xr_S} {t : xa_T} {a : xa_A} {l k s0 : Nat} (hT : xi_T t) (hA : xi_A t a) (hm : xi_Tm σ t) (hM : xi_M σ 0 a) (hl : l < tL t) (hq : qT a l ≠ none) (hk : k < 64) (hs0 : s0 ≤ tS t) (x y : Int32) : ∃ e, s0 ≤ e ∧ e ≤ tS t ∧ (∀ i, s0 ≤ i → i < e → xs_ok t a l k i = false) ∧ (e < tS t → xs_ok t a l k e = true) ∧ ∀ K : Int32 → Option (Int32 × xr_S), xr_lw (xf_X11_findCrumbs_L211 (x, nI l, y, σ) (nI k) K) (nI s0) = K (nI e) := by
  obtain ⟨n1, n2, n3, n4, n5, n6, n7⟩ := id hT
  obtain ⟨g1, g2, g3⟩ := hm.2.2.2.2.2 l hl
  obtain ⟨k1, k2, k3⟩ := n7 l hl
  obtain ⟨d, hd⟩ : ∃ d, qT a l = some d := by
    cases h : qT a l with
    | none => exact absurd h hq
    | some d => exact ⟨d, rfl⟩
  have hdN := (hA.2.2.2.2.2.1 l d hd).2
  have hts : σ.1 50 (37 + l) = nI d := by have := (xi_M0 hM).2.2.1 l (by omega); rw [hd] at this; exact this
  have key := xp_forX (body := xf_X11_findCrumbs_L211 (x, nI l, y, σ) (nI k)) (fun j s => s = nI j ∧ s0 ≤ j ∧ ∀ i, s0 ≤ i → i < j → xs_ok t a l k i = false) (fun g => ∃ e, g = nI e ∧ s0 ≤ e ∧ e ≤ tS t ∧ (∀ i, s0 ≤ i → i < e → xs_ok t a l k i = false) ∧ (e < tS t → xs_ok t a l k e = true)) (tS t) (fun j s hj hP => by
      obtain ⟨rfl, hsj, q1⟩ := hP
      have hw := hA.1 j d
      have e1 := xe_has σ (show k < 2 ^ 31 by omega) (show j < 31 by omega)
      have e2 := xe_weightOf (xi_V hA hM) (by omega) (show j < 6 by omega) (show d < 5 by omega)
      have hok : xs_ok t a l k j = ((decide (j ≠ tE t l) && decide (0 < qW a j d)) && !k.testBit j) := by unfold xs_ok xs_al; rw [hd]; rfl
      have next : xs_ok t a l k j = false → (∀ (K : Int32 → Option (Int32 × xr_S)) rec, xf_X11_findCrumbs_L211 (x, nI l, y, σ) (nI k) K (nI j) rec = rec (nI j + 1)) → ∃ s', (s' = nI (j + 1) ∧ s0 ≤ j + 1 ∧ ∀ i, s0 ≤ i → i < j + 1 → xs_ok t a l k i = false) ∧ ∀ (K : Int32 → Option (Int32 × xr_S)) rec, xf_X11_findCrumbs_L211 (x, nI l, y, σ) (nI k) K (nI j) rec = rec s' := by
        intro h1 h2
        refine ⟨nI (j + 1), ⟨rfl, by omega, fun i g1 g2 => ?_⟩, fun K rec => by rw [h2, nI_1]⟩
        by_cases hij : i = j
        · rw [hij]; exact h1
        · exact q1 i g1 (by omega)
      cases hb : k.testBit j with
      | true =>
        right
        refine next (by rw [hok, hb]; simp) (fun K rec => ?_)
        unfold xf_X11_findCrumbs_L211
        dsimp only
        rw [hm.2.2.1, if_neg (nI_ge hj (by omega)), e1, hb, Option.bind_some, xp_jn, if_neg (show ¬ bI true = 0 by decide)]
      | false =>
        by_cases he : j = tE t l
        · right
          refine next (by rw [hok]; simp [he]) (fun K rec => ?_)
          unfold xf_X11_findCrumbs_L211
          dsimp only
          rw [hm.2.2.1, if_neg (nI_ge hj (by omega)), e1, hb, Option.bind_some, xp_jn, if_pos (show bI false = 0 from rfl), xp_ld (by omega) (by omega), g1, if_pos (by rw [he])]
        · by_cases hz : 0 < qW a j d
          · left
            · refine ⟨nI j, ⟨j, rfl, hsj, by omega, q1, fun _ => by rw [hok, hb]; simp [he, hz]⟩, fun K rec => ?_⟩
              unfold xf_X11_findCrumbs_L211
              dsimp only
              rw [hm.2.2.1, if_neg (nI_ge hj (by omega)), e1, hb, Option.bind_some, xp_jn, if_pos (show bI false = 0 from rfl), xp_ld (by omega) (by omega), g1, if_neg (by rw [xp_eq (by omega) (by omega)]; exact he), xl_37, nI_add, xp_ld (by omega) (by omega), hts, xl_0, e2, Option.bind_some, if_neg (by rw [xp_eq (by omega) (by omega)]; omega)]
          · right
            refine next (by rw [hok]; simp [hz]) (fun K rec => ?_)
            unfold xf_X11_findCrumbs_L211
            dsimp only
            rw [hm.2.2.1, if_neg (nI_ge hj (by omega)), e1, hb, Option.bind_some, xp_jn, if_pos (show bI false = 0 from rfl), xp_ld (by omega) (by omega), g1, if_neg (by rw [xp_eq (by omega) (by omega)]; exact he), xl_37, nI_add, xp_ld (by omega) (by omega), hts, xl_0, e2, Option.bind_some, if_pos (by rw [show qW a j d = 0 by omega])]) (fun s hP => by
      obtain ⟨rfl, hsj, q1⟩ := hP
      refine ⟨nI (tS t), ⟨tS t, rfl, hs0, Nat.le_refl _, q1, fun h => by omega⟩, fun K rec => ?_⟩
      unfold xf_X11_findCrumbs_L211
      dsimp only
      rw [hm.2.2.1, if_pos (nI_le (Nat.le_refl _) (by omega))]) (tS t - s0) s0 (by omega) (nI s0) ⟨rfl, Nat.le_refl _, fun i g1 g2 => by omega⟩
  obtain ⟨g, ⟨e, rfl, h1, h2, h3, h4⟩, h5⟩ := key
  exact ⟨e, h1, h2, h3, h4, h5⟩
theorem xp_and_m1 (x : Int32) : x &&& (-1) = x := by
  apply Int32.toBitVec_inj.mp
  rw [Int32.toBitVec_and]
  show x.toBitVec &&& BitVec.allOnes 32 = x.toBitVec
  exact BitVec.and_allOnes
theorem xs_clr_or {k s : Nat} (h : k.testBit s = false) : xs_clr (k ||| 2 ^ s) s = k := by
  apply Nat.eq_of_testBit_eq
  intro i
  rw [xs_clr_bit, Nat.testBit_or, Nat.testBit_two_pow]
  by_cases hi : s = i
  · subst hi; simp [h]
  · simp [hi]
def xs_kt (k : Nat) (po : Option Nat) : Nat := match po with
  | none => k
  | some s => k ||| 2 ^ s
def xs_s0 (po : Option Nat) : Nat := match po with
  | none => 0
  | some s => s + 1
theorem xe_crStep {σ : xr_S} {t : xa_T} {a : xa_A} {l k : Nat} {po : Option Nat} (hT : xi_T t) (hA : xi_A t a) (hm : xi_Tm σ t) (hM : xi_M σ 0 a) (hl : l < tL t) (hq : (qT a l).isNone = false) (hk : k < 64) (hpo : ∀ s, po = some s → s < tS t ∧ k.testBit s = false) (h62 : σ.1 62 l = oI po) (wy : Nat) : ∃ e, xs_s0 po ≤ e ∧ e ≤ tS t ∧ (∀ i, xs_s0 po ≤ i → i < e → xs_ok t a l k i = false) ∧ (e < tS t → xs_ok t a l k e = true) ∧ ∀ (K : (Int32 × xr_S) → Option (Int32 × xr_S)) rec, xf_X11_findCrumbs_L38 K (nI wy, nI l, nI (xs_kt k po), σ) rec = if e < tS t then rec (nI wy, nI (l + 1), nI (k ||| 2 ^ e), xr_up σ 62 l (nI e)) else rec (nI wy, dI l, nI k, xr_up σ 62 l (-1)) := by
  obtain ⟨n1, n2, n3, n4, n5, n6, n7⟩ := id hT
  have hbo := xi_bounds hT hA
  have e1 := xe_isFreshM ((xi_M0 hM).2.2.1 l (by omega)) (hbo.2.1 l) (show l < 7 by omega)
  rw [hq] at e1
  have hqn : qT a l ≠ none := fun h => by rw [h] at hq; cases hq
  have hs0 : xs_s0 po ≤ tS t := by
    cases po with
    | none => exact Nat.zero_le _
    | some s => have := (hpo s rfl).1; exact this
  obtain ⟨e, h1, h2, h3, h4, h5⟩ := xe_cr211 (k := k) (s0 := xs_s0 po) hT hA hm hM hl hqn hk hs0 (nI wy) (nI (xs_kt k po))
  refine ⟨e, h1, h2, h3, h4, fun K rec => ?_⟩
  have hv : oI po + 1 = nI (xs_s0 po) := by
    cases po with
    | none => decide
    | some s => exact nI_1 s
  have hmask : ∀ (F : Int32 → Option (Int32 × xr_S)), (if oI po = (-1) then (F (nI (xs_kt k po) &&& -1)) else (F (nI (xs_kt k po) &&& (((1 : Int32) <<< (oI po &&& 31)) ^^^ (-1))))) = F (nI k) := by
    intro F
    cases po with
    | none => rw [if_pos (show oI none = -1 from rfl), xp_and_m1]; rfl
    | some s =>
      obtain ⟨g1, g2⟩ := hpo s rfl
      have hsh : ((1 : Int32) <<< (nI s &&& 31)) = nI (2 ^ s) := xp_shl1 s (by omega)
      rw [xp_oIs, if_neg (xp_m1 s (by omega)), hsh]
      show F (nI (k ||| 2 ^ s) &&& (nI (2 ^ s) ^^^ -1)) = _
      rw [xp_clr (by omega), xs_clr_or g2]
  unfold xf_X11_findCrumbs_L38
  dsimp only
  rw [if_neg (nI_pos (by omega)), hm.2.2.2.1, if_neg (by rw [xp_eq (by omega) (by omega)]; omega), e1, Option.bind_some, if_pos (show bI false = 0 from rfl), xp_ld (by omega) (by omega), h62]
  rw [xp_jn, xp_ld (by omega) (by omega), h62]
  refine (hmask (fun v31 => xr_ld σ 62 7 (nI l) (fun v32 => xr_v ((v32 + 1)) (fun v33 => xr_lw (xf_X11_findCrumbs_L211 (nI wy, nI l, nI (xs_kt k po), σ) v31 (fun (e36 : Int32) => xr_jn (fun (w45 : Int32) => xr_jn (fun (w47 : Int32) => xr_st σ 62 7 (nI l) w47 (fun s49 => xr_jn (fun (w50 : Int32) => xr_v ((v31 ||| w50)) (fun v52 => xr_jn (fun (w53 : Int32) => xr_v ((nI l + w53)) (fun v55 => rec (nI wy, v55, v52, s49))) (fun j54 => if w45 = 0 then (j54 (-1)) else (j54 1)))) (fun j51 => if w45 = 0 then (j51 0) else (j51 ((1 : Int32) <<< (e36 &&& 31)))))) (fun j48 => if w45 = 0 then (j48 (-1)) else (j48 e36))) (fun j46 => if (σ.1 49 4) ≤ e36 then (j46 0) else (j46 1)))) v33)))).trans ?_
  rw [xp_ld (by omega) (by omega), h62, xp_v, hv, h5, hm.2.2.1]
  simp only [xp_jn]
  by_cases he : e < tS t
  · rw [if_neg (nI_ge he (by omega)), if_neg (by decide), xp_st (by omega) (by omega), if_neg (by decide), xp_v, if_neg (by decide), xp_v, xp_setL (by omega), nI_1, if_pos he]
  · rw [if_pos (nI_le (by omega) (by omega)), if_pos trivial, xp_st (by omega) (by omega), if_pos trivial, xp_v, if_pos trivial, xp_v, xl_0, xp_or, Nat.or_zero, xp_dI, if_neg he]
