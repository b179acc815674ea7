theorem xs_find_uniq {a : xa_A} {t : xa_T} (hA : xi_A t a) (s n : Nat) : xs_last (fun l => decide (qP a l = some s)) n = xs_find (fun l => decide (qP a l = some s)) n := xs_last_find (fun i j hi hj => by
  have h1 : qP a i = some s := by simpa using hi
  have h2 : qP a j = some s := by simpa using hj
  exact hA.2.2.2.2.1 i j s h1 h2) n
theorem xs_find_cut {p : Nat → Bool} {n m : Nat} (hnm : n ≤ m) (h : ∀ k, n ≤ k → p k = false) : xs_find p m = xs_find p n := by
  cases hn : xs_find p n with
  | none =>
    refine xs_find_none.mpr (fun k hk => ?_)
    by_cases hkn : k < n
    · exact xs_find_none.mp hn k hkn
    · exact h k (by omega)
  | some j =>
    obtain ⟨a, b, c⟩ := xs_find_some.mp hn
    exact xs_find_some.mpr ⟨by omega, b, c⟩
/-- on whose pillow: the loaf that lies on s -/
def xs_on (a : xa_A) (s : Nat) : Option Nat := xs_find (fun l => decide (qP a l = some s)) 7
theorem xe_loafOnA {σ : xr_S} {t : xa_T} {a : xa_A} {s : Nat} (hT : xi_T t) (hA : xi_A t a) (hC : xi_C σ 15 a) (hs : s < 6) : xf_X5_loafOn σ (nI s) = some (oI (xs_on a s)) := xe_loafOn hC.2.1 (xi_bounds hT hA).1 (by omega)
theorem xe_onPillowA {σ : xr_S} {t : xa_T} {a : xa_A} {s : Nat} (hT : xi_T t) (hA : xi_A t a) (hm : xi_Tm σ t) (hM : xi_M σ 0 a) (hs : s < 6) : xf_X11_onPillow σ (nI s) = some (oI (xs_on a s)) := by
  rw [xe_onPillow hm.2.2.2.1 hT.2.2.2.1 (xi_M0 hM).2.1 (xi_bounds hT hA).1 (by omega), xs_find_uniq hA]
  unfold xs_on
  rw [xs_find_cut hT.2.2.2.1 (fun k hk => ?_)]
  simp only [decide_eq_false_iff_not]
  intro hp
  have := (hA.2.2.2.1 k s hp).1
  omega
theorem xs_on_none {a : xa_A} {t : xa_T} (hT : xi_T t) (hA : xi_A t a) {s : Nat} (h : xs_on a s = none) (k : Nat) : qP a k ≠ some s := by
  intro hp
  have h1 := (hA.2.2.2.1 k s hp).1
  have h2 := hT.2.2.2.1
  have := xs_find_none.mp h k (by omega)
  simp [hp] at this
theorem xs_on_some {a : xa_A} {s l : Nat} (h : xs_on a s = some l) : l < 7 ∧ qP a l = some s := by
  obtain ⟨h1, h2, -⟩ := xs_find_some.mp h
  exact ⟨h1, by simpa using h2⟩
theorem xs_on_lt {a : xa_A} (s : Nat) : oB (xs_on a s) 1000 := fun n hn => by
  have := (xs_on_some hn).1
  omega
theorem xy_lay {σ : xr_S} (h : xi σ) (x y : Int32) : xi_ok σ (xf_X10_lay σ x y) (fun τ => xf_X11_lay τ x y) := by
  obtain ⟨t, a, hI⟩ := h
  obtain ⟨hT, hA, hc, hm, hC, hM, -⟩ := id hI
  obtain ⟨n1, n2, n3, n4, n5, n6, n7⟩ := id hT
  obtain ⟨p1, p2, p3, p4, p5, p6, p7, p8⟩ := id hC
  obtain ⟨o1, o2, o3, o4, o5, o6, o7, o8⟩ := xi_M0 hM
  have hb := xi_bounds hT hA
  cases hl : xs_inr x (tL t) with
  | false =>
    refine ⟨-1000000001, σ, σ, ?_, ?_, ⟨t, a, hI⟩⟩
    · unfold xf_X10_lay; rw [xe_hasLoaf hc.2.2.2.1, hl]; rfl
    · show xf_X11_lay _ _ _ = _
      unfold xf_X11_lay; rw [xe_isLoaf hm.2.2.2.1 (by omega), hl]; rfl
  | true =>
    cases hs : xs_inr y (tS t) with
    | false =>
      refine ⟨-1000000001, σ, σ, ?_, ?_, ⟨t, a, hI⟩⟩
      · unfold xf_X10_lay; rw [xe_hasLoaf hc.2.2.2.1, hl, xe_hasSleeper hc.2.2.1, hs]; rfl
      · show xf_X11_lay _ _ _ = _
        unfold xf_X11_lay; rw [xe_isLoaf hm.2.2.2.1 (by omega), hl, xe_isSleeper hm.2.2.1 (by omega), hs]; rfl
    | true =>
      obtain ⟨l, hl1, rfl⟩ := xs_inr_t (by omega) hl
      obtain ⟨s, hs1, rfl⟩ := xs_inr_t (by omega) hs
      obtain ⟨g1, g2, g3⟩ := hc.2.2.2.2.2 l hl1
      obtain ⟨i1, i2, i3⟩ := hm.2.2.2.2.2 l hl1
      obtain ⟨k1, k2, k3⟩ := n7 l hl1
      have e1 := xe_isFresh (p3 l (by omega)) (hb.2.1 l) (show l < 7 by omega)
      have e2 := xe_isFreshM (o3 l (by omega)) (hb.2.1 l) (show l < 7 by omega)
      have e3 := xe_loafOnA hT hA hC (show s < 6 by omega)
      have e4 := xe_onPillowA hT hA hm hM (show s < 6 by omega)
      by_cases hok : qT a l = none ∧ qP a l = none ∧ tE t l ≠ s ∧ xs_on a s = none
      · obtain ⟨q1, q2, q3, q4⟩ := hok
        have hA' : xi_A t (sP a l (some s)) := A_P hA (fun s' hs' => by
          cases hs'
          exact ⟨hl1, hs1, Ne.symm q3, xs_on_none hT hA q4⟩)
        have hC' : xi_C (xr_up σ 18 l (nI s)) 15 (sP a l (some s)) := C_P (o := some s) hC
        have hM' : xi_M (xr_up (xr_up σ 18 l (nI s)) 50 (30 + l) (nI s)) 0 (sP a l (some s)) := M_P (o := some s) (by omega) (xi_M_fr hM (xp_other (by decide)))
        have hm1 : xi_Tm (xr_up σ 18 l (nI s)) t := xi_Tm_fr hm (fun c hc => xp_other (by omega))
        have hm' : xi_Tm (xr_up (xr_up σ 18 l (nI s)) 50 (30 + l) (nI s)) t := by
          have ee : ∀ c, c ≠ 50 → (xr_up (xr_up σ 18 l (nI s)) 50 (30 + l) (nI s)).1 c = (xr_up σ 18 l (nI s)).1 c := fun c hc => xp_other hc
          simpa only [xi_Tm, ee 49 (by decide), ee 52 (by decide), ee 53 (by decide), ee 54 (by decide)] using hm1
        refine ⟨nI (xs_bits (fun k => (qP (sP a l (some s)) k).isSome) (tL t)), xr_up σ 18 l (nI s), xr_up (xr_up σ 18 l (nI s)) 50 (30 + l) (nI s), ?_, ?_, xi_ofI (xi_two hI (xi_up1 (by decide) rfl) (xi_up2 (by decide) rfl) (xl_30k _ _ _ (by omega)) hA' hC' hM')⟩
        · unfold xf_X10_lay
          rw [xe_hasLoaf hc.2.2.2.1, hl, xe_hasSleeper hc.2.2.1, hs, e1, e3, q1, q4]
          have hne : ¬ nI (tE t l) = nI s := by rw [xp_eq (by omega) (by omega)]; exact q3
          simp (disch := omega) only [bI_t, Option.isNone_none, Option.bind_some, show ¬ nI 1 = 0 from by decide, if_false, xp_jn, xp_ld, p2 l (by omega), q2, g1, hne, show (oI none = -1) from rfl, if_true, xp_st, show ¬ (1 : Int32) = 0 from by decide]
          rw [xe_lying hT hA' hC']
          rfl
        · show xf_X11_lay _ _ _ = _
          unfold xf_X11_lay
          have ff : (xr_up σ 18 l (nI s)).1 50 = σ.1 50 := xp_other (by decide)
          have e2' := xe_isFreshM (σ := xr_up σ 18 l (nI s)) (by rw [ff]; exact o3 l (by omega)) (hb.2.1 l) (show l < 7 by omega)
          have e4' := xe_onPillowA hT hA hm1 (xi_M_fr hM ff) (show s < 6 by omega)
          rw [xe_isLoaf hm1.2.2.2.1 (by omega), hl, xe_isSleeper hm1.2.2.1 (by omega), hs, e2', e4', q1, q4]
          have hne : ¬ nI (tE t l) = nI s := by rw [xp_eq (by omega) (by omega)]; exact q3
          have i1' : (xr_up σ 18 l (nI s)).1 52 l = nI (tE t l) := by rw [xp_other (by decide)]; exact i1
          simp (disch := omega) only [bI_t, Option.isNone_none, Option.bind_some, show ¬ nI 1 = 0 from by decide, if_false, xl_30, nI_add, xp_ld, ff, o2 l (by omega), q2, i1', hne, show (oI none = -1) from rfl, if_true, xp_st]
          rw [xe_loavesBy9 hm'.2.2.2.1 n4 (xi_M0 hM').2.1 (xi_bounds hT hA').1]
          rfl
      · refine ⟨-1000000003, σ, σ, ?_, ?_, ⟨t, a, hI⟩⟩
        · unfold xf_X10_lay
          rw [xe_hasLoaf hc.2.2.2.1, hl, xe_hasSleeper hc.2.2.1, hs, e1, e3]
          simp (disch := omega) only [bI_t, Option.bind_some, show ¬ nI 1 = 0 from by decide, if_false, xp_jn, xp_ld, p2 l (by omega), g1, xp_eq]
          cases q1 : qT a l with
          | some d => rfl
          | none =>
            cases q2 : qP a l with
            | some z =>
              have := (hA.2.2.2.1 l z q2).2.1
              have hz : ¬ nI z = -1 := xp_m1 z (by omega)
              simp only [Option.isNone_none, bI_t, show ¬ nI 1 = 0 from by decide, if_false, xp_oIs, hz]
              rfl
            | none =>
              simp only [Option.isNone_none, bI_t, show ¬ nI 1 = 0 from by decide, if_false, show (oI none = -1) from rfl, if_true, show ¬ (1 : Int32) = 0 from by decide]
              by_cases q3 : tE t l = s
              · rw [if_pos q3]
              · rw [if_neg q3]
                cases q4 : xs_on a s with
                | none => exact absurd ⟨q1, q2, q3, q4⟩ hok
                | some z =>
                  have := xs_on_lt s z q4
                  have hz : ¬ nI z = -1 := xp_m1 z (by omega)
                  simp only [xp_oIs, hz, if_false]
        · show xf_X11_lay _ _ _ = _
          unfold xf_X11_lay
          rw [xe_isLoaf hm.2.2.2.1 (by omega), hl, xe_isSleeper hm.2.2.1 (by omega), hs, e2, e4]
          simp (disch := omega) only [bI_t, Option.bind_some, show ¬ nI 1 = 0 from by decide, if_false, xl_30, nI_add, xp_ld, o2 l (by omega), i1, xp_eq]
          cases q1 : qT a l with
          | some d => rfl
          | none =>
            cases q2 : qP a l with
            | some z =>
              have := (hA.2.2.2.1 l z q2).2.1
              have hz : ¬ nI z = -1 := xp_m1 z (by omega)
              simp only [Option.isNone_none, bI_t, show ¬ nI 1 = 0 from by decide, if_false, xp_oIs, hz]
            | none =>
              simp only [Option.isNone_none, bI_t, show ¬ nI 1 = 0 from by decide, if_false, show (oI none = -1) from rfl, if_true]
              by_cases q3 : tE t l = s
              · rw [if_pos q3]
              · rw [if_neg q3]
                cases q4 : xs_on a s with
                | none => exact absurd ⟨q1, q2, q3, q4⟩ hok
                | some z =>
                  have := xs_on_lt s z q4
                  have hz : ¬ nI z = -1 := xp_m1 z (by omega)
                  simp only [xp_oIs, hz, if_false]
