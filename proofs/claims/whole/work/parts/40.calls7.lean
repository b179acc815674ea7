/-! hire -/
def xs_hire (bid : Nat → Nat) : Nat → Option Nat × Nat × Nat
  | 0 => (none, 0, 0)
  | k + 1 => if bid k ≤ (xs_hire bid k).2.1 then (if bid k ≤ (xs_hire bid k).2.2 then xs_hire bid k else ((xs_hire bid k).1, (xs_hire bid k).2.1, bid k)) else (some k, bid k, (xs_hire bid k).2.1)
theorem xs_hire_le {bid : Nat → Nat} {b : Nat} (h : ∀ k, bid k ≤ b) : ∀ n, (xs_hire bid n).2.1 ≤ b ∧ (xs_hire bid n).2.2 ≤ b := by
  intro n
  induction n with
  | zero => simp [xs_hire]
  | succ n ih =>
    have := h n
    simp only [xs_hire]
    split
    · split
      · exact ih
      · exact ⟨ih.1, this⟩
    · exact ⟨this, ih.1⟩
def xs_bid (t : xa_T) (a : xa_A) (s l : Nat) : Nat := if qT a l = none ∧ tE t l ≠ s ∧ l < tL t then xs_worth t (qW a) l s else 0
theorem xs_worth_le {t : xa_T} {a : xa_A} (hT : xi_T t) (hA : xi_A t a) {l s : Nat} (hl : l < tL t) : xs_worth t (qW a) l s ≤ 891000000 := by
  unfold xs_worth
  have k3 := (hT.2.2.2.2.2.2 l hl).2.2
  have hw := hA.1 s (tW t l)
  have hp : tV t l * qW a s (tW t l) ≤ 99 * 9 := Nat.mul_le_mul k3 hw
  have hp2 : 1000000 * tV t l * qW a s (tW t l) ≤ 891000000 := by
    rw [Nat.mul_assoc]
    exact Nat.mul_le_mul_left 1000000 hp
  exact Nat.le_trans (Nat.div_le_self _ _) hp2
theorem xs_bid_le {t : xa_T} {a : xa_A} (hT : xi_T t) (hA : xi_A t a) (s l : Nat) : xs_bid t a s l ≤ 891000000 := by
  unfold xs_bid
  split
  next h => exact xs_worth_le hT hA h.2.2
  next => omega
theorem xe_hireC {σ : xr_S} {t : xa_T} {a : xa_A} {s : Nat} (hT : xi_T t) (hA : xi_A t a) (hc : xi_Tc σ t) (hC : xi_C σ 15 a) (hs : s < tS t) (K : Int32 × Int32 → Option Int32) : xr_lw (xf_X10_hire_L37 σ (nI s) K) (-1, 0, 0, 0) = K (oI (xs_hire (xs_bid t a s) (tL t)).1, nI (xs_hire (xs_bid t a s) (tL t)).2.2) := by
  obtain ⟨n1, n2, n3, n4, n5, n6, n7⟩ := id hT
  obtain ⟨p1, p2, p3, p4, p5, p6, p7, p8⟩ := id hC
  have hb := xi_bounds hT hA
  refine xp_iter (fun k => (oI (xs_hire (xs_bid t a s) k).1, nI (xs_hire (xs_bid t a s) k).2.1, nI (xs_hire (xs_bid t a s) k).2.2, nI k)) 0 (tL t) rfl (fun j h1 h2 rec => ?_) (fun rec => ?_)
  · obtain ⟨k1, k2, k3⟩ := n7 j (by omega)
    obtain ⟨g1, g2, g3⟩ := hc.2.2.2.2.2 j (by omega)
    have e1 := xe_isFresh (p3 j (by omega)) (hb.2.1 j) (show j < 7 by omega)
    have e2 := xe_worthOn hT hA hc hC (show j < tL t by omega) hs
    have q1 := xs_hire_le (xs_bid_le hT hA s) j
    have q2 := xs_bid_le hT hA s j
    have fin : ∀ v : Nat, v = xs_bid t a s j → (if nI v ≤ nI (xs_hire (xs_bid t a s) j).2.1 then (if nI v ≤ nI (xs_hire (xs_bid t a s) j).2.2 then rec (oI (xs_hire (xs_bid t a s) j).1, nI (xs_hire (xs_bid t a s) j).2.1, nI (xs_hire (xs_bid t a s) j).2.2, nI (j + 1)) else rec (oI (xs_hire (xs_bid t a s) j).1, nI (xs_hire (xs_bid t a s) j).2.1, nI v, nI (j + 1))) else rec (nI j, nI v, nI (xs_hire (xs_bid t a s) j).2.1, nI (j + 1))) = rec (oI (xs_hire (xs_bid t a s) (j + 1)).1, nI (xs_hire (xs_bid t a s) (j + 1)).2.1, nI (xs_hire (xs_bid t a s) (j + 1)).2.2, nI (j + 1)) := by
      intro v hv
      subst hv
      simp (disch := omega) only [xp_le, xs_hire]
      by_cases c1 : xs_bid t a s j ≤ (xs_hire (xs_bid t a s) j).2.1
      · rw [if_pos c1, if_pos c1]
        by_cases c2 : xs_bid t a s j ≤ (xs_hire (xs_bid t a s) j).2.2
        · rw [if_pos c2, if_pos c2]
        · rw [if_neg c2, if_neg c2]
      · rw [if_neg c1, if_neg c1]
        rfl
    unfold xf_X10_hire_L37
    rw [hc.2.2.2.1]
    simp (disch := omega) only [e1, e2, Option.bind_some, xp_le, if_neg, xp_jn, xp_ld, g1, xp_eq, nI_add, xl_1]
    cases hq : qT a j with
    | some d =>
      have := fin 0 (by unfold xs_bid; rw [if_neg (by rw [hq]; simp)])
      simp only [Option.isNone_some, bI_f, show (nI 0 = 0) from rfl, if_true]
      exact this
    | none =>
      by_cases he : tE t j = s
      · have := fin 0 (by unfold xs_bid; rw [if_neg (by simp [he])])
        simp only [Option.isNone_none, bI_t, show ¬ nI 1 = 0 from by decide, if_false, if_pos he]
        exact this
      · have := fin (xs_worth t (qW a) j s) (by unfold xs_bid; rw [if_pos ⟨hq, he, by omega⟩])
        simp only [Option.isNone_none, bI_t, show ¬ nI 1 = 0 from by decide, if_false, if_neg he]
        exact this
  · unfold xf_X10_hire_L37
    rw [hc.2.2.2.1]
    simp (disch := omega) only [Nat.zero_add, xp_le, if_pos]
theorem xe_hireM {σ : xr_S} {t : xa_T} {a : xa_A} {s : Nat} (hT : xi_T t) (hA : xi_A t a) (hm : xi_Tm σ t) (hM : xi_M σ 0 a) (hs : s < tS t) (K : Int32 × Int32 → Option Int32) : xr_lw (xf_X11_hire_L35 σ (nI s) K) (-1, 0, 0, 0) = K (oI (xs_hire (xs_bid t a s) (tL t)).1, nI (xs_hire (xs_bid t a s) (tL t)).2.2) := by
  obtain ⟨n1, n2, n3, n4, n5, n6, n7⟩ := id hT
  obtain ⟨p1, p2, p3, p4, p5, p6, p7, p8⟩ := xi_M0 hM
  have hb := xi_bounds hT hA
  refine xp_iter (fun k => (oI (xs_hire (xs_bid t a s) k).1, nI (xs_hire (xs_bid t a s) k).2.1, nI (xs_hire (xs_bid t a s) k).2.2, nI k)) 0 (tL t) rfl (fun j h1 h2 rec => ?_) (fun rec => ?_)
  · obtain ⟨k1, k2, k3⟩ := n7 j (by omega)
    obtain ⟨g1, g2, g3⟩ := hm.2.2.2.2.2 j (by omega)
    have e1 := xe_isFreshM (p3 j (by omega)) (hb.2.1 j) (show j < 7 by omega)
    have e2 := xe_worthOf hT hA hm hM (show j < tL t by omega) hs
    have q1 := xs_hire_le (xs_bid_le hT hA s) j
    have q2 := xs_bid_le hT hA s j
    have key : ∀ v : Nat, v = xs_bid t a s j → ∀ G : Int32 → Option Int32, G = (fun w8 => xr_jn (fun (w10 : Int32) => xr_jn (fun (w12 : Int32) => xr_jn (fun (w14 : Int32) => rec (w12, w14, w10, nI (j + 1))) (fun j15 => if w8 ≤ nI (xs_hire (xs_bid t a s) j).2.1 then (j15 (nI (xs_hire (xs_bid t a s) j).2.1)) else (j15 w8))) (fun j13 => if w8 ≤ nI (xs_hire (xs_bid t a s) j).2.1 then (j13 (oI (xs_hire (xs_bid t a s) j).1)) else (j13 (nI j)))) (fun j11 => if w8 ≤ nI (xs_hire (xs_bid t a s) j).2.1 then (if w8 ≤ nI (xs_hire (xs_bid t a s) j).2.2 then (j11 (nI (xs_hire (xs_bid t a s) j).2.2)) else (j11 w8)) else (j11 (nI (xs_hire (xs_bid t a s) j).2.1)))) → G (nI v) = rec (oI (xs_hire (xs_bid t a s) (j + 1)).1, nI (xs_hire (xs_bid t a s) (j + 1)).2.1, nI (xs_hire (xs_bid t a s) (j + 1)).2.2, nI (j + 1)) := by
      intro v hv G hG
      subst hv
      subst hG
      simp only [xp_jn]
      simp (disch := omega) only [xp_le, xs_hire]
      by_cases c1 : xs_bid t a s j ≤ (xs_hire (xs_bid t a s) j).2.1
      · simp only [if_pos c1]
        by_cases c2 : xs_bid t a s j ≤ (xs_hire (xs_bid t a s) j).2.2
        · simp only [if_pos c2]
        · simp only [if_neg c2]
      · simp only [if_neg c1]
        rfl
    unfold xf_X11_hire_L35
    rw [hm.2.2.2.1]
    simp (disch := omega) only [e1, Option.bind_some, xp_le, if_neg, xl_1, nI_add]
    rw [xp_jn]
    cases hq : qT a j with
    | some d => exact key 0 (by unfold xs_bid; rw [if_neg (by rw [hq]; simp)]) _ rfl
    | none =>
      simp (disch := omega) only [Option.isNone_none, bI_t, show ¬ nI 1 = 0 from by decide, if_false, xp_ld, g1, e2, Option.bind_some]
      by_cases he : tE t j = s
      · rw [if_pos (by rw [he])]
        exact key 0 (by unfold xs_bid; rw [if_neg (by simp [he])]) _ rfl
      · rw [if_neg (by rw [xp_eq (by omega) (by omega)]; exact he)]
        exact key (xs_worth t (qW a) j s) (by unfold xs_bid; rw [if_pos ⟨hq, he, by omega⟩]) _ rfl
  · unfold xf_X11_hire_L35
    rw [hm.2.2.2.1]
    simp (disch := omega) only [Nat.zero_add, xp_le, if_pos]
theorem xy_hire {σ : xr_S} (h : xi σ) (x y : Int32) : ∃ r, xf_X10_hire σ x y = some r ∧ xf_X11_hire σ x y = some r := by
  obtain ⟨t, a, hT, hA, hc, hm, hC, hM, -⟩ := h
  obtain ⟨n1, n2, n3, n4, n5, n6, n7⟩ := id hT
  unfold xf_X10_hire xf_X11_hire
  rw [xe_hasSleeper hc.2.2.1, xe_isSleeper hm.2.2.1 (by omega), xe_inK (a := y) (n := 1) (lo := 0) (hi := 1) σ (by omega) rfl rfl, xe_rng (a := y) (n := 1) (k := 1) (by omega) rfl]
  cases hs : xs_inr x (tS t) with
  | false => exact ⟨_, rfl, rfl⟩
  | true =>
    cases hi : xs_inr y 2 with
    | false => exact ⟨_, rfl, rfl⟩
    | true =>
      obtain ⟨s, hs1, rfl⟩ := xs_inr_t (by omega) hs
      simp only [bI_t, Option.bind_some, show ¬ nI 1 = 0 from by decide, if_false, if_true]
      rw [xe_hireC hT hA hc hC hs1, xe_hireM hT hA hm hM hs1]
      by_cases c1 : oI (xs_hire (xs_bid t a s) (tL t)).1 = -1
      · exact ⟨_, by rw [if_pos c1], by rw [if_pos c1]⟩
      · by_cases c2 : y = 0
        · exact ⟨_, by rw [if_neg c1, if_pos c2], by rw [if_neg c1, if_pos c2]⟩
        · exact ⟨_, by rw [if_neg c1, if_neg c2], by rw [if_neg c1, if_neg c2]⟩
