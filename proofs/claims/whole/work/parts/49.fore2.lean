/-! one night foretold -/
def xs_ts (w : Nat → Nat → Nat) (bed : Nat → Option Nat) (out l : Nat) : Option Nat := match bed l with
  | none => none
  | some s => if out.testBit s then none else some (xs_top (w s) 4)
def xs_pn (t : xa_T) (ts : Nat → Option Nat) (w : Nat → Nat → Nat) : Nat → Bool × (Nat → Nat → Nat)
  | 0 => (false, w)
  | l + 1 => match ts l with
    | none => xs_pn t ts w l
    | some d => ((xs_pn t ts w l).1 || decide (xs_gr ((xs_pn t ts w l).2 (tE t l) d) (tG t) ≠ (xs_pn t ts w l).2 (tE t l) d), xs_set (xs_pn t ts w l).2 (tE t l) d (xs_gr ((xs_pn t ts w l).2 (tE t l) d) (tG t)))
theorem xs_pn_ok {t : xa_T} {ts : Nat → Option Nat} {w : Nat → Nat → Nat} (h : xs_wok t w) (hts : ∀ l d, ts l = some d → d < tN t) : ∀ l, xs_wok t (xs_pn t ts w l).2 := by
  intro l
  induction l with
  | zero => exact h
  | succ l ih =>
    simp only [xs_pn]
    split
    · exact ih
    next d hd => exact xs_wok_set ih (xs_gr_le _ _) (hts l d hd)
theorem xs_ts_lt {t : xa_T} {w : Nat → Nat → Nat} {bed : Nat → Option Nat} {out : Nat} (hT : xi_T t) (hok : xs_wok t w) (hb : ∀ l s, bed l = some s → s < tS t) : ∀ l d, xs_ts w bed out l = some d → d < tN t := by
  intro l d h
  unfold xs_ts at h
  cases hl : bed l with
  | none => rw [hl] at h; cases h
  | some s =>
    rw [hl] at h
    have hs := hb l s hl
    have hN := hT.2.2.2.2.2.1 (by omega)
    dsimp only at h
    split at h
    · cases h
    · cases h
      exact (xs_wtop hT hok hN s).2
theorem xe_passTs {σ : xr_S} {t : xa_T} {w : Nat → Nat → Nat} {bed : Nat → Option Nat} {out : Nat} (hT : xi_T t) (hc : xi_Tc σ t) (hW : xq_W σ 37 w) (hbd : ∀ l, l < tL t → σ.1 32 l = oI (bed l)) (hb : ∀ l s, bed l = some s → s < tS t) (ho : out < 2 ^ 31) : ∃ τ, (∀ l, l < tL t → τ.1 38 l = oI (xs_ts w bed out l)) ∧ (∀ c, c ≠ 38 → τ.1 c = σ.1 c) ∧ ∀ K : xr_S → Option (Int32 × xr_S), xr_lw (xf_X4_passNight_L3 (nI out) K) (0, σ) = K τ := by
  obtain ⟨n1, n2, n3, n4, n5, n6, n7⟩ := id hT
  obtain ⟨s', ⟨τ, rfl, h1, h2⟩, h3⟩ := xp_forK (body := xf_X4_passNight_L3 (nI out)) (out := fun s => s.2) (fun j s => ∃ τ : xr_S, s = (nI j, τ) ∧ (∀ l, l < j → τ.1 38 l = oI (xs_ts w bed out l)) ∧ ∀ c, c ≠ 38 → τ.1 c = σ.1 c) (tL t) (fun j s hj hP => by
      obtain ⟨τ, rfl, q1, q2⟩ := hP
      refine ⟨(nI (j + 1), xr_up τ 38 j (oI (xs_ts w bed out j))), ⟨_, rfl, fun l hl => ?_, fun c h => by rw [xp_other h, q2 c h]⟩, fun K rec => ?_⟩
      · rw [xp_same]
        by_cases hlj : l = j
        · subst hlj; rw [xp_us]
        · rw [xp_un hlj, q1 l (by omega)]
      · unfold xf_X4_passNight_L3
        dsimp only
        rw [q2 9 (by decide), hc.2.2.2.1, if_neg (nI_ge hj (by omega)), xp_ld (by omega) (by omega), q2 32 (by decide), hbd j hj]
        simp only [xp_jn]
        unfold xs_ts
        cases hl : bed j with
        | none =>
          rw [if_pos (show oI none = -1 from rfl)]
          simp only [if_true]
          rw [xp_st (by omega) (by omega), nI_1]
          rfl
        | some s =>
          have hs := hb j s hl
          have e1 := xe_top (σ := τ) (c := 36) (xq_W_fr hW (q2 37 (by decide))) (show s < 6 by omega)
          have hbit : ((nI out >>> (nI s &&& 31)) &&& 1) = bI (out.testBit s) := xp_bitb ho (by omega)
          rw [xp_oIs, if_neg (xp_m1 s (by omega)), hbit, e1]
          cases hq : out.testBit s with
          | true =>
            simp only [bI_t, show ¬ nI 1 = 0 from by decide, if_false, if_true]
            rw [xp_st (by omega) (by omega), nI_1, if_pos hq]
            rfl
          | false =>
            simp only [bI_f, show (nI 0 = 0) from rfl, show ¬ (1 : Int32) = 0 from by decide, if_true, if_false, Option.bind_some]
            rw [xp_st (by omega) (by omega), nI_1, if_neg (by simp [hq])]
            rfl) (fun s hP K rec => by
      obtain ⟨τ, rfl, q1, q2⟩ := hP
      unfold xf_X4_passNight_L3
      dsimp only
      rw [q2 9 (by decide), hc.2.2.2.1, if_pos (nI_le (Nat.le_refl _) (by omega))]) (tL t) 0 (by omega) (0, σ) ⟨σ, rfl, fun _ h => by omega, fun _ _ => rfl⟩
  exact ⟨τ, h1, h2, h3⟩
theorem xe_passNight {σ : xr_S} {t : xa_T} {w : Nat → Nat → Nat} {bed : Nat → Option Nat} {out : Nat} (hT : xi_T t) (hc : xi_Tc σ t) (hW : xq_W σ 37 w) (hok : xs_wok t w) (hbd : ∀ l, l < tL t → σ.1 32 l = oI (bed l)) (hb : ∀ l s, bed l = some s → s < tS t) (ho : out < 2 ^ 31) : ∃ τ, xf_X4_passNight σ (nI out) = some (bI (xs_pn t (xs_ts w bed out) w (tL t)).1, τ) ∧ xq_W τ 37 (xs_pn t (xs_ts w bed out) w (tL t)).2 ∧ ∀ c, c ≠ 37 → c ≠ 38 → τ.1 c = σ.1 c := by
  obtain ⟨n1, n2, n3, n4, n5, n6, n7⟩ := id hT
  obtain ⟨τ0, z1, z2, z3⟩ := xe_passTs hT hc hW hbd hb ho
  have hts := xs_ts_lt (out := out) hT hok hb
  obtain ⟨ts, hts'⟩ : ∃ ts, ts = xs_ts w bed out := ⟨_, rfl⟩
  rw [← hts'] at z1 hts
  rw [← hts']
  have hc0 : xi_Tc τ0 t := xi_Tc_fr hc (fun c h => z2 c (by omega))
  obtain ⟨s', ⟨τ, rfl, h1, h2⟩, h3⟩ := xp_forK (body := xf_X4_passNight_L80) (out := fun s => (s.1, s.2.2)) (fun j s => ∃ τ : xr_S, s = (bI (xs_pn t ts w j).1, nI j, τ) ∧ xq_W τ 37 (xs_pn t ts w j).2 ∧ ∀ c, c ≠ 37 → τ.1 c = τ0.1 c) (tL t) (fun j s hj hP => by
      obtain ⟨τ, rfl, q1, q2⟩ := hP
      obtain ⟨g1, g2, g3⟩ := hc0.2.2.2.2.2 j hj
      obtain ⟨k1, k2, k3⟩ := n7 j hj
      cases ht : ts j with
      | none =>
        have e0 : xs_pn t ts w (j + 1) = xs_pn t ts w j := by simp only [xs_pn, ht]
        refine ⟨(bI (xs_pn t ts w (j + 1)).1, nI (j + 1), τ), ⟨τ, rfl, by rw [e0]; exact q1, q2⟩, fun K rec => ?_⟩
        unfold xf_X4_passNight_L80
        dsimp only
        rw [q2 9 (by decide), hc0.2.2.2.1, if_neg (nI_ge hj (by omega)), xp_ld (by omega) (by omega), q2 38 (by decide), z1 j hj, ht, e0]
        simp only [xp_jn]
        rw [if_pos (show oI none = -1 from rfl), nI_1]
      | some d =>
        have hd := hts j d ht
        obtain ⟨v, hv⟩ : ∃ v, v = xs_gr ((xs_pn t ts w j).2 (tE t j) d) (tG t) := ⟨_, rfl⟩
        have e0 : xs_pn t ts w (j + 1) = ((xs_pn t ts w j).1 || decide (v ≠ (xs_pn t ts w j).2 (tE t j) d), xs_set (xs_pn t ts w j).2 (tE t j) d v) := by simp only [xs_pn, ht, hv]
        have e1 := xe_grow (c := 36) q1 (show tE t j < 6 by omega) (show d < 5 by omega) n2
        rw [← hv] at e1
        refine ⟨(bI (xs_pn t ts w (j + 1)).1, nI (j + 1), xr_up τ 37 (tE t j * 5 + d) (nI v)), ⟨_, rfl, by rw [e0]; exact xq_W_set q1 (by omega) (by rw [hv]; exact xs_gr_le _ _), fun c h => by rw [xp_other h, q2 c h]⟩, fun K rec => ?_⟩
        unfold xf_X4_passNight_L80
        dsimp only
        rw [q2 9 (by decide), hc0.2.2.2.1, if_neg (nI_ge hj (by omega)), xp_ld (by omega) (by omega), q2 38 (by decide), z1 j hj, ht, e0]
        simp only [xp_jn]
        rw [xp_oIs, if_neg (xp_m1 d (by omega)), xp_ld (by omega) (by omega), q2 12 (by decide), g1, xp_ld (by omega) (by omega), q2 38 (by decide), z1 j hj, ht, xp_oIs, hc0.2.1, e1, Option.bind_some, nI_1]
        dsimp only
        by_cases hq : v ≠ (xs_pn t ts w j).2 (tE t j) d
        · rw [decide_eq_true hq, bI_t, if_neg (show ¬ nI 1 = 0 by decide), Bool.or_true]; rfl
        · rw [decide_eq_false hq, bI_f, if_pos (show nI 0 = 0 from rfl), Bool.or_false]) (fun s hP K rec => by
      obtain ⟨τ, rfl, q1, q2⟩ := hP
      unfold xf_X4_passNight_L80
      dsimp only
      rw [q2 9 (by decide), hc0.2.2.2.1, if_pos (nI_le (Nat.le_refl _) (by omega))]) (tL t) 0 (by omega) (0, 0, τ0) ⟨τ0, rfl, xq_W_fr hW (z2 37 (by decide)), fun _ _ => rfl⟩
  refine ⟨τ, ?_, h1, fun c g1 g2 => by rw [h2 c g1, z2 c g2]⟩
  unfold xf_X4_passNight
  refine (z3 _).trans ((h3 _).trans ?_)
  exact xp_zb
theorem xe_foreTs {σ : xr_S} {t : xa_T} {w : Nat → Nat → Nat} {bed : Nat → Option Nat} {out : Nat} (hT : xi_T t) (hm : xi_Tm σ t) (hV : xq_V σ 55 w) (hok : xs_wok t w) (hbd : ∀ l, l < tL t → σ.1 59 l = oI (bed l)) (hb : ∀ l s, bed l = some s → s < tS t) (ho : out < 2 ^ 31) : ∃ τ, (∀ l, l < tL t → τ.1 60 l = oI (xs_ts w bed out l)) ∧ (∀ c, c ≠ 60 → τ.1 c = σ.1 c) ∧ ∀ K : xr_S → Option (Int32 × xr_S), xr_lw (xf_X11_foretells_L4 (nI out) K) (0, σ) = K τ := by
  obtain ⟨n1, n2, n3, n4, n5, n6, n7⟩ := id hT
  obtain ⟨s', ⟨τ, rfl, h1, h2⟩, h3⟩ := xp_forK (body := xf_X11_foretells_L4 (nI out)) (out := fun s => s.2) (fun j s => ∃ τ : xr_S, s = (nI j, τ) ∧ (∀ l, l < j → τ.1 60 l = oI (xs_ts w bed out l)) ∧ ∀ c, c ≠ 60 → τ.1 c = σ.1 c) (tL t) (fun j s hj hP => by
      obtain ⟨τ, rfl, q1, q2⟩ := hP
      have hm1 : xi_Tm τ t := xi_Tm_fr4 hm (fun c h => q2 c (by omega))
      refine ⟨(nI (j + 1), xr_up τ 60 j (oI (xs_ts w bed out j))), ⟨_, rfl, fun l hl => ?_, fun c h => by rw [xp_other h, q2 c h]⟩, fun K rec => ?_⟩
      · rw [xp_same]
        by_cases hlj : l = j
        · subst hlj; rw [xp_us]
        · rw [xp_un hlj, q1 l (by omega)]
      · unfold xf_X11_foretells_L4
        dsimp only
        rw [hm1.2.2.2.1, if_neg (nI_ge hj (by omega)), xp_ld (by omega) (by omega), q2 59 (by decide), hbd j hj]
        simp only [xp_jn]
        unfold xs_ts
        cases hl : bed j with
        | none =>
          rw [if_pos (show oI none = -1 from rfl)]
          simp only [if_true]
          rw [xp_st (by omega) (by omega), nI_1]
          rfl
        | some s =>
          have hs := hb j s hl
          have e1 := xe_likeV hT hm1 (xq_V_fr hV (q2 50 (by decide))) hok hs
          have e2 := xe_has τ ho (show s < 31 by omega)
          have e3 : τ.1 59 j = nI s := by rw [q2 59 (by decide), hbd j hj, hl]; rfl
          rw [xp_oIs, if_neg (xp_m1 s (by omega)), xp_ld (by omega) (by omega), e3, e2, Option.bind_some]
          cases hq : out.testBit s with
          | true =>
            simp only [bI_t, show ¬ nI 1 = 0 from by decide, if_false, if_true]
            rw [xp_st (by omega) (by omega), nI_1, if_pos hq]
            rfl
          | false =>
            simp only [bI_f, show (nI 0 = 0) from rfl, show ¬ (1 : Int32) = 0 from by decide, if_true, if_false]
            rw [xp_ld (by omega) (by omega), e3, e1, Option.bind_some, xp_st (by omega) (by omega), nI_1, if_neg (by simp [hq])]
            rfl) (fun s hP K rec => by
      obtain ⟨τ, rfl, q1, q2⟩ := hP
      unfold xf_X11_foretells_L4
      dsimp only
      rw [q2 49 (by decide), hm.2.2.2.1, if_pos (nI_le (Nat.le_refl _) (by omega))]) (tL t) 0 (by omega) (0, σ) ⟨σ, rfl, fun _ h => by omega, fun _ _ => rfl⟩
  exact ⟨τ, h1, h2, h3⟩
theorem xe_foretells {σ : xr_S} {t : xa_T} {w : Nat → Nat → Nat} {bed : Nat → Option Nat} {out : Nat} (hT : xi_T t) (hm : xi_Tm σ t) (hV : xq_V σ 55 w) (hok : xs_wok t w) (hbd : ∀ l, l < tL t → σ.1 59 l = oI (bed l)) (hb : ∀ l s, bed l = some s → s < tS t) (ho : out < 2 ^ 31) : ∃ τ, xf_X11_foretells σ (nI out) = some (bI (xs_pn t (xs_ts w bed out) w (tL t)).1, τ) ∧ xq_V τ 55 (xs_pn t (xs_ts w bed out) w (tL t)).2 ∧ (∀ c, c ≠ 50 → c ≠ 60 → τ.1 c = σ.1 c) ∧ ∀ k, (k < 55 ∨ 110 ≤ k) → τ.1 50 k = σ.1 50 k := by
  obtain ⟨n1, n2, n3, n4, n5, n6, n7⟩ := id hT
  obtain ⟨τ0, z1, z2, z3⟩ := xe_foreTs hT hm hV hok hbd hb ho
  have hts := xs_ts_lt (out := out) hT hok hb
  obtain ⟨ts, hts'⟩ : ∃ ts, ts = xs_ts w bed out := ⟨_, rfl⟩
  rw [← hts'] at z1 hts
  rw [← hts']
  have hm0 : xi_Tm τ0 t := xi_Tm_fr4 hm (fun c h => z2 c (by omega))
  obtain ⟨s', ⟨τ, rfl, h1, h2, h4⟩, h3⟩ := xp_forK (body := xf_X11_foretells_L77) (out := fun s => (s.1, s.2.2)) (fun j s => ∃ τ : xr_S, s = (bI (xs_pn t ts w j).1, nI j, τ) ∧ xq_V τ 55 (xs_pn t ts w j).2 ∧ (∀ c, c ≠ 50 → τ.1 c = τ0.1 c) ∧ ∀ k, (k < 55 ∨ 110 ≤ k) → τ.1 50 k = τ0.1 50 k) (tL t) (fun j s hj hP => by
      obtain ⟨τ, rfl, q1, q2, q3⟩ := hP
      have hm1 : xi_Tm τ t := xi_Tm_fr4 hm0 (fun c h => q2 c (by omega))
      obtain ⟨g1, g2, g3⟩ := hm1.2.2.2.2.2 j hj
      obtain ⟨k1, k2, k3⟩ := n7 j hj
      cases ht : ts j with
      | none =>
        have e0 : xs_pn t ts w (j + 1) = xs_pn t ts w j := by simp only [xs_pn, ht]
        refine ⟨(bI (xs_pn t ts w (j + 1)).1, nI (j + 1), τ), ⟨τ, rfl, by rw [e0]; exact q1, q2, q3⟩, fun K rec => ?_⟩
        unfold xf_X11_foretells_L77
        dsimp only
        rw [hm1.2.2.2.1, if_neg (nI_ge hj (by omega)), xp_ld (by omega) (by omega), q2 60 (by decide), z1 j hj, ht, e0]
        simp only [xp_jn]
        rw [if_pos (show oI none = -1 from rfl), nI_1]
      | some d =>
        have hd := hts j d ht
        obtain ⟨v, hv⟩ : ∃ v, v = xs_gr ((xs_pn t ts w j).2 (tE t j) d) (tG t) := ⟨_, rfl⟩
        have hv9 : v ≤ 9 := by rw [hv]; exact xs_gr_le _ _
        have hold := q1.2 (tE t j) d
        have e0 : xs_pn t ts w (j + 1) = ((xs_pn t ts w j).1 || decide (v ≠ (xs_pn t ts w j).2 (tE t j) d), xs_set (xs_pn t ts w j).2 (tE t j) d v) := by simp only [xs_pn, ht, hv]
        have e1 := xe_grows q1 (by omega) (show tE t j < 6 by omega) (show d < 5 by omega) hm1.2.1 n2
        rw [← hv] at e1
        obtain ⟨τ2, hτ2⟩ : ∃ τ2, τ2 = xr_up τ 50 (55 + 5 * tE t j + d) (nI v) := ⟨_, rfl⟩
        rw [← hτ2] at e1
        have hV2 : xq_V τ2 55 (xs_set (xs_pn t ts w j).2 (tE t j) d v) := by rw [hτ2]; exact xq_V_set q1 (by omega) hv9
        have f2 : ∀ c, c ≠ 50 → τ2.1 c = τ.1 c := fun c h => by rw [hτ2, xp_other h]
        have e2 := xe_weightOf q1 (by omega) (show tE t j < 6 by omega) (show d < 5 by omega)
        have e3 := xe_weightOf hV2 (by omega) (show tE t j < 6 by omega) (show d < 5 by omega)
        have hsv : xs_set (xs_pn t ts w j).2 (tE t j) d v (tE t j) d = v := by simp [xs_set]
        rw [hsv] at e3
        have r60 : τ.1 60 j = nI d := by rw [q2 60 (by decide), z1 j hj, ht]; rfl
        have r60' : τ2.1 60 j = nI d := by rw [f2 60 (by decide)]; exact r60
        have r52' : τ2.1 52 j = nI (tE t j) := by rw [f2 52 (by decide)]; exact g1
        refine ⟨(bI (xs_pn t ts w (j + 1)).1, nI (j + 1), τ2), ⟨_, rfl, by rw [e0]; exact hV2, fun c h => by rw [f2 c h, q2 c h], fun k h => by rw [hτ2, xp_same, xp_un (by omega), q3 k h]⟩, fun K rec => ?_⟩
        unfold xf_X11_foretells_L77
        dsimp only
        rw [hm1.2.2.2.1, if_neg (nI_ge hj (by omega)), xp_ld (by omega) (by omega), r60, e0]
        simp only [xp_jn]
        rw [if_neg (xp_m1 d (by omega)), xp_ld (by omega) (by omega), g1, xp_ld (by omega) (by omega), r60, xl_55, e2, Option.bind_some, xp_ld (by omega) (by omega), g1, xp_ld (by omega) (by omega), r60, e1, Option.bind_some, xp_ld (by omega) (by omega), r52', xp_ld (by omega) (by omega), r60', e3, Option.bind_some, nI_1]
        cases hfl : (xs_pn t ts w j).1 with
        | true =>
          rw [bI_t, if_neg (show ¬ nI 1 = 0 by decide), Bool.true_or]; rfl
        | false =>
          rw [bI_f, if_pos (show nI 0 = 0 from rfl), Bool.false_or]
          by_cases hq : v ≠ (xs_pn t ts w j).2 (tE t j) d
          · rw [decide_eq_true hq, bI_t, if_neg (by rw [xp_eq (by omega) (by omega)]; exact fun h => hq h.symm)]; rfl
          · have hq' : v = (xs_pn t ts w j).2 (tE t j) d := Classical.not_not.mp hq
            rw [decide_eq_false hq, bI_f, if_pos (by rw [hq'])]; rfl) (fun s hP K rec => by
      obtain ⟨τ, rfl, q1, q2, q3⟩ := hP
      unfold xf_X11_foretells_L77
      dsimp only
      rw [q2 49 (by decide), hm0.2.2.2.1, if_pos (nI_le (Nat.le_refl _) (by omega))]) (tL t) 0 (by omega) (0, 0, τ0) ⟨τ0, rfl, xq_V_fr hV (z2 50 (by decide)), fun _ _ => rfl, fun _ _ => rfl⟩
  refine ⟨τ, ?_, h1, fun c g1 g2 => by rw [h2 c g1, z2 c g2], fun k hk => by rw [h4 k hk, z2 50 (by decide)]⟩
  unfold xf_X11_foretells
  refine (z3 _).trans ((h3 _).trans ?_)
  exact xp_zb
/-! many nights -/
def xs_fw (t : xa_T) (bed : Nat → Option Nat) (out : Nat) (w : Nat → Nat → Nat) : Nat → Nat → Nat → Nat
  | 0 => w
  | k + 1 => (xs_pn t (xs_ts (xs_fw t bed out w k) bed out) (xs_fw t bed out w k) (tL t)).2
def xs_fc (t : xa_T) (bed : Nat → Option Nat) (out : Nat) (w : Nat → Nat → Nat) (k : Nat) : Bool := (xs_pn t (xs_ts (xs_fw t bed out w k) bed out) (xs_fw t bed out w k) (tL t)).1
theorem xs_fw_ok {t : xa_T} {bed : Nat → Option Nat} {out : Nat} {w : Nat → Nat → Nat} (hT : xi_T t) (hok : xs_wok t w) (hb : ∀ l s, bed l = some s → s < tS t) : ∀ k, xs_wok t (xs_fw t bed out w k) := by
  intro k
  induction k with
  | zero => exact hok
  | succ k ih => exact xs_pn_ok ih (xs_ts_lt hT ih hb) _
def xs_rc (t : xa_T) (bed : Nat → Option Nat) (out : Nat) (w : Nat → Nat → Nat) (n : Nat) : Option Nat := xs_find (fun k => !xs_fc t bed out w k) n
def xs_rw (t : xa_T) (bed : Nat → Option Nat) (out : Nat) (w : Nat → Nat → Nat) (n : Nat) : Nat → Nat → Nat := match xs_rc t bed out w n with
  | none => xs_fw t bed out w n
  | some k => xs_fw t bed out w (k + 1)
theorem xs_rw_ok {t : xa_T} {bed : Nat → Option Nat} {out : Nat} {w : Nat → Nat → Nat} (hT : xi_T t) (hok : xs_wok t w) (hb : ∀ l s, bed l = some s → s < tS t) (n : Nat) : xs_wok t (xs_rw t bed out w n) := by
  unfold xs_rw
  split
  · exact xs_fw_ok hT hok hb _
  · exact xs_fw_ok hT hok hb _
theorem xe_run {σ : xr_S} {t : xa_T} {w : Nat → Nat → Nat} {bed : Nat → Option Nat} {out n : Nat} (hT : xi_T t) (hc : xi_Tc σ t) (hW : xq_W σ 17 w) (hok : xs_wok t w) (hbd : ∀ l, l < tL t → σ.1 32 l = oI (bed l)) (hb : ∀ l s, bed l = some s → s < tS t) (ho : out < 2 ^ 31) (hn : n < 1000) : ∃ τ, xf_X4_run σ (nI out) (nI n) = some (nI ((xs_rc t bed out w n).getD n), τ) ∧ xq_W τ 37 (xs_rw t bed out w n) ∧ ∀ c, c ≠ 37 → c ≠ 38 → τ.1 c = σ.1 c := by
  obtain ⟨b1, b2⟩ := xe_wbecome (σ := σ) (c := 36) (c2 := 16) hW
  obtain ⟨τ0, hτ0⟩ : ∃ τ0, τ0 = xr_upF σ (36 + 1) (va_cpy (σ.1 (16 + 1)) (σ.1 (36 + 1)) 0 0 30) := ⟨_, rfl⟩
  rw [← hτ0] at b1 b2
  have f0 : ∀ c, c ≠ 37 → τ0.1 c = σ.1 c := fun c h => by rw [hτ0, xp_otherF h]
  unfold xf_X4_run
  rw [b1, Option.bind_some]
  have hfc : ∀ j, xs_fc t bed out w j = (xs_pn t (xs_ts (xs_fw t bed out w j) bed out) (xs_fw t bed out w j) (tL t)).1 := fun _ => rfl
  have hfw : ∀ j, xs_fw t bed out w (j + 1) = (xs_pn t (xs_ts (xs_fw t bed out w j) bed out) (xs_fw t bed out w j) (tL t)).2 := fun _ => rfl
  refine xp_inv (Q := fun o => ∃ τ : xr_S, o = some (nI ((xs_rc t bed out w n).getD n), τ) ∧ xq_W τ 37 (xs_rw t bed out w n) ∧ ∀ c, c ≠ 37 → c ≠ 38 → τ.1 c = σ.1 c) (fun j x => ∃ τ : xr_S, x = (nI j, τ) ∧ xs_rc t bed out w j = none ∧ xq_W τ 37 (xs_fw t bed out w j) ∧ ∀ c, c ≠ 37 → c ≠ 38 → τ.1 c = σ.1 c) n (fun j x hj hI => ?_) (fun x hI => ?_) 0 _ (by omega) ⟨τ0, rfl, rfl, b2, fun c h _ => f0 c h⟩
  · obtain ⟨τ, rfl, hnn, hw, hf⟩ := hI
    obtain ⟨τ1, p1, p2, p3⟩ := xe_passNight (σ := τ) hT (xi_Tc_fr hc (fun c h => hf c (by omega) (by omega))) hw (xs_fw_ok hT hok hb j) (fun l hl => by rw [hf 32 (by decide) (by decide)]; exact hbd l hl) hb ho
    rw [← hfc j] at p1
    rw [← hfw j] at p2
    have g1 : ∀ c, c ≠ 37 → c ≠ 38 → τ1.1 c = σ.1 c := fun c h1 h2 => by rw [p3 c h1 h2, hf c h1 h2]
    cases hq : xs_fc t bed out w j with
    | false =>
      left
      have hr : xs_rc t bed out w n = some j := xs_find_some.mpr ⟨hj, by simp [hq], fun i hi => xs_find_none.mp hnn i hi⟩
      refine ⟨some (nI j, τ1), fun rec => ?_, τ1, by rw [hr]; rfl, by unfold xs_rw; rw [hr]; exact p2, g1⟩
      unfold xf_X4_run_L14
      dsimp only
      rw [if_neg (nI_ge hj (by omega)), p1, Option.bind_some, hq, if_pos (show bI false = 0 from rfl)]
    | true =>
      right
      refine ⟨(nI (j + 1), τ1), ⟨τ1, rfl, by unfold xs_rc at hnn ⊢; simp only [xs_find, hnn, hq]; rfl, p2, g1⟩, fun rec => ?_⟩
      unfold xf_X4_run_L14
      dsimp only
      rw [if_neg (nI_ge hj (by omega)), p1, Option.bind_some, hq, if_neg (show ¬ bI true = 0 by decide), nI_1]
  · obtain ⟨τ, rfl, hnn, hw, hf⟩ := hI
    refine ⟨some (nI n, τ), fun rec => ?_, τ, by rw [hnn]; rfl, by unfold xs_rw; rw [hnn]; exact hw, hf⟩
    unfold xf_X4_run_L14
    dsimp only
    rw [if_pos (nI_le (Nat.le_refl _) (by omega))]
theorem xe_foreMany {σ : xr_S} {t : xa_T} {w : Nat → Nat → Nat} {bed : Nat → Option Nat} {out n : Nat} (hT : xi_T t) (hm : xi_Tm σ t) (hV : xq_V σ 0 w) (hok : xs_wok t w) (hbd : ∀ l, l < tL t → σ.1 59 l = oI (bed l)) (hb : ∀ l s, bed l = some s → s < tS t) (ho : out < 2 ^ 31) (hn : n < 1000) : ∃ τ, xf_X11_foretellsMany σ (nI n) (nI out) = some τ ∧ xq_V τ 55 (xs_rw t bed out w n) ∧ (∀ c, c ≠ 50 → c ≠ 60 → τ.1 c = σ.1 c) ∧ ∀ k, (k < 55 ∨ 110 ≤ k) → τ.1 50 k = σ.1 50 k := by
  obtain ⟨τ0, c1, c2, c3, c4⟩ := xe_wcopy hV
  unfold xf_X11_foretellsMany
  rw [c1, Option.bind_some]
  have hfc : ∀ j, xs_fc t bed out w j = (xs_pn t (xs_ts (xs_fw t bed out w j) bed out) (xs_fw t bed out w j) (tL t)).1 := fun _ => rfl
  have hfw : ∀ j, xs_fw t bed out w (j + 1) = (xs_pn t (xs_ts (xs_fw t bed out w j) bed out) (xs_fw t bed out w j) (tL t)).2 := fun _ => rfl
  refine xp_inv (Q := fun o => ∃ τ : xr_S, o = some τ ∧ xq_V τ 55 (xs_rw t bed out w n) ∧ (∀ c, c ≠ 50 → c ≠ 60 → τ.1 c = σ.1 c) ∧ ∀ k, (k < 55 ∨ 110 ≤ k) → τ.1 50 k = σ.1 50 k) (fun j x => ∃ τ : xr_S, ((x = (1, nI j, τ) ∧ xs_rc t bed out w j = none ∧ xq_V τ 55 (xs_fw t bed out w j)) ∨ ∃ k, j = k + 1 ∧ x = (0, nI j, τ) ∧ xs_rc t bed out w j = some k ∧ xq_V τ 55 (xs_fw t bed out w (k + 1))) ∧ (∀ c, c ≠ 50 → c ≠ 60 → τ.1 c = σ.1 c) ∧ ∀ k, (k < 55 ∨ 110 ≤ k) → τ.1 50 k = σ.1 50 k) n (fun j x hj hI => ?_) (fun x hI => ?_) 0 _ (by omega) ⟨τ0, Or.inl ⟨rfl, rfl, c2⟩, fun c h _ => c3 c h, c4⟩
  · obtain ⟨τ, hx, hf, hk⟩ := hI
    rcases hx with ⟨rfl, hnn, hw⟩ | ⟨k, hkj, rfl, hsm, hw⟩
    · right
      obtain ⟨τ1, p1, p2, p3, p4⟩ := xe_foretells (σ := τ) hT (xi_Tm_fr4 hm (fun c h => hf c (by omega) (by omega))) hw (xs_fw_ok hT hok hb j) (fun l hl => by rw [hf 59 (by decide) (by decide)]; exact hbd l hl) hb ho
      rw [← hfc j] at p1
      rw [← hfw j] at p2
      have g1 : ∀ c, c ≠ 50 → c ≠ 60 → τ1.1 c = σ.1 c := fun c h1 h2 => by rw [p3 c h1 h2, hf c h1 h2]
      have g2 : ∀ k, (k < 55 ∨ 110 ≤ k) → τ1.1 50 k = σ.1 50 k := fun k h => by rw [p4 k h, hk k h]
      refine ⟨(bI (xs_fc t bed out w j), nI (j + 1), τ1), ⟨τ1, ?_, g1, g2⟩, fun rec => ?_⟩
      · cases hq : xs_fc t bed out w j with
        | false =>
          right
          exact ⟨j, rfl, rfl, xs_find_some.mpr ⟨by omega, by simp [hq], fun i hi => xs_find_none.mp hnn i hi⟩, p2⟩
        | true =>
          left
          exact ⟨rfl, by unfold xs_rc at hnn ⊢; simp only [xs_find, hnn, hq]; rfl, p2⟩
      · unfold xf_X11_foretellsMany_L12
        dsimp only
        rw [if_neg (nI_ge hj (by omega)), if_neg (show ¬ (1 : Int32) = 0 by decide), p1, Option.bind_some, nI_1]
    · left
      obtain ⟨s1, s2, s3⟩ := xs_find_some.mp hsm
      have hr : xs_rc t bed out w n = some k := xs_find_some.mpr ⟨by omega, s2, s3⟩
      refine ⟨some τ, fun rec => ?_, τ, rfl, by unfold xs_rw; rw [hr]; exact hw, hf, hk⟩
      unfold xf_X11_foretellsMany_L12
      dsimp only
      rw [if_neg (nI_ge hj (by omega)), if_pos rfl]
  · obtain ⟨τ, hx, hf, hk⟩ := hI
    rcases hx with ⟨rfl, hnn, hw⟩ | ⟨k, hkj, rfl, hsm, hw⟩
    · refine ⟨some τ, fun rec => ?_, τ, rfl, by unfold xs_rw; rw [hnn]; exact hw, hf, hk⟩
      unfold xf_X11_foretellsMany_L12
      dsimp only
      rw [if_pos (nI_le (Nat.le_refl _) (by omega))]
    · refine ⟨some τ, fun rec => ?_, τ, rfl, by unfold xs_rw; rw [hsm]; exact hw, hf, hk⟩
      unfold xf_X11_foretellsMany_L12
      dsimp only
      rw [if_pos (nI_le (Nat.le_refl _) (by omega))]
theorem xs_bed_lt {t : xa_T} {a : xa_A} : ∀ l s, xs_bed t a l = some s → s < tS t := fun l s h => (xs_fb_lt h).1
