/-! beds: the class's table and its walk -/
theorem xs_pow64 {S : Nat} (h : S ≤ 6) : 2 ^ S ≤ 64 := (Nat.pow_le_pow_right (by decide) h : 2 ^ S ≤ 2 ^ 6)
def xs_dif (a b : Nat) : Nat := a ^^^ (a &&& b)
theorem xs_dif_bit (a b i : Nat) : (xs_dif a b).testBit i = (a.testBit i && !b.testBit i) := by
  unfold xs_dif
  rw [Nat.testBit_xor, Nat.testBit_and]
  cases a.testBit i <;> cases b.testBit i <;> rfl
theorem xp_dif (a b : Nat) : nI a &&& (nI b ^^^ (-1)) = nI (xs_dif a b) := by
  apply Int32.toBitVec_inj.mp
  rw [Int32.toBitVec_and, Int32.toBitVec_xor]
  show BitVec.ofNat 32 a &&& (BitVec.ofNat 32 b ^^^ BitVec.allOnes 32) = BitVec.ofNat 32 (xs_dif a b)
  apply BitVec.eq_of_getLsbD_eq
  intro i hi
  rw [BitVec.getLsbD_and, BitVec.getLsbD_xor, BitVec.getLsbD_ofNat, BitVec.getLsbD_ofNat, BitVec.getLsbD_ofNat, BitVec.getLsbD_allOnes, xs_dif_bit]
  simp [hi]
theorem xs_dif_lt {a b n : Nat} (ha : a < 2 ^ n) : xs_dif a b < 2 ^ n := xs_lt_of_bits (fun i hi => by rw [xs_dif_bit, xs_bit_lt ha hi]; rfl)
theorem xi_Tm_fr4 {σ τ : xr_S} {t : xa_T} (h : xi_Tm σ t) (hf : ∀ c, c = 49 ∨ c = 52 ∨ c = 53 ∨ c = 54 → τ.1 c = σ.1 c) : xi_Tm τ t := by
  simpa only [xi_Tm, hf 49 (by omega), hf 52 (by omega), hf 53 (by omega), hf 54 (by omega)] using h
theorem xe_make0 {σ : xr_S} {t : xa_T} (hT : xi_T t) (hc : xi_Tc σ t) : ∃ τ, (∀ k, k < 2 ^ tS t → τ.1 34 (tL t * 64 + k) = 0) ∧ (∀ c, c ≠ 34 → τ.1 c = σ.1 c) ∧ ∀ K : xr_S → Option xr_S, xr_lw (xf_X0_make_L10 (nI (2 ^ tS t)) K) (0, σ) = K τ := by
  obtain ⟨n1, n2, n3, n4, n5, n6, n7⟩ := id hT
  have hp := xs_pow64 n3
  obtain ⟨s', ⟨τ, rfl, h1, h2⟩, h3⟩ := xp_forK (body := xf_X0_make_L10 (nI (2 ^ tS t))) (out := fun s => s.2) (fun j s => ∃ τ, s = (nI j, τ) ∧ (∀ k, k < j → τ.1 34 (tL t * 64 + k) = 0) ∧ ∀ c, c ≠ 34 → τ.1 c = σ.1 c) (2 ^ tS t) (fun j s hj hP => by
      obtain ⟨τ, rfl, q1, q2⟩ := hP
      have e : τ.1 9 3 = nI (tL t) := by rw [q2 9 (by decide)]; exact hc.2.2.2.1
      refine ⟨(nI (j + 1), xr_up τ 34 (tL t * 64 + j) 0), ⟨_, rfl, fun k hk => ?_, fun c h => by rw [xp_other h, q2 c h]⟩, fun K rec => ?_⟩
      · rw [xp_same]
        by_cases hkj : k = j
        · subst hkj; rw [xp_us]
        · rw [xp_un (by omega), q1 k (by omega)]
      · unfold xf_X0_make_L10
        dsimp only
        rw [if_neg (nI_ge hj (by omega)), e, xl_64, pk_mul, nI_add, xp_st (by omega) (by omega), xl_1, nI_add]) (fun s hP K rec => by
      obtain ⟨τ, rfl, q1, q2⟩ := hP
      unfold xf_X0_make_L10
      dsimp only
      rw [if_pos (nI_le (Nat.le_refl _) (by omega))]) (2 ^ tS t) 0 (by omega) (0, σ) ⟨σ, rfl, fun _ h => by omega, fun _ _ => rfl⟩
  exact ⟨τ, h1, h2, h3⟩
theorem xe_makeRow {σ : xr_S} {t : xa_T} {a : xa_A} {l : Nat} (hT : xi_T t) (hc : xi_Tc σ t) (hl : l < tL t) (h33 : ∀ s, s < tS t → σ.1 33 s = oI (xs_wo t a l s)) (h34 : ∀ k, k < 2 ^ tS t → σ.1 34 ((l + 1) * 64 + k) = nI (xs_bb t a (tL t - 1 - l) k)) (ρ : xr_S) : ∃ τ, (∀ k, k < 2 ^ tS t → τ.1 34 (l * 64 + k) = nI (xs_bb t a (tL t - l) k)) ∧ (∀ i, (l + 1) * 64 ≤ i → τ.1 34 i = σ.1 34 i) ∧ (∀ c, c ≠ 34 → τ.1 c = σ.1 c) ∧ ∀ K : xr_S → Option xr_S, xr_lw (xf_X0_make_L62 (nI (2 ^ tS t)) (nI l, ρ) K) (0, σ) = K τ := by
  obtain ⟨n1, n2, n3, n4, n5, n6, n7⟩ := id hT
  have hp := xs_pow64 n3
  obtain ⟨s', ⟨τ, rfl, h1, h2, h4⟩, h3⟩ := xp_forK (body := xf_X0_make_L62 (nI (2 ^ tS t)) (nI l, ρ)) (out := fun s => s.2) (fun j s => ∃ τ, s = (nI j, τ) ∧ (∀ k, k < j → τ.1 34 (l * 64 + k) = nI (xs_bb t a (tL t - l) k)) ∧ (∀ i, (l + 1) * 64 ≤ i → τ.1 34 i = σ.1 34 i) ∧ ∀ c, c ≠ 34 → τ.1 c = σ.1 c) (2 ^ tS t) (fun j s hj hP => by
      obtain ⟨τ, rfl, q1, q2, q3⟩ := hP
      have hj64 : j < 64 := by omega
      have e1 := xe_bestFrom (σ := τ) (a := a) hT (by rw [q3 9 (by decide)]; exact hc.2.2.1) hl hj (fun s hs => by rw [q3 33 (by decide)]; exact h33 s hs) (fun k hk => by rw [q2 _ (by omega)]; exact h34 k hk)
      refine ⟨(nI (j + 1), xr_up τ 34 (l * 64 + j) (nI (xs_bb t a (tL t - l) j))), ⟨_, rfl, fun k hk => ?_, fun i hi => by rw [xp_same, xp_un (by omega), q2 i hi], fun c h => by rw [xp_other h, q3 c h]⟩, fun K rec => ?_⟩
      · rw [xp_same]
        by_cases hkj : k = j
        · subst hkj; rw [xp_us]
        · rw [xp_un (by omega), q1 k (by omega)]
      · unfold xf_X0_make_L62
        dsimp only
        rw [if_neg (nI_ge hj (by omega)), e1, Option.bind_some, xl_64, pk_mul, nI_add, xp_st (by omega) (by omega), xl_1, nI_add]) (fun s hP K rec => by
      obtain ⟨τ, rfl, q1, q2, q3⟩ := hP
      unfold xf_X0_make_L62
      dsimp only
      rw [if_pos (nI_le (Nat.le_refl _) (by omega))]) (2 ^ tS t) 0 (by omega) (0, σ) ⟨σ, rfl, fun _ h => by omega, fun _ _ => rfl, fun _ _ => rfl⟩
  exact ⟨τ, h1, h2, h4, h3⟩
theorem xe_makeRows {σ : xr_S} {t : xa_T} {a : xa_A} (hT : xi_T t) (hA : xi_A t a) (hc : xi_Tc σ t) (hC : xi_C σ 15 a) (h34 : ∀ k, k < 2 ^ tS t → σ.1 34 (tL t * 64 + k) = 0) : ∃ τ, (∀ r k, r ≤ tL t → k < 2 ^ tS t → τ.1 34 (r * 64 + k) = nI (xs_bb t a (tL t - r) k)) ∧ (∀ c, c ≠ 33 → c ≠ 34 → τ.1 c = σ.1 c) ∧ ∀ K : xr_S → Option xr_S, xr_lw (xf_X0_make_L46 (nI (2 ^ tS t)) K) (dI (tL t), σ) = K τ := by
  obtain ⟨n1, n2, n3, n4, n5, n6, n7⟩ := id hT
  obtain ⟨s', ⟨τ, rfl, h1, h2⟩, h3⟩ := xp_forK (body := xf_X0_make_L46 (nI (2 ^ tS t))) (out := fun s => s.2) (fun j s => ∃ τ, s = (dI (tL t - j), τ) ∧ (∀ r k, tL t - j ≤ r → r ≤ tL t → k < 2 ^ tS t → τ.1 34 (r * 64 + k) = nI (xs_bb t a (tL t - r) k)) ∧ ∀ c, c ≠ 33 → c ≠ 34 → τ.1 c = σ.1 c) (tL t) (fun j s hj hP => by
      obtain ⟨τ, rfl, q1, q2⟩ := hP
      obtain ⟨l, hl⟩ : ∃ l, tL t - j = l + 1 := ⟨tL t - j - 1, by omega⟩
      have hlt : l < tL t := by omega
      have hc1 : xi_Tc τ t := xi_Tc_fr hc (fun c h => q2 c (by omega) (by omega))
      have hC1 : xi_C τ 15 a := xi_C_fr hC (q2 _ (by decide) (by decide)) (q2 _ (by decide) (by decide)) (q2 _ (by decide) (by decide)) (q2 _ (by decide) (by decide))
      obtain ⟨τ1, w1, w2, w3⟩ := xe_fillWorths hT hA hc1 hC1 hlt
      obtain ⟨τ2, r1, r2, r3, r4⟩ := xe_makeRow hT (xi_Tc_fr hc1 (fun c h => w3 c (by omega))) hlt w2 (fun k hk => by rw [w3 34 (by decide), q1 (l + 1) k (by omega) (by omega) hk, show tL t - (l + 1) = tL t - 1 - l by omega]) τ
      refine ⟨(dI (tL t - (j + 1)), τ2), ⟨τ2, rfl, fun r k h1 h2 hk => ?_, fun c h1 h2 => by rw [r3 c h2, w3 c h1, q2 c h1 h2]⟩, fun K rec => ?_⟩
      · by_cases hr : r = l
        · subst hr; exact r1 k hk
        · rw [r2 _ (by omega), w3 34 (by decide)]; exact q1 r k (by omega) h2 hk
      · have hd : dI (l + 1) = nI l := rfl
        unfold xf_X0_make_L46
        dsimp only
        rw [hl, hd, if_neg (nI_pos (by omega)), w1, Option.bind_some, show tL t - (j + 1) = l by omega, ← xp_dI]
        exact r4 (fun e => rec (nI l + (-1), e))) (fun s hP K rec => by
      obtain ⟨τ, rfl, q1, q2⟩ := hP
      unfold xf_X0_make_L46
      dsimp only
      rw [Nat.sub_self, if_pos (show dI 0 < 0 by decide)]) (tL t) 0 (by omega) (dI (tL t), σ) ⟨σ, rfl, fun r k h1 h2 hk => by
        have hr : r = tL t := by omega
        rw [hr, h34 k hk, Nat.sub_self]; rfl, fun _ _ _ => rfl⟩
  exact ⟨τ, fun r k hr hk => h1 r k (by omega) hr hk, h2, h3⟩
theorem xe_follow {σ : xr_S} {t : xa_T} {a : xa_A} (hT : xi_T t) (hA : xi_A t a) (hc : xi_Tc σ t) (hC : xi_C σ 15 a) (h34 : ∀ r k, r ≤ tL t → k < 2 ^ tS t → σ.1 34 (r * 64 + k) = nI (xs_bb t a (tL t - r) k)) : ∃ τ, xf_X0_follow σ = some τ ∧ τ.1 31 0 = σ.1 31 0 ∧ τ.1 31 1 = nI (xs_dif (xs_tk t a (tL t)) (qA a)) ∧ (∀ l, l < tL t → τ.1 32 l = oI (xs_bed t a l)) ∧ ∀ c, c ≠ 31 → c ≠ 32 → c ≠ 33 → τ.1 c = σ.1 c := by
  obtain ⟨n1, n2, n3, n4, n5, n6, n7⟩ := id hT
  have hp := xs_pow64 n3
  obtain ⟨s', ⟨τ, rfl, h1, h2⟩, h3⟩ := xp_forK (body := xf_X0_follow_L8) (out := fun s => (s.1, s.2.2)) (fun j s => ∃ τ, s = (nI (xs_tk t a j), nI j, τ) ∧ (∀ l, l < j → τ.1 32 l = oI (xs_bed t a l)) ∧ ∀ c, c ≠ 32 → c ≠ 33 → τ.1 c = σ.1 c) (tL t) (fun j s hj hP => by
      obtain ⟨τ, rfl, q1, q2⟩ := hP
      have hc1 : xi_Tc τ t := xi_Tc_fr hc (fun c h => q2 c (by omega) (by omega))
      have hC1 : xi_C τ 15 a := xi_C_fr hC (q2 _ (by decide) (by decide)) (q2 _ (by decide) (by decide)) (q2 _ (by decide) (by decide)) (q2 _ (by decide) (by decide))
      obtain ⟨τ1, w1, w2, w3⟩ := xe_fillWorths hT hA hc1 hC1 hj
      have htk := xs_tk_lt hA j
      have e1 := xe_firstBed (σ := τ1) (a := a) hT (by rw [w3 9 (by decide)]; exact hc1.2.2.1) hj htk w2 (fun k hk => by rw [w3 34 (by decide), q2 34 (by decide) (by decide), h34 (j + 1) k (by omega) hk, show tL t - (j + 1) = tL t - 1 - j by omega]) (fun k hk => by rw [w3 34 (by decide), q2 34 (by decide) (by decide), h34 j k (by omega) hk])
      refine ⟨(nI (xs_tk t a (j + 1)), nI (j + 1), xr_up τ1 32 j (oI (xs_bed t a j))), ⟨_, rfl, fun l hl => ?_, fun c h1 h2 => by rw [xp_other h1, w3 c h2, q2 c h1 h2]⟩, fun K rec => ?_⟩
      · rw [xp_same]
        by_cases hlj : l = j
        · subst hlj; rw [xp_us]
        · rw [xp_un hlj, w3 32 (by decide), q1 l (by omega)]
      · unfold xf_X0_follow_L8
        dsimp only
        rw [hc1.2.2.2.1, if_neg (nI_ge hj (by omega)), w1, Option.bind_some, e1, Option.bind_some, xp_st (by omega) (by omega), xp_ld (by omega) (by omega), xp_same, xp_us, xp_jn]
        have hbd : xs_bed t a j = xs_fb t a j (xs_tk t a j) := rfl
        rw [hbd]
        cases hf : xs_fb t a j (xs_tk t a j) with
        | none =>
          have htk1 : xs_tk t a (j + 1) = xs_tk t a j := by simp only [xs_tk, hf]
          rw [if_pos (show oI none = -1 from rfl), htk1, nI_1]
        | some s =>
          have hs := (xs_fb_lt hf).1
          have htk1 : xs_tk t a (j + 1) = xs_tk t a j ||| 2 ^ s := by simp only [xs_tk, hf]
          rw [xp_oIs, if_neg (xp_m1 s (by omega)), xp_ld (by omega) (by omega), xp_same, xp_us, xp_v, xp_setL (by omega), htk1, xl_1, nI_add]) (fun s hP K rec => by
      obtain ⟨τ, rfl, q1, q2⟩ := hP
      unfold xf_X0_follow_L8
      dsimp only
      rw [q2 9 (by decide) (by decide), hc.2.2.2.1, if_pos (nI_le (Nat.le_refl _) (by omega))]) (tL t) 0 (by omega) (nI (xs_tk t a 0), 0, σ) ⟨σ, rfl, fun _ h => by omega, fun _ _ _ => rfl⟩
  refine ⟨xr_up τ 31 1 (nI (xs_dif (xs_tk t a (tL t)) (qA a))), ?_, by rw [xp_same, xp_un (by decide), h2 31 (by decide) (by decide)], by rw [xp_same, xp_us], fun l hl => by rw [xp_other (by decide)]; exact h1 l hl, fun c g1 g2 g3 => by rw [xp_other g1, h2 c g2 g3]⟩
  unfold xf_X0_follow
  rw [xp_v, hC.2.2.2.2.1]
  refine (h3 _).trans ?_
  dsimp only
  rw [h2 15 (by decide) (by decide), hC.2.2.2.2.1, xp_dif, xp_pf]
theorem xe_make {σ : xr_S} {t : xa_T} {a : xa_A} (hT : xi_T t) (hA : xi_A t a) (hc : xi_Tc σ t) (hC : xi_C σ 15 a) : ∃ τ, xf_X0_make σ = some τ ∧ τ.1 31 0 = nI (xs_bb t a (tL t) (qA a)) ∧ τ.1 31 1 = nI (xs_dif (xs_tk t a (tL t)) (qA a)) ∧ (∀ l, l < tL t → τ.1 32 l = oI (xs_bed t a l)) ∧ ∀ c, c ≠ 31 → c ≠ 32 → c ≠ 33 → c ≠ 34 → τ.1 c = σ.1 c := by
  obtain ⟨n1, n2, n3, n4, n5, n6, n7⟩ := id hT
  have hA8 := hA.2.2.2.2.2.2.2.1
  have hb := xi_bounds hT hA
  obtain ⟨τ0, z1, z2, z3⟩ := xe_make0 (σ := σ) hT hc
  have hc0 : xi_Tc τ0 t := xi_Tc_fr hc (fun c h => z2 c (by omega))
  have hC0 : xi_C τ0 15 a := xi_C_fr hC (z2 _ (by decide)) (z2 _ (by decide)) (z2 _ (by decide)) (z2 _ (by decide))
  obtain ⟨τ1, y1, y2, y3⟩ := xe_makeRows hT hA hc0 hC0 z1
  have hc1 : xi_Tc τ1 t := xi_Tc_fr hc0 (fun c h => y2 c (by omega) (by omega))
  have hC1 : xi_C τ1 15 a := xi_C_fr hC0 (y2 _ (by decide) (by decide)) (y2 _ (by decide) (by decide)) (y2 _ (by decide) (by decide)) (y2 _ (by decide) (by decide))
  have hm := y1 0 (qA a) (by omega) hA8
  rw [Nat.zero_mul, Nat.zero_add, Nat.sub_zero] at hm
  obtain ⟨τ2, hτ2⟩ : ∃ τ2, τ2 = xr_up τ1 31 0 (nI (xs_bb t a (tL t) (qA a))) := ⟨_, rfl⟩
  have f2 : ∀ c, c ≠ 31 → τ2.1 c = τ1.1 c := fun c h => by rw [hτ2, xp_other h]
  have hc2 : xi_Tc τ2 t := xi_Tc_fr hc1 (fun c h => f2 c (by omega))
  have hC2 : xi_C τ2 15 a := xi_C_fr hC1 (f2 _ (by decide)) (f2 _ (by decide)) (f2 _ (by decide)) (f2 _ (by decide))
  obtain ⟨τ, x1, x2, x3, x4, x5⟩ := xe_follow hT hA hc2 hC2 (fun r k hr hk => by rw [f2 34 (by decide)]; exact y1 r k hr hk)
  refine ⟨τ, ?_, by rw [x2, hτ2, xp_same, xp_us], x3, x4, fun c g1 g2 g3 g4 => by rw [x5 c g1 g2 g3, f2 c g1, y2 c g3 g4, z2 c g4]⟩
  have e : ((1 : Int32) <<< (nI (tS t) &&& 31)) = nI (2 ^ tS t) := xp_shl1 _ (by omega)
  unfold xf_X0_make
  rw [hc.2.2.1, e, xp_v]
  refine (z3 _).trans ?_
  rw [hc0.2.2.2.1, xp_dI', xp_v]
  refine (y3 _).trans ?_
  rw [hC1.2.2.2.2.1, xp_ld (by omega) (by omega), hm, xp_pf, ← hτ2, x1]
  rfl
