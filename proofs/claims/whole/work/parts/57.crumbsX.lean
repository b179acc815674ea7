/-! crumbs: all ways gone through, and the call -/
theorem xs_fs_len {fr : Nat → Bool} : ∀ (ls : List (Nat → Nat)) (p : Nat × (Nat → Int32)), (ls.foldl (xs_fs fr) p).1 = p.1 + ls.length := by
  intro ls
  induction ls with
  | nil => intro p; rfl
  | cons f ls ih => intro p; rw [List.foldl_cons, ih, List.length_cons]; simp only [xs_fs]; omega
theorem xs_rng_skip {α : Type} {G : Nat → List α} {S e : Nat} (he : e ≤ S) : ∀ d s0, s0 + d = e → (∀ i, s0 ≤ i → i < e → G i = []) → (List.range' s0 (S - s0)).flatMap G = (List.range' e (S - e)).flatMap G := by
  intro d
  induction d with
  | zero => intro s0 h _; rw [show s0 = e by omega]
  | succ d ih =>
    intro s0 h hG
    rw [← ih (s0 + 1) (by omega) (fun i h1 h2 => hG i (by omega) h2)]
    obtain ⟨n, hn⟩ : ∃ n, S - s0 = n + 1 := ⟨S - s0 - 1, by omega⟩
    rw [hn, List.range'_succ, List.flatMap_cons, hG s0 (Nat.le_refl _) (by omega), List.nil_append, show S - (s0 + 1) = n by omega]
theorem xe_expl {σ : xr_S} {t : xa_T} {a : xa_A} (hT : xi_T t) (hA : xi_A t a) (hm : xi_Tm σ t) (hM : xi_M σ 0 a) (K : (Int32 × xr_S) → Option (Int32 × xr_S)) : ∀ m, m ≤ tL t → ∀ (wy : Nat) (su : Nat → Int32) (k : Nat) (f : Nat → Nat) (τ : xr_S), k < 2 ^ tS t → wy + (xs_lv (xs_al t a) (xs_fr a) (tS t) (tL t) m k f).length < 2 ^ 31 → (∀ c, c ≠ 62 → c ≠ 63 → τ.1 c = σ.1 c) → (∀ i, i + m < tL t → τ.1 62 i = xs_lay (xs_fr a) f i) → (∀ i, tL t ≤ i + m → i < tL t → τ.1 62 i = -1) → (∀ i, i < tL t → τ.1 63 i = su i) → ∃ τ', xr_lw (xf_X11_findCrumbs_L38 K) (nI wy, nI (tL t - m), nI k, τ) = xr_lw (xf_X11_findCrumbs_L38 K) (nI ((xs_lv (xs_al t a) (xs_fr a) (tS t) (tL t) m k f).foldl (xs_fs (xs_fr a)) (wy, su)).1, dI (tL t - m), nI k, τ') ∧ (∀ c, c ≠ 62 → c ≠ 63 → τ'.1 c = σ.1 c) ∧ (∀ i, i + m < tL t → τ'.1 62 i = xs_lay (xs_fr a) f i) ∧ (∀ i, tL t ≤ i + m → i < tL t → τ'.1 62 i = -1) ∧ ∀ i, i < tL t → τ'.1 63 i = ((xs_lv (xs_al t a) (xs_fr a) (tS t) (tL t) m k f).foldl (xs_fs (xs_fr a)) (wy, su)).2 i := by
  obtain ⟨n1, n2, n3, n4, n5, n6, n7⟩ := id hT
  have hbo := xi_bounds hT hA
  have hp64 := xs_pow64 n3
  intro m
  induction m with
  | zero =>
    intro hmL wy su k f τ hk hw hfr h62 h62' h63
    have h495 : τ.1 49 5 = nI (tL t) := by rw [hfr 49 (by decide) (by decide)]; exact hm.2.2.2.1
    simp only [xs_lv, List.length_cons, List.length_nil] at hw
    obtain ⟨τ', q1, q2, q3⟩ := xe_cr53 (wy := wy) h495 n4 (by omega) (fun i hi => h62 i (by omega)) h63 (nI (tL t)) (nI k) τ
    refine ⟨τ', ?_, fun c h1 h2 => by rw [q2 c h2, hfr c h1 h2], fun i hi => by rw [q2 62 (by decide)]; exact h62 i hi, fun i h1 h2 => by omega, fun i hi => by rw [q1 i hi]; rfl⟩
    simp only [xs_lv, List.foldl_cons, List.foldl_nil, xs_fs, Nat.sub_zero]
    refine xp_open (fun rec => ?_)
    unfold xf_X11_findCrumbs_L38
    dsimp only
    rw [if_neg (nI_pos (by omega)), h495, if_pos rfl, q3, nI_1, xp_dI]
  | succ m ih =>
    intro hmL wy su k f τ hk hw hfr h62 h62' h63
    obtain ⟨l, hl⟩ : ∃ l, tL t - (m + 1) = l := ⟨_, rfl⟩
    have hlt : l < tL t := by omega
    have hlm : tL t - m = l + 1 := by omega
    have hd1 : dI (l + 1) = nI l := rfl
    have hmM : ∀ ρ : xr_S, (∀ c, c ≠ 62 → c ≠ 63 → ρ.1 c = σ.1 c) → xi_Tm ρ t ∧ xi_M ρ 0 a := fun ρ h => ⟨xi_Tm_fr4 hm (fun c hc => h c (by omega) (by omega)), xi_M_fr hM (h 50 (by decide) (by decide))⟩
    cases hfl : xs_fr a l with
    | true =>
      have e0 : xs_lv (xs_al t a) (xs_fr a) (tS t) (tL t) (m + 1) k f = xs_lv (xs_al t a) (xs_fr a) (tS t) (tL t) m k f := by simp only [xs_lv, hl]; rw [if_pos hfl]
      rw [e0] at hw ⊢
      have step : ∀ (ρ : xr_S) (w : Nat), (∀ c, c ≠ 62 → c ≠ 63 → ρ.1 c = σ.1 c) → ∀ rec, xf_X11_findCrumbs_L38 K (nI w, nI l, nI k, ρ) rec = if ρ.1 62 l = -1 then rec (nI w, nI (l + 1), nI k, xr_up ρ 62 l (-2)) else rec (nI w, dI l, nI k, xr_up ρ 62 l (-1)) := by
        intro ρ w hρ rec
        obtain ⟨hm1, hM1⟩ := hmM ρ hρ
        have e1 := xe_isFreshM ((xi_M0 hM1).2.2.1 l (by omega)) (hbo.2.1 l) (show l < 7 by omega)
        rw [show (qT a l).isNone = true from hfl] at e1
        unfold xf_X11_findCrumbs_L38
        dsimp only
        rw [if_neg (nI_pos (by omega)), hm1.2.2.2.1, if_neg (by rw [xp_eq (by omega) (by omega)]; omega), e1, Option.bind_some, if_neg (show ¬ bI true = 0 by decide), xp_ld (by omega) (by omega)]
        simp only [xp_jn]
        by_cases hq : ρ.1 62 l = -1
        · rw [if_pos hq, if_pos hq, if_neg (by decide), xp_st (by omega) (by omega), if_neg (by decide), xp_v, nI_1]
        · rw [if_neg hq, if_neg hq, if_pos trivial, xp_st (by omega) (by omega), if_pos trivial, xp_v, xp_dI]
      obtain ⟨τ1, hτ1⟩ : ∃ τ1, τ1 = xr_up τ 62 l (-2) := ⟨_, rfl⟩
      have f1 : ∀ c, c ≠ 62 → τ1.1 c = τ.1 c := fun c h => by rw [hτ1, xp_other h]
      obtain ⟨τ2, r1, r2, r3, r4, r5⟩ := ih (by omega) wy su k f τ1 hk hw (fun c h1 h2 => by rw [f1 c h1, hfr c h1 h2]) (fun i hi => by
        rw [hτ1, xp_same]
        by_cases hil : i = l
        · rw [hil, xp_us]; unfold xs_lay; rw [hfl]; rfl
        · rw [xp_un hil]; exact h62 i (by omega)) (fun i h1 h2 => by rw [hτ1, xp_same, xp_un (by omega)]; exact h62' i (by omega) h2) (fun i hi => by rw [f1 63 (by decide)]; exact h63 i hi)
      refine ⟨xr_up τ2 62 l (-1), ?_, fun c h1 h2 => by rw [xp_other h1, r2 c h1 h2], fun i hi => by rw [xp_same, xp_un (by omega)]; exact r3 i (by omega), fun i h1 h2 => ?_, fun i hi => by rw [xp_other (by decide)]; exact r5 i hi⟩
      · rw [hl]
        have s1 := xp_open (body := xf_X11_findCrumbs_L38 K) (s := (nI wy, nI l, nI k, τ)) (s' := (nI wy, nI (l + 1), nI k, τ1)) (fun rec => by rw [step τ wy hfr, if_pos (h62' l (by omega) hlt), hτ1])
        rw [s1, ← hlm, r1, hlm, hd1]
        have hne : ¬ τ2.1 62 l = -1 := by
          rw [r3 l (by omega)]
          unfold xs_lay
          rw [hfl, if_pos rfl]
          decide
        exact xp_open (fun rec => by rw [step τ2 _ r2, if_neg hne])
      · rw [xp_same]
        by_cases hil : i = l
        · rw [hil, xp_us]
        · rw [xp_un hil]; exact r4 i (by omega) h2
    | false =>
      obtain ⟨G, hG⟩ : ∃ G : Nat → List (Nat → Nat), G = fun s => if xs_ok t a l k s then xs_lv (xs_al t a) (xs_fr a) (tS t) (tL t) m (k ||| 2 ^ s) (fun i => if i = l then s else f i) else [] := ⟨_, rfl⟩
      have e0 : xs_lv (xs_al t a) (xs_fr a) (tS t) (tL t) (m + 1) k f = (List.range' 0 (tS t)).flatMap G := by
        simp only [xs_lv, hl]
        rw [if_neg (by rw [hfl]; decide), hG]
        rfl
      rw [e0] at hw ⊢
      have scan : ∀ n (po : Option Nat) (wy : Nat) (su : Nat → Int32) (τ : xr_S), tS t - xs_s0 po ≤ n → (∀ s, po = some s → s < tS t ∧ k.testBit s = false) → wy + ((List.range' (xs_s0 po) (tS t - xs_s0 po)).flatMap G).length < 2 ^ 31 → (∀ c, c ≠ 62 → c ≠ 63 → τ.1 c = σ.1 c) → (∀ i, i + (m + 1) < tL t → τ.1 62 i = xs_lay (xs_fr a) f i) → τ.1 62 l = oI po → (∀ i, l < i → i < tL t → τ.1 62 i = -1) → (∀ i, i < tL t → τ.1 63 i = su i) → ∃ τ', xr_lw (xf_X11_findCrumbs_L38 K) (nI wy, nI l, nI (xs_kt k po), τ) = xr_lw (xf_X11_findCrumbs_L38 K) (nI (((List.range' (xs_s0 po) (tS t - xs_s0 po)).flatMap G).foldl (xs_fs (xs_fr a)) (wy, su)).1, dI l, nI k, τ') ∧ (∀ c, c ≠ 62 → c ≠ 63 → τ'.1 c = σ.1 c) ∧ (∀ i, i + (m + 1) < tL t → τ'.1 62 i = xs_lay (xs_fr a) f i) ∧ (∀ i, l ≤ i → i < tL t → τ'.1 62 i = -1) ∧ ∀ i, i < tL t → τ'.1 63 i = (((List.range' (xs_s0 po) (tS t - xs_s0 po)).flatMap G).foldl (xs_fs (xs_fr a)) (wy, su)).2 i := by
        intro n
        induction n with
        | zero =>
          intro po wy su τ hn hpo hw hfr h62 hl62 h62' h63
          obtain ⟨hm1, hM1⟩ := hmM τ hfr
          obtain ⟨e, g1, g2, g3, g4, g5⟩ := xe_crStep (po := po) (k := k) hT hA hm1 hM1 hlt (show (qT a l).isNone = false from hfl) (by omega) hpo hl62 wy
          have he : ¬ e < tS t := by omega
          have hnil : (List.range' (xs_s0 po) (tS t - xs_s0 po)).flatMap G = [] := by rw [show tS t - xs_s0 po = 0 by omega]; rfl
          rw [hnil]
          refine ⟨xr_up τ 62 l (-1), xp_open (fun rec => by rw [g5, if_neg he]; rfl), fun c h1 h2 => by rw [xp_other h1, hfr c h1 h2], fun i hi => by rw [xp_same, xp_un (by omega)]; exact h62 i hi, fun i h1 h2 => ?_, fun i hi => by rw [xp_other (by decide)]; exact h63 i hi⟩
          rw [xp_same]
          by_cases hil : i = l
          · rw [hil, xp_us]
          · rw [xp_un hil]; exact h62' i (by omega) h2
        | succ n ihn =>
          intro po wy su τ hn hpo hw hfr h62 hl62 h62' h63
          obtain ⟨hm1, hM1⟩ := hmM τ hfr
          obtain ⟨e, g1, g2, g3, g4, g5⟩ := xe_crStep (po := po) (k := k) hT hA hm1 hM1 hlt (show (qT a l).isNone = false from hfl) (by omega) hpo hl62 wy
          have hskip : (List.range' (xs_s0 po) (tS t - xs_s0 po)).flatMap G = (List.range' e (tS t - e)).flatMap G := xs_rng_skip g2 (e - xs_s0 po) (xs_s0 po) (by omega) (fun i h1 h2 => by rw [hG]; dsimp only; rw [g3 i h1 h2]; rfl)
          rw [hskip] at hw ⊢
          by_cases he : e < tS t
          · have hoke := g4 he
            have hke : k.testBit e = false := by
              unfold xs_ok at hoke
              cases hb : k.testBit e with
              | false => rfl
              | true => rw [hb] at hoke; simp at hoke
            obtain ⟨q, hq⟩ : ∃ q, tS t - e = q + 1 := ⟨tS t - e - 1, by omega⟩
            have hGe : G e = xs_lv (xs_al t a) (xs_fr a) (tS t) (tL t) m (k ||| 2 ^ e) (fun i => if i = l then e else f i) := by rw [hG]; dsimp only; rw [hoke]; rfl
            have hsplit : (List.range' e (tS t - e)).flatMap G = G e ++ (List.range' (e + 1) (tS t - (e + 1))).flatMap G := by rw [hq, List.range'_succ, List.flatMap_cons, show tS t - (e + 1) = q by omega]
            rw [hsplit, List.length_append] at hw
            rw [hsplit, List.foldl_append]
            obtain ⟨τ1, hτ1⟩ : ∃ τ1, τ1 = xr_up τ 62 l (nI e) := ⟨_, rfl⟩
            have f1 : ∀ c, c ≠ 62 → τ1.1 c = τ.1 c := fun c h => by rw [hτ1, xp_other h]
            have hlayeq : ∀ i, i ≠ l → xs_lay (xs_fr a) (fun i => if i = l then e else f i) i = xs_lay (xs_fr a) f i := fun i hi => by unfold xs_lay; simp only [if_neg hi]
            have hlayl : xs_lay (xs_fr a) (fun i => if i = l then e else f i) l = nI e := by unfold xs_lay; rw [hfl]; simp
            obtain ⟨τ2, r1, r2, r3, r4, r5⟩ := ih (by omega) wy su (k ||| 2 ^ e) (fun i => if i = l then e else f i) τ1 (xs_or_lt hk (xs_pow_lt he)) (by rw [← hGe]; omega) (fun c h1 h2 => by rw [f1 c h1, hfr c h1 h2]) (fun i hi => by
              rw [hτ1, xp_same]
              by_cases hil : i = l
              · rw [hil, xp_us, hlayl]
              · rw [xp_un hil, hlayeq i hil]; exact h62 i (by omega)) (fun i h1 h2 => by rw [hτ1, xp_same, xp_un (by omega)]; exact h62' i (by omega) h2) (fun i hi => by rw [f1 63 (by decide)]; exact h63 i hi)
            rw [← hGe] at r1 r5
            have hlen := xs_fs_len (fr := xs_fr a) (G e) (wy, su)
            obtain ⟨τ3, u1, u2, u3, u4, u5⟩ := ihn (some e) ((G e).foldl (xs_fs (xs_fr a)) (wy, su)).1 ((G e).foldl (xs_fs (xs_fr a)) (wy, su)).2 τ2 (by show tS t - (e + 1) ≤ n; omega) (fun s hs => by cases hs; exact ⟨he, hke⟩) (by show _ + ((List.range' (e + 1) (tS t - (e + 1))).flatMap G).length < 2 ^ 31; rw [hlen]; dsimp only; omega) r2 (fun i hi => by rw [r3 i (by omega), hlayeq i (by omega)]) (by rw [r3 l (by omega), hlayl]; rfl) (fun i h1 h2 => r4 i (by omega) h2) r5
            refine ⟨τ3, ?_, u2, u3, u4, u5⟩
            have s1 := xp_open (body := xf_X11_findCrumbs_L38 K) (s := (nI wy, nI l, nI (xs_kt k po), τ)) (s' := (nI wy, nI (l + 1), nI (k ||| 2 ^ e), τ1)) (fun rec => by rw [g5, if_pos he, hτ1])
            rw [s1, ← hlm, r1, hlm, hd1]
            exact u1
          · have hnil : (List.range' e (tS t - e)).flatMap G = [] := by rw [show tS t - e = 0 by omega]; rfl
            rw [hnil]
            refine ⟨xr_up τ 62 l (-1), xp_open (fun rec => by rw [g5, if_neg he]; rfl), fun c h1 h2 => by rw [xp_other h1, hfr c h1 h2], fun i hi => by rw [xp_same, xp_un (by omega)]; exact h62 i hi, fun i h1 h2 => ?_, fun i hi => by rw [xp_other (by decide)]; exact h63 i hi⟩
            rw [xp_same]
            by_cases hil : i = l
            · rw [hil, xp_us]
            · rw [xp_un hil]; exact h62' i (by omega) h2
      obtain ⟨τ', u1, u2, u3, u4, u5⟩ := scan (tS t) none wy su τ (by show tS t - 0 ≤ tS t; omega) (fun s hs => by cases hs) hw hfr h62 (h62' l (by omega) hlt) (fun i h1 h2 => h62' i (by omega) h2) h63
      refine ⟨τ', ?_, u2, u3, fun i h1 h2 => u4 i (by omega) h2, u5⟩
      rw [hl]
      exact u1
theorem xe_findCrumbs {σ : xr_S} {t : xa_T} {a : xa_A} (hT : xi_T t) (hA : xi_A t a) (hm : xi_Tm σ t) (hM : xi_M σ 0 a) : ∃ τ, xf_X11_findCrumbs σ = some (nI ((xs_lv (xs_al t a) (xs_fr a) (tS t) (tL t) (tL t) 0 (fun _ => 0)).foldl (xs_fs (xs_fr a)) (0, fun _ => -1)).1, τ) ∧ (∀ i, i < tL t → τ.1 63 i = ((xs_lv (xs_al t a) (xs_fr a) (tS t) (tL t) (tL t) 0 (fun _ => 0)).foldl (xs_fs (xs_fr a)) (0, fun _ => -1)).2 i) ∧ ∀ c, c ≠ 62 → c ≠ 63 → τ.1 c = σ.1 c := by
  obtain ⟨n1, n2, n3, n4, n5, n6, n7⟩ := id hT
  obtain ⟨s', ⟨τ0, rfl, h1, h2, h4⟩, h3⟩ := xp_forK (body := xf_X11_findCrumbs_L9) (out := fun s => s.2) (fun j s => ∃ τ : xr_S, s = (nI j, τ) ∧ (∀ i, i < j → τ.1 62 i = -1) ∧ (∀ i, i < j → τ.1 63 i = -1) ∧ ∀ c, c ≠ 62 → c ≠ 63 → τ.1 c = σ.1 c) 7 (fun j s hj hP => by
      obtain ⟨τ, rfl, q1, q2, q3⟩ := hP
      refine ⟨(nI (j + 1), xr_up (xr_up τ 62 j (-1)) 63 j (-1)), ⟨_, rfl, fun i hi => ?_, fun i hi => ?_, fun c h1 h2 => by rw [xp_other h2, xp_other h1, q3 c h1 h2]⟩, fun K rec => ?_⟩
      · rw [xp_other (by decide), xp_same]
        by_cases hij : i = j
        · rw [hij, xp_us]
        · rw [xp_un hij, q1 i (by omega)]
      · rw [xp_same]
        by_cases hij : i = j
        · rw [hij, xp_us]
        · rw [xp_un hij, xp_other (by decide), q2 i (by omega)]
      · unfold xf_X11_findCrumbs_L9
        dsimp only
        rw [if_neg (show ¬ (7 : Int32) ≤ nI j from nI_ge (b := 7) hj (by omega)), xp_st (by omega) (by omega), xp_st (by omega) (by omega), nI_1]) (fun s hP K rec => by
      obtain ⟨τ, rfl, q1, q2, q3⟩ := hP
      unfold xf_X11_findCrumbs_L9
      dsimp only
      rw [if_pos (show (7 : Int32) ≤ nI 7 by decide)]) 7 0 (by omega) (0, σ) ⟨σ, rfl, fun _ h => by omega, fun _ h => by omega, fun _ _ _ => rfl⟩
  have hlen := xs_lv_len (al := xs_al t a) (fr := xs_fr a) (S := tS t) (L := tL t) (tL t) 0 (fun _ => 0)
  have hle := xs_wy_le (al := xs_al t a) (fr := xs_fr a) (L := tL t) n3 (tL t) 0
  have hp : 6 ^ tL t ≤ 6 ^ 7 := Nat.pow_le_pow_right (by decide) n4
  obtain ⟨τ, r1, r2, r3, r4, r5⟩ := xe_expl hT hA hm hM (fun (e10 : (Int32 × xr_S)) => some (e10.1, e10.2)) (tL t) (Nat.le_refl _) 0 (fun _ => -1) 0 (fun _ => 0) τ0 (Nat.two_pow_pos _) (by omega) h4 (fun i hi => by omega) (fun i _ hi => h1 i (by omega)) (fun i hi => h2 i (by omega))
  refine ⟨τ, ?_, r5, r2⟩
  unfold xf_X11_findCrumbs
  refine (h3 _).trans ?_
  rw [Nat.sub_self] at r1
  refine Eq.trans r1 ?_
  refine xr_lw_eq 1 (fun n hn => ?_)
  obtain ⟨n, rfl⟩ : ∃ i, n = i + 1 := ⟨n - 1, by omega⟩
  show xf_X11_findCrumbs_L38 _ _ _ = _
  unfold xf_X11_findCrumbs_L38
  dsimp only
  rw [if_pos (show dI 0 < 0 by decide)]
theorem xs_fs_su {fr : Nat → Bool} {k : Nat} (hk : fr k = false) : ∀ (ls : List (Nat → Nat)) (n : Nat) (su : Nat → Int32), 0 < n → (ls.foldl (xs_fs fr) (n, su)).2 k = if (∀ f, f ∈ ls → nI (f k) = su k) then su k else -1 := by
  intro ls
  induction ls with
  | nil => intro n su hn; rw [if_pos (fun f hf => by cases hf)]; rfl
  | cons f ls ih =>
    intro n su hn
    rw [List.foldl_cons]
    have e0 : xs_fs fr (n, su) f = (n + 1, fun k => if n = 0 ∨ su k = xs_lay fr f k then xs_lay fr f k else -1) := rfl
    rw [e0, ih _ _ (by omega)]
    have hl : xs_lay fr f k = nI (f k) := by unfold xs_lay; rw [hk]; rfl
    rw [hl]
    by_cases h1 : su k = nI (f k)
    · rw [if_pos (Or.inr h1)]
      by_cases h2 : ∀ g, g ∈ ls → nI (g k) = nI (f k)
      · rw [if_pos h2, if_pos (fun g hg => by
          rcases List.mem_cons.mp hg with h | h
          · rw [h, h1]
          · rw [h2 g h, h1]), h1]
      · rw [if_neg h2, if_neg (fun h3 => h2 (fun g hg => by rw [h3 g (List.mem_cons_of_mem _ hg), h1]))]
    · have hno : ¬ (n = 0 ∨ su k = nI (f k)) := fun h => h.elim (by omega) h1
      rw [if_neg hno, if_neg (show ¬ (∀ g, g ∈ f :: ls → nI (g k) = su k) from fun h3 => h1 (h3 f List.mem_cons_self).symm)]
      split <;> rfl
/-- the one that is the same in all -/
def xs_U (S : Nat) (E : Nat → Prop) (r : Option Nat) : Prop := ∀ s, r = some s ↔ (s < S ∧ E s ∧ ∀ i, i < S → E i → i = s)
theorem xe_sureBed {σ : xr_S} {t : xa_T} {a : xa_A} {l : Nat} (hT : xi_T t) (hA : xi_A t a) (hc : xi_Tc σ t) (hC : xi_C σ 15 a) (hl : l < tL t) (hq : (qT a l).isNone = false) : ∃ r τ, xf_X3_sureBed σ (nI l) = some (oI r, τ) ∧ xs_U (tS t) (fun s => 0 < xs_wz t a (some l) (some s) (tL t) 0) r ∧ ∀ c, c ≠ 42 → τ.1 c = σ.1 c := by
  obtain ⟨n1, n2, n3, n4, n5, n6, n7⟩ := id hT
  have hbo := xi_bounds hT hA
  have e0 := xe_isFresh (hC.2.2.1 l (by omega)) (hbo.2.1 l) (show l < 7 by omega)
  rw [hq] at e0
  unfold xf_X3_sureBed
  rw [e0, Option.bind_some, if_pos (show bI false = 0 from rfl)]
  obtain ⟨E, hE⟩ : ∃ E : Nat → Prop, E = fun s => 0 < xs_wz t a (some l) (some s) (tL t) 0 := ⟨_, rfl⟩
  rw [← hE]
  refine xp_inv (Q := fun o => ∃ (r : Option Nat) (τ : xr_S), o = some (oI r, τ) ∧ xs_U (tS t) E r ∧ ∀ c, c ≠ 42 → τ.1 c = σ.1 c) (fun j x => ∃ (r : Option Nat) (τ : xr_S), x = (oI r, nI j, τ) ∧ (r = none → ∀ i, i < j → ¬ E i) ∧ (∀ s, r = some s → s < j ∧ E s ∧ ∀ i, i < j → E i → i = s) ∧ ∀ c, c ≠ 42 → τ.1 c = σ.1 c) (tS t) (fun j x hj hI => ?_) (fun x hI => ?_) 0 _ (by omega) ⟨none, σ, rfl, fun _ _ h => by omega, fun s hs => (by cases hs), fun _ _ => rfl⟩
  · obtain ⟨r, τ, rfl, q1, q2, q3⟩ := hI
    obtain ⟨τ1, u1, u2⟩ := xe_ways (σ := τ) (hl := some l) (ho := some j) hT hA (xi_Tc_fr hc (fun c h => q3 c (by omega))) (xi_C_fr hC (q3 _ (by decide)) (q3 _ (by decide)) (q3 _ (by decide)) (q3 _ (by decide))) (fun n hn => by cases hn; omega) (fun n hn => by cases hn; omega)
    have hle := xs_wy_le (al := xs_ah (xs_al t a) (some l) (some j)) (fr := xs_fr a) (L := tL t) n3 (tL t) 0
    have hp : 6 ^ tL t ≤ 6 ^ 7 := Nat.pow_le_pow_right (by decide) n4
    have hwb : xs_wz t a (some l) (some j) (tL t) 0 < 2 ^ 31 := Nat.lt_of_le_of_lt (Nat.le_trans hle hp) (by decide)
    have f1 : ∀ c, c ≠ 42 → τ1.1 c = σ.1 c := fun c h => by rw [u2 c h, q3 c h]
    have e92 : τ.1 9 2 = nI (tS t) := by rw [q3 9 (by decide)]; exact hc.2.2.1
    rw [xp_oIs, xp_oIs] at u1
    by_cases hEj : E j
    · have hEj' : 0 < xs_wz t a (some l) (some j) (tL t) 0 := by rw [hE] at hEj; exact hEj
      cases r with
      | none =>
        right
        refine ⟨(oI (some j), nI (j + 1), τ1), ⟨some j, τ1, rfl, fun h => (by cases h), fun s hs => ?_, f1⟩, fun rec => ?_⟩
        · cases hs
          refine ⟨by omega, hEj, fun i hi hEi => ?_⟩
          by_cases hij : i = j
          · exact hij
          · exact absurd hEi (q1 rfl i (by omega))
        · unfold xf_X3_sureBed_L16
          dsimp only
          rw [e92, if_neg (nI_ge hj (by omega)), u1, Option.bind_some, xp_jn, if_neg (nI_nle hEj' hwb), if_pos (show oI none = -1 from rfl), nI_1]
          rfl
      | some s =>
        left
        obtain ⟨g1, g2, g3⟩ := q2 s rfl
        refine ⟨some (-1, τ1), fun rec => ?_, none, τ1, rfl, fun s' => ⟨fun h => (by cases h), fun h => ?_⟩, f1⟩
        · unfold xf_X3_sureBed_L16
          dsimp only
          rw [e92, if_neg (nI_ge hj (by omega)), u1, Option.bind_some, xp_jn, if_neg (nI_nle hEj' hwb), xp_oIs, if_neg (xp_m1 s (by omega))]
        · have a1 := h.2.2 s (by omega) g2
          have a2 := h.2.2 j hj hEj
          omega
    · right
      have hEj' : ¬ 0 < xs_wz t a (some l) (some j) (tL t) 0 := by rw [hE] at hEj; exact hEj
      refine ⟨(oI r, nI (j + 1), τ1), ⟨r, τ1, rfl, fun h i hi => ?_, fun s hs => ?_, f1⟩, fun rec => ?_⟩
      · by_cases hij : i = j
        · rw [hij]; exact hEj
        · exact q1 h i (by omega)
      · obtain ⟨g1, g2, g3⟩ := q2 s hs
        refine ⟨by omega, g2, fun i hi hEi => ?_⟩
        by_cases hij : i = j
        · rw [hij] at hEi; exact absurd hEi hEj
        · exact g3 i (by omega) hEi
      · unfold xf_X3_sureBed_L16
        dsimp only
        rw [e92, if_neg (nI_ge hj (by omega)), u1, Option.bind_some, xp_jn, if_pos (show nI (xs_wz t a (some l) (some j) (tL t) 0) ≤ 0 from nI_le (b := 0) (by omega) (by omega)), nI_1]
  · obtain ⟨r, τ, rfl, q1, q2, q3⟩ := hI
    have e92 : τ.1 9 2 = nI (tS t) := by rw [q3 9 (by decide)]; exact hc.2.2.1
    refine ⟨some (oI r, τ), fun rec => ?_, r, τ, rfl, fun s => ⟨fun h => q2 s h, fun h => ?_⟩, q3⟩
    · unfold xf_X3_sureBed_L16
      dsimp only
      rw [e92, if_pos (nI_le (Nat.le_refl _) (by omega))]
    · cases hr : r with
      | none => exact absurd h.2.1 (q1 hr s h.1)
      | some s' =>
        obtain ⟨g1, g2, g3⟩ := q2 s' hr
        rw [g3 s h.1 h.2.1]
