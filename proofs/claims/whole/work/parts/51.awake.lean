/-! who must be woken -/
theorem xp_forE {S β γ : Type} {body : (γ → Option β) → S → (S → Option β) → Option β} {out : S → γ} (P : Nat → S → Prop) (Q : Option β → Prop) (n : Nat) (hs : ∀ j s, j < n → P j s → (∃ v, Q v ∧ ∀ K rec, body K s rec = v) ∨ ∃ s', P (j + 1) s' ∧ ∀ K rec, body K s rec = rec s') (he : ∀ s, P n s → ∀ K rec, body K s rec = K (out s)) : ∀ (d k : Nat), k + d = n → ∀ s, P k s → (∃ v, Q v ∧ ∀ K, xr_lw (body K) s = v) ∨ ∃ s', P n s' ∧ ∀ K, xr_lw (body K) s = K (out s') := by
  intro d
  induction d with
  | zero =>
    intro k hk s h0
    have hk' : k = n := by omega
    subst hk'
    refine Or.inr ⟨s, h0, fun K => ?_⟩
    refine xr_lw_eq 1 (fun m hm => ?_)
    obtain ⟨m, rfl⟩ : ∃ i, m = i + 1 := ⟨m - 1, by omega⟩
    exact he s h0 K _
  | succ d ih =>
    intro k hk s h0
    rcases hs k s (by omega) h0 with ⟨v, h1, h2⟩ | ⟨s1, h1, h2⟩
    · refine Or.inl ⟨v, h1, fun K => ?_⟩
      refine xr_lw_eq 1 (fun m hm => ?_)
      obtain ⟨m, rfl⟩ : ∃ i, m = i + 1 := ⟨m - 1, by omega⟩
      exact h2 K _
    · rcases ih (k + 1) (by omega) s1 h1 with ⟨v, h3, h4⟩ | ⟨s', h3, h4⟩
      · exact Or.inl ⟨v, h3, fun K => by rw [xp_open (h2 K)]; exact h4 K⟩
      · exact Or.inr ⟨s', h3, fun K => by rw [xp_open (h2 K)]; exact h4 K⟩
def xs_ones (set : Nat) : Nat := xs_sum (fun k => if set.testBit k then 1 else 0) 7
theorem xe_bitCount (σ : xr_S) {s : Nat} (hs : s < 64) : xf_J6_bitCount_0f7a4 σ (nI s) = some (nI (xs_ones s)) := by
  unfold xf_J6_bitCount_0f7a4
  simp only [xp_v]
  revert hs
  revert s
  decide +kernel
theorem bI_n (b : Bool) : bI b = nI (if b then 1 else 0) := by cases b <;> rfl
theorem xe_ones (σ : xr_S) {s : Nat} (hs : s < 2 ^ 31) : xf_X11_ones σ (nI s) = some (nI (xs_ones s)) := by
  unfold xf_X11_ones
  refine xp_iter (fun k => (nI (xs_sum (fun k => if s.testBit k then 1 else 0) k), nI k)) 0 7 rfl (fun j h1 h2 rec => ?_) (fun rec => ?_)
  · have hb : ((nI s >>> (nI j &&& 31)) &&& 1) = bI (s.testBit j) := xp_bitb hs (by omega)
    unfold xf_X11_ones_L4
    dsimp only
    rw [if_neg (show ¬ (7 : Int32) ≤ nI j from nI_ge (b := 7) (by omega) (by omega)), hb, xp_v, bI_n, nI_add, nI_1]
    rfl
  · unfold xf_X11_ones_L4
    dsimp only
    rw [if_pos (show (7 : Int32) ≤ nI (0 + 7) by decide)]
    rfl
theorem xs_sum_mono2 {f g : Nat → Nat} (h : ∀ k, f k ≤ g k) : ∀ n, xs_sum f n ≤ xs_sum g n := by
  intro n
  induction n with
  | zero => exact Nat.le_refl _
  | succ n ih => simp only [xs_sum]; have := h n; omega
theorem xs_ones_and (a b : Nat) : xs_ones (a &&& b) ≤ xs_ones a := by
  refine xs_sum_mono2 (fun k => ?_) 7
  rw [Nat.testBit_and]
  cases a.testBit k <;> cases b.testBit k <;> decide
theorem xs_ones_le (a : Nat) : xs_ones a ≤ 7 := by
  have := xs_sum_le (g := fun k => if a.testBit k then 1 else 0) (b := 1) (fun k => by split <;> omega) 7
  exact this
/-- the fewest, of like ones the least -/
def xs_best (N : Nat) (P : Nat → Bool) (o : Option Nat) : Prop := (o = none → ∀ set, set < N → P set = false) ∧ ∀ b, o = some b → b < N ∧ P b = true ∧ ∀ set, set < N → P set = true → xs_ones b < xs_ones set ∨ (xs_ones b = xs_ones set ∧ b ≤ set)
theorem xs_best_unique {N : Nat} {P : Nat → Bool} {o o' : Option Nat} (h : xs_best N P o) (h' : xs_best N P o') : o = o' := by
  cases o with
  | none =>
    cases o' with
    | none => rfl
    | some b =>
      obtain ⟨h1, h2, -⟩ := h'.2 b rfl
      rw [h.1 rfl b h1] at h2; cases h2
  | some c =>
    obtain ⟨g1, g2, g3⟩ := h.2 c rfl
    cases o' with
    | none => rw [h'.1 rfl c g1] at g2; cases g2
    | some b =>
      obtain ⟨h1, h2, h3⟩ := h'.2 b rfl
      have a1 := g3 b h1 h2
      have a2 := h3 c g1 g2
      have : c = b := by omega
      rw [this]
theorem xs_best_other {N : Nat} {P Q : Nat → Bool} {o : Option Nat} (h : xs_best N P o) (hPQ : ∀ b, P b = true → Q b = true) (hQP : ∀ set, Q set = true → ∃ s', s' ≤ set ∧ xs_ones s' ≤ xs_ones set ∧ P s' = true) : xs_best N Q o := by
  refine ⟨fun ho set hs => ?_, fun b hb => ?_⟩
  · cases hq : Q set with
    | false => rfl
    | true =>
      obtain ⟨s', h1, h2, h3⟩ := hQP set hq
      rw [h.1 ho s' (by omega)] at h3; cases h3
  · obtain ⟨g1, g2, g3⟩ := h.2 b hb
    refine ⟨g1, hPQ b g2, fun set hs hq => ?_⟩
    obtain ⟨s', h1, h2, h3⟩ := hQP set hq
    have := g3 s' (by omega) h3
    omega
def xs_calm (t : xa_T) (w : Nat → Nat → Nat) : Bool := (xs_find (fun s => decide (xs_top (w s) 4 = tM t)) (tS t)).isNone
theorem xe_staysCalm {σ : xr_S} {t : xa_T} {w : Nat → Nat → Nat} {bed : Nat → Option Nat} {out n : Nat} (hT : xi_T t) (hc : xi_Tc σ t) (hW : xq_W σ 17 w) (hok : xs_wok t w) (hbd : ∀ l, l < tL t → σ.1 32 l = oI (bed l)) (hb : ∀ l s, bed l = some s → s < tS t) (ho : out < 2 ^ 31) (hn : n < 1000) : ∃ τ, xf_X10_staysCalm σ (nI n) (nI out) = some (bI (xs_calm t (xs_rw t bed out w n)), τ) ∧ ∀ c, c ≠ 37 → c ≠ 38 → τ.1 c = σ.1 c := by
  obtain ⟨n1, n2, n3, n4, n5, n6, n7⟩ := id hT
  obtain ⟨τ, p1, p2, p3⟩ := xe_run hT hc hW hok hbd hb ho hn
  refine ⟨τ, ?_, p3⟩
  have e2 : τ.1 9 2 = nI (tS t) := by rw [p3 9 (by decide) (by decide)]; exact hc.2.2.1
  have e4 : τ.1 9 4 = nI (tM t) := by rw [p3 9 (by decide) (by decide)]; exact hc.2.2.2.2.1
  obtain ⟨u, hu⟩ : ∃ u, u = xs_rw t bed out w n := ⟨_, rfl⟩
  rw [← hu] at p2 ⊢
  unfold xf_X10_staysCalm
  rw [p1, Option.bind_some]
  refine xp_inv (Q := fun o => o = some (bI (xs_calm t u), τ)) (fun j x => x = nI j ∧ xs_find (fun s => decide (xs_top (u s) 4 = tM t)) j = none) (tS t) (fun j x hj hI => ?_) (fun x hI => ?_) 0 _ (by omega) ⟨rfl, rfl⟩
  · obtain ⟨rfl, hnn⟩ := hI
    have e1 := xe_top (σ := τ) (c := 36) p2 (show j < 6 by omega)
    have htl := xs_top_le (u j) 4
    by_cases hq : xs_top (u j) 4 = tM t
    · left
      have hr : xs_find (fun s => decide (xs_top (u s) 4 = tM t)) (tS t) = some j := xs_find_some.mpr ⟨hj, by simpa using hq, fun i hi => xs_find_none.mp hnn i hi⟩
      refine ⟨some (0, τ), fun rec => ?_, by unfold xs_calm; rw [hr]; rfl⟩
      unfold xf_X10_staysCalm_L24
      dsimp only
      rw [e2, if_neg (nI_ge hj (by omega)), e1, Option.bind_some, e4, if_pos (by rw [hq])]
    · right
      refine ⟨nI (j + 1), ⟨rfl, by simp [xs_find, hnn, hq]⟩, fun rec => ?_⟩
      unfold xf_X10_staysCalm_L24
      dsimp only
      rw [e2, if_neg (nI_ge hj (by omega)), e1, Option.bind_some, e4, if_neg (by rw [xp_eq (by omega) (by omega)]; exact hq), nI_1]
  · obtain ⟨rfl, hnn⟩ := hI
    refine ⟨some (1, τ), fun rec => ?_, by unfold xs_calm; rw [hnn]; rfl⟩
    unfold xf_X10_staysCalm_L24
    dsimp only
    rw [e2, if_pos (nI_le (Nat.le_refl _) (by omega))]
theorem xe_isCalm {σ : xr_S} {t : xa_T} {u : Nat → Nat → Nat} (hT : xi_T t) (hm : xi_Tm σ t) (hV : xq_V σ 55 u) (hok : xs_wok t u) : xf_X11_isCalm σ = some (bI (xs_calm t u)) := by
  obtain ⟨n1, n2, n3, n4, n5, n6, n7⟩ := id hT
  unfold xf_X11_isCalm
  refine xp_iter (fun k => (bI (xs_find (fun s => decide (xs_top (u s) 4 = tM t)) k).isNone, nI k)) 0 (tS t) rfl (fun j h1 h2 rec => ?_) (fun rec => ?_)
  · have e1 := xe_likeV hT hm hV hok (show j < tS t by omega)
    have htl := xs_top_le (u j) 4
    unfold xf_X11_isCalm_L4
    dsimp only
    rw [hm.2.2.1, if_neg (nI_ge (by omega) (by omega)), hm.2.2.2.2.1, e1]
    simp only [xp_jn, xs_find, Option.bind_some]
    cases hf : xs_find (fun s => decide (xs_top (u s) 4 = tM t)) j with
    | some k => rw [if_pos (show bI (some k).isNone = 0 from rfl), nI_1]; rfl
    | none =>
      rw [if_neg (show ¬ bI (none : Option Nat).isNone = 0 by decide), nI_1]
      by_cases hq : xs_top (u j) 4 = tM t
      · rw [if_pos (by rw [hq])]; simp [hq]; rfl
      · rw [if_neg (by rw [xp_eq (by omega) (by omega)]; exact hq)]; simp [hq]; rfl
  · unfold xf_X11_isCalm_L4
    dsimp only
    rw [Nat.zero_add, hm.2.2.1, if_pos (nI_le (Nat.le_refl _) (by omega)), xp_zb]
    rfl
/-- the class's search -/
def xs_p1 (t : xa_T) (bed : Nat → Option Nat) (w : Nat → Nat → Nat) (used n set : Nat) : Bool := decide (xs_dif set used = 0) && xs_calm t (xs_rw t bed set w n)
def xs_p2 (t : xa_T) (bed : Nat → Option Nat) (w : Nat → Nat → Nat) (aw n set : Nat) : Bool := decide (set &&& aw = 0) && xs_calm t (xs_rw t bed set w n)
theorem xe_fewWoken {σ : xr_S} {t : xa_T} {w : Nat → Nat → Nat} {bed : Nat → Option Nat} {used n : Nat} (hT : xi_T t) (hc : xi_Tc σ t) (hW : xq_W σ 17 w) (hok : xs_wok t w) (hbd : ∀ l, l < tL t → σ.1 32 l = oI (bed l)) (hb : ∀ l s, bed l = some s → s < tS t) (hu : σ.1 31 1 = nI used) (hu2 : used < 64) (hn : n < 1000) : ∃ r τ, xr_lw (xf_X10_fewestWoken_L27 (nI (2 ^ tS t)) (nI n) (fun (e5 : xr_S) => some ((-1), e5))) (0, σ) = some (oI r, τ) ∧ xs_best (2 ^ tS t) (xs_p1 t bed w used n) r ∧ ∀ c, c ≠ 37 → c ≠ 38 → τ.1 c = σ.1 c := by
  obtain ⟨n1, n2, n3, n4, n5, n6, n7⟩ := id hT
  have hp := xs_pow64 n3
  refine xp_inv (Q := fun o => ∃ (r : Option Nat) (τ : xr_S), o = some (oI r, τ) ∧ xs_best (2 ^ tS t) (xs_p1 t bed w used n) r ∧ ∀ c, c ≠ 37 → c ≠ 38 → τ.1 c = σ.1 c) (fun j x => ∃ τ : xr_S, x = (nI j, τ) ∧ (∀ set, set < 2 ^ tS t → xs_p1 t bed w used n set = true → j ≤ xs_ones set) ∧ ∀ c, c ≠ 37 → c ≠ 38 → τ.1 c = σ.1 c) (tS t + 1) (fun j x hj hI => ?_) (fun x hI => ?_) 0 _ (by omega) ⟨σ, rfl, fun _ _ _ => by omega, fun _ _ _ => rfl⟩
  · obtain ⟨τ, rfl, hall, hf⟩ := hI
    have inner := xp_forE (body := xf_X10_fewestWoken_L41 (nI (2 ^ tS t)) (nI n) (nI j, τ)) (out := fun s => s.2) (fun i s => ∃ ρ : xr_S, s = (nI i, ρ) ∧ (∀ set, set < i → xs_p1 t bed w used n set = true → j + 1 ≤ xs_ones set) ∧ ∀ c, c ≠ 37 → c ≠ 38 → ρ.1 c = σ.1 c) (fun o => ∃ (r : Option Nat) (τ : xr_S), o = some (oI r, τ) ∧ xs_best (2 ^ tS t) (xs_p1 t bed w used n) r ∧ ∀ c, c ≠ 37 → c ≠ 38 → τ.1 c = σ.1 c) (2 ^ tS t) (fun i s hi hP => by
        obtain ⟨ρ, rfl, q1, q2⟩ := hP
        have e1 := xe_bitCount ρ (show i < 64 by omega)
        have hones := xs_ones_le i
        obtain ⟨ρ1, c1, c2⟩ := xe_staysCalm (σ := ρ) (out := i) (n := n) hT (xi_Tc_fr hc (fun c h => q2 c (by omega) (by omega))) (xq_W_fr hW (q2 17 (by decide) (by decide))) hok (fun l hl => by rw [q2 32 (by decide) (by decide)]; exact hbd l hl) hb (by omega) hn
        have hdl := xs_dif_lt (b := used) (n := 6) (show i < 2 ^ 6 by omega)
        have e3 : nI i &&& (ρ.1 31 1 ^^^ (-1)) = nI (xs_dif i used) := by rw [q2 31 (by decide) (by decide), hu, xp_dif]
        have f1 : ∀ c, c ≠ 37 → c ≠ 38 → ρ1.1 c = σ.1 c := fun c h1 h2 => by rw [c2 c h1 h2, q2 c h1 h2]
        by_cases h1 : xs_ones i = j
        · by_cases h2 : xs_dif i used = 0
          · cases h3 : xs_calm t (xs_rw t bed i w n) with
            | true =>
              left
              have hp1 : xs_p1 t bed w used n i = true := by unfold xs_p1; rw [h3]; simp [h2]
              refine ⟨some (nI i, ρ1), ⟨some i, ρ1, rfl, ⟨fun h => (by cases h), fun b hb => ?_⟩, f1⟩, fun K rec => ?_⟩
              · cases hb
                refine ⟨hi, hp1, fun set hs hp => ?_⟩
                have a1 := hall set hs hp
                by_cases hsi : set < i
                · have := q1 set hsi hp; omega
                · omega
              · unfold xf_X10_fewestWoken_L41
                dsimp only
                rw [if_neg (nI_ge hi (by omega)), e1, Option.bind_some]
                simp only [xp_jn]
                rw [if_pos (by rw [h1]), e3, if_pos (by rw [h2]; rfl), if_neg (by decide), c1, Option.bind_some, h3, if_neg (show ¬ bI true = 0 by decide)]
            | false =>
              right
              have hp1 : xs_p1 t bed w used n i = false := by unfold xs_p1; rw [h3]; simp
              refine ⟨(nI (i + 1), ρ1), ⟨ρ1, rfl, fun set hs hp => ?_, f1⟩, fun K rec => ?_⟩
              · by_cases hsi : set = i
                · subst hsi; rw [hp1] at hp; cases hp
                · exact q1 set (by omega) hp
              · unfold xf_X10_fewestWoken_L41
                dsimp only
                rw [if_neg (nI_ge hi (by omega)), e1, Option.bind_some]
                simp only [xp_jn]
                rw [if_pos (by rw [h1]), e3, if_pos (by rw [h2]; rfl), if_neg (by decide), c1, Option.bind_some, h3, if_pos (show bI false = 0 from rfl), nI_1]
          · right
            have hp1 : xs_p1 t bed w used n i = false := by unfold xs_p1; simp [h2]
            refine ⟨(nI (i + 1), ρ), ⟨ρ, rfl, fun set hs hp => ?_, q2⟩, fun K rec => ?_⟩
            · by_cases hsi : set = i
              · subst hsi; rw [hp1] at hp; cases hp
              · exact q1 set (by omega) hp
            · unfold xf_X10_fewestWoken_L41
              dsimp only
              rw [if_neg (nI_ge hi (by omega)), e1, Option.bind_some]
              simp only [xp_jn]
              rw [if_pos (by rw [h1]), e3, if_neg (by rw [xl_0, xp_eq (by omega) (by omega)]; exact h2), if_pos trivial, nI_1]
        · right
          refine ⟨(nI (i + 1), ρ), ⟨ρ, rfl, fun set hs hp => ?_, q2⟩, fun K rec => ?_⟩
          · by_cases hsi : set = i
            · subst hsi; have := hall set hi hp; omega
            · exact q1 set (by omega) hp
          · unfold xf_X10_fewestWoken_L41
            dsimp only
            rw [if_neg (nI_ge hi (by omega)), e1, Option.bind_some]
            simp only [xp_jn]
            rw [if_neg (by rw [xp_eq (by omega) (by omega)]; exact h1), if_pos trivial, nI_1]) (fun s hP K rec => by
        obtain ⟨ρ, rfl, q1, q2⟩ := hP
        unfold xf_X10_fewestWoken_L41
        dsimp only
        rw [if_pos (nI_le (Nat.le_refl _) (by omega))]) (2 ^ tS t) 0 (by omega) (0, τ) ⟨τ, rfl, fun _ h => by omega, hf⟩
    have hb : ∀ rec, xf_X10_fewestWoken_L27 (nI (2 ^ tS t)) (nI n) (fun (e5 : xr_S) => some ((-1), e5)) (nI j, τ) rec = xr_lw (xf_X10_fewestWoken_L41 (nI (2 ^ tS t)) (nI n) (nI j, τ) (fun (e9 : xr_S) => rec ((nI j + 1), e9))) (0, τ) := by
      intro rec
      have e2 : τ.1 9 2 = nI (tS t) := by rw [hf 9 (by decide) (by decide)]; exact hc.2.2.1
      unfold xf_X10_fewestWoken_L27
      dsimp only
      rw [e2, if_neg (nI_nlt (by omega) (by omega))]
    rcases inner with ⟨v, h1, h2⟩ | ⟨s', ⟨ρ, rfl, h1, h2⟩, h3⟩
    · left
      exact ⟨v, fun rec => by rw [hb, h2], h1⟩
    · right
      exact ⟨(nI (j + 1), ρ), ⟨ρ, rfl, h1, h2⟩, fun rec => by rw [hb, h3, nI_1]⟩
  · obtain ⟨τ, rfl, hall, hf⟩ := hI
    refine ⟨some (-1, τ), fun rec => ?_, none, τ, rfl, ⟨fun _ set hs => ?_, fun b hb => (by cases hb)⟩, hf⟩
    · have e2 : τ.1 9 2 = nI (tS t) := by rw [hf 9 (by decide) (by decide)]; exact hc.2.2.1
      unfold xf_X10_fewestWoken_L27
      dsimp only
      rw [e2, if_pos (nI_lt (by omega) (by omega))]
    · cases hq : xs_p1 t bed w used n set with
      | false => rfl
      | true =>
        have := hall set hs hq
        have hle : xs_ones set ≤ tS t := by
          have h0 : xs_ones set = xs_sum (fun k => if set.testBit k then 1 else 0) (tS t) := xs_sum_cut (n := tS t) (fun k hk => by rw [xs_bit_lt hs hk]; rfl) 7 (by omega)
          rw [h0]
          have := xs_sum_le (g := fun k => if set.testBit k then 1 else 0) (b := 1) (fun k => by split <;> omega) (tS t)
          omega
        omega
