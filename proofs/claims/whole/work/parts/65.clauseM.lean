/-! the text, read by the reference -/
def mX (σ : xr_S) (n : Nat) (tx : Nat → Nat) : Prop := n ≤ 240 ∧ (∀ k, k < n → tx k ≤ 255) ∧ σ.1 49 11 = nI n ∧ ∀ k, k < n → σ.1 55 k = nI (tx k)
def mF (σ τ : xr_S) : Prop := (∀ c, c ≠ 49 → τ.1 c = σ.1 c) ∧ ∀ k, (k < 12 ∨ 16 < k) → τ.1 49 k = σ.1 49 k
theorem mF_rf (σ : xr_S) : mF σ σ := ⟨fun _ _ => rfl, fun _ _ => rfl⟩
theorem mF_tr {σ τ ρ : xr_S} (h : mF σ τ) (g : mF τ ρ) : mF σ ρ := ⟨fun c hc => by rw [g.1 c hc, h.1 c hc], fun k a => by rw [g.2 k a, h.2 k a]⟩
theorem mF_up {σ : xr_S} {k : Nat} {v : Int32} (h : 12 ≤ k) (h2 : k ≤ 16) : mF σ (xr_up σ 49 k v) := ⟨fun c hc => by rw [xp_other hc], fun j a => by rw [xp_same, xp_un (by omega)]⟩
theorem mX_F {σ τ : xr_S} {n : Nat} {tx : Nat → Nat} (h : mX σ n tx) (g : mF σ τ) : mX τ n tx := ⟨h.1, h.2.1, by rw [g.2 11 (by omega)]; exact h.2.2.1, fun k hk => by rw [g.1 55 (by decide)]; exact h.2.2.2 k hk⟩
theorem mX_up {σ : xr_S} {n : Nat} {tx : Nat → Nat} {c k : Nat} {v : Int32} (h : mX σ n tx) (h1 : c ≠ 49 ∨ k ≠ 11) (h2 : c ≠ 55) : mX (xr_up σ c k v) n tx := by
  refine ⟨h.1, h.2.1, ?_, fun j hj => by rw [xp_other (Ne.symm h2)]; exact h.2.2.2 j hj⟩
  by_cases hc : c = 49
  · subst hc
    rw [xp_same, xp_un (by omega)]; exact h.2.2.1
  · rw [xp_other (Ne.symm hc)]; exact h.2.2.1
def xs_let (n : Nat) (tx : Nat → Nat) (k : Nat) : Int32 := if k < n then nI (tx k) else -1
theorem xe_letter {σ : xr_S} {n k : Nat} {tx : Nat → Nat} (hX : mX σ n tx) (hk : k ≤ 1000) : xf_X11_letterAt σ (nI k) = some (xs_let n tx k) := by
  have hn := hX.1
  unfold xf_X11_letterAt xs_let
  rw [hX.2.2.1]
  by_cases h : k < n
  · rw [if_neg (nI_ge h (by omega)), xp_ld (by omega) (by omega), hX.2.2.2 k h, if_pos h]
  · rw [if_pos (nI_le (by omega) (by omega)), if_neg h]
theorem xs_let_eq {n k c : Nat} {tx : Nat → Nat} (htx : ∀ k, k < n → tx k ≤ 255) (hc : c < 1000) : (xs_let n tx k = nI c) = (k < n ∧ tx k = c) := by
  unfold xs_let
  by_cases h : k < n
  · have := htx k h
    rw [if_pos h, xp_eq (by omega) (by omega)]
    exact propext ⟨fun e => ⟨h, e⟩, fun e => e.2⟩
  · rw [if_neg h]
    exact propext ⟨fun e => absurd e.symm (xp_m1 c (by omega)), fun e => absurd e.1 h⟩
theorem xs_let_m1 {n k : Nat} {tx : Nat → Nat} (htx : ∀ k, k < n → tx k ≤ 255) : (xs_let n tx k = -1) = ¬ k < n := by
  unfold xs_let
  by_cases h : k < n
  · have := htx k h
    rw [if_pos h]
    exact propext ⟨fun e => absurd e (xp_m1 _ (by omega)), fun e => absurd h e⟩
  · rw [if_neg h]
    exact propext ⟨fun _ => h, fun _ => rfl⟩
theorem xs_let_fig {n k : Nat} {tx : Nat → Nat} (htx : ∀ k, k < n → tx k ≤ 255) (σ : xr_S) : xf_X11_in σ (Int32.toInt64 (xs_let n tx k)) 48 57 = some (bI (xs_fgb n tx k)) := by
  have := xe_inI σ (xs_let n tx k) 48 57
  rw [show (48 : Int32).toInt64 = 48 by decide, show (57 : Int32).toInt64 = 57 by decide] at this
  rw [this]
  congr 2
  unfold xs_let xs_fgb
  by_cases h : k < n
  · have h2 := htx k h
    rw [if_pos h, decide_eq_true h, Bool.true_and]
    have e1 : ((48 : Int32) ≤ nI (tx k)) = (48 ≤ tx k) := xp_le (a := 48) (by decide) (by omega)
    have e2 : (nI (tx k) ≤ (57 : Int32)) = (tx k ≤ 57) := xp_le (b := 57) (by omega) (by decide)
    simp only [e1, e2]
    rw [Bool.decide_and]
  · rw [if_neg h, decide_eq_false h, Bool.false_and]
    decide
theorem xe_here {σ : xr_S} {n p : Nat} {tx : Nat → Nat} (hX : mX σ n tx) (hp : σ.1 49 12 = nI p) (hp2 : p ≤ n) : ∃ τ, xf_X11_here σ = some (xs_let n tx (xs_sk n tx p), τ) ∧ mF σ τ ∧ τ.1 49 12 = nI (xs_sk n tx p) ∧ τ.1 49 13 = nI (xs_sk n tx p) ∧ ∀ k, 14 ≤ k → τ.1 49 k = σ.1 49 k := by
  obtain ⟨x1, x2, x3, x4⟩ := id hX
  unfold xf_X11_here
  refine xp_meas (Q := fun o => ∃ τ : xr_S, o = some (xs_let n tx (xs_sk n tx p), τ) ∧ mF σ τ ∧ τ.1 49 12 = nI (xs_sk n tx p) ∧ τ.1 49 13 = nI (xs_sk n tx p) ∧ ∀ k, 14 ≤ k → τ.1 49 k = σ.1 49 k) (fun τ => ∃ q, q ≤ n ∧ τ.1 49 12 = nI q ∧ xs_sk n tx q = xs_sk n tx p ∧ mF σ τ ∧ ∀ k, 14 ≤ k → τ.1 49 k = σ.1 49 k) (fun τ => 1000 - (τ.1 49 12).toNatClampNeg) (fun τ hI => ?_) σ ⟨p, hp2, hp, rfl, mF_rf σ, fun _ _ => rfl⟩
  obtain ⟨q, hq, h4, hsk, hF, hk⟩ := hI
  have hX1 := mX_F hX hF
  have e1 := xe_letter (k := q) hX1 (by omega)
  by_cases hb : q < n ∧ tx q = 32
  · right
    refine ⟨xr_up τ 49 12 (nI (q + 1)), ⟨q + 1, by omega, by rw [xp_same, xp_us], by rw [← hsk, xs_sk_yes hb.1 hb.2], mF_tr hF (mF_up (by omega) (by omega)), fun k h => by rw [xp_same, xp_un (by omega), hk k h]⟩, ?_, fun rec => ?_⟩
    · rw [xp_same, xp_us, h4, nI_clamp (by omega), nI_clamp (by omega)]; omega
    · unfold xf_X11_here_L0
      rw [h4, e1, Option.bind_some, if_pos (by rw [xl_32, xs_let_eq x2 (by decide)]; exact hb), xp_pf, nI_1]
  · left
    have hqs : xs_sk n tx p = q := by rw [← hsk, xs_sk_no hb]
    rw [hqs]
    refine ⟨some (xs_let n tx q, xr_up τ 49 13 (nI q)), fun rec => ?_, xr_up τ 49 13 (nI q), rfl, mF_tr hF (mF_up (by omega) (by omega)), by rw [xp_same, xp_un (by decide)]; exact h4, by rw [xp_same, xp_us], fun k h => by rw [xp_same, xp_un (by omega), hk k h]⟩
    unfold xf_X11_here_L0
    rw [h4, e1, Option.bind_some, if_neg (by rw [xl_32, xs_let_eq x2 (by decide)]; exact hb)]
    dsimp only
    rw [h4, xp_pf]
    have e2 := xe_letter (σ := xr_up τ 49 13 (nI q)) (k := q) (mX_up hX1 (Or.inr (by decide)) (by decide)) (by omega)
    rw [xp_same, xp_un (by decide), h4, e2]
    rfl
/-- what comes of it -/
def mR {α : Type} (σ τ : xr_S) (b : Int32) (r : Except (Nat × Nat) α) (ok : α → Prop) : Prop := mF σ τ ∧ match r with
  | .ok x => b = 1 ∧ ok x ∧ τ.1 49 15 = σ.1 49 15 ∧ τ.1 49 16 = σ.1 49 16
  | .error e => b = 0 ∧ τ.1 49 15 = nI e.1 ∧ τ.1 49 16 = nI e.2
theorem xe_failsM {σ : xr_S} {k p : Nat} : xf_X11_fails σ (nI k) (nI p) = some (0, xr_up (xr_up σ 49 15 (nI k)) 49 16 (nI p)) := by
  unfold xf_X11_fails
  rw [xp_pf, xp_pf]
theorem mR_fail {α : Type} {σ τ : xr_S} {k p : Nat} {ok : α → Prop} (h : mF σ τ) : mR σ (xr_up (xr_up τ 49 15 (nI k)) 49 16 (nI p)) 0 (.error (k, p)) ok := by
  refine ⟨mF_tr h (mF_tr (mF_up (by omega) (by omega)) (mF_up (by omega) (by omega))), rfl, ?_, ?_⟩
  · rw [xp_same, xp_un (by decide), xp_same, xp_us]
  · rw [xp_same, xp_us]
theorem xe_takes {σ : xr_S} {n p c : Nat} {tx : Nat → Nat} (hX : mX σ n tx) (hp : σ.1 49 12 = nI p) (hp2 : p ≤ n) (hc : c < 1000) : ∃ b τ, xf_X11_takes σ (nI c) = some (b, τ) ∧ mR σ τ b (xs_sgn n tx p c) (fun e => τ.1 49 12 = nI e) := by
  obtain ⟨τ0, z1, z2, z3, z4, z5⟩ := xe_here hX hp hp2
  have hx2 := hX.2.1
  unfold xf_X11_takes
  rw [z1, Option.bind_some]
  dsimp only
  unfold xs_sgn
  by_cases hq : xs_sk n tx p < n ∧ tx (xs_sk n tx p) = c
  · refine ⟨1, xr_up τ0 49 12 (nI (xs_sk n tx p + 1)), ?_, mF_tr z2 (mF_up (by omega) (by omega)), ?_⟩
    · rw [if_pos (by rw [xs_let_eq hx2 hc]; exact hq), xp_pf, z3, nI_1]
    · rw [if_pos hq]
      exact ⟨rfl, by rw [xp_same, xp_us], by rw [xp_same, xp_un (by decide), z5 15 (by decide)], by rw [xp_same, xp_un (by decide), z5 16 (by decide)]⟩
  · have e1 : xf_X11_fails τ0 1 (nI (xs_sk n tx p)) = some (0, xr_up (xr_up τ0 49 15 (nI 1)) 49 16 (nI (xs_sk n tx p))) := xe_failsM
    refine ⟨0, _, ?_, by rw [if_neg hq]; exact mR_fail z2⟩
    rw [if_neg (by rw [xs_let_eq hx2 hc]; exact hq), z4, e1, Option.bind_some]
    exact xp_zb0
theorem xe_takesNumber {σ : xr_S} {n p lo hi : Nat} {y : Int32} {tx : Nat → Nat} (hX : mX σ n tx) (hp : σ.1 49 12 = nI p) (hp2 : p ≤ n) (hlo : lo < 1000) (hhi : hi < 1000) (hy : y = nI hi - 1) : ∃ b τ, xf_X11_takesNumber σ (nI lo) y = some (b, τ) ∧ mR σ τ b (xs_num n tx p lo hi) (fun x => τ.1 49 12 = nI x.2 ∧ τ.1 49 14 = nI x.1 ∧ τ.1 49 13 = nI (xs_sk n tx p)) := by
  obtain ⟨τ0, z1, z2, z3, z4, z5⟩ := xe_here hX hp hp2
  obtain ⟨x1, x2, x3, x4⟩ := id hX
  have hs := xs_sk_is n tx p
  have hsn := hs.2.1 hp2
  obtain ⟨q, hq⟩ : ∃ q, q = xs_sk n tx p := ⟨_, rfl⟩
  rw [← hq] at hs hsn z1 z3 z4
  obtain ⟨f1, f2, f3⟩ := xs_fn_is n tx q
  obtain ⟨m, hm⟩ : ∃ m, m = xs_fn n tx q := ⟨_, rfl⟩
  rw [← hm] at f1 f2 f3
  unfold xf_X11_takesNumber
  rw [z1, Option.bind_some]
  dsimp only
  rw [xs_let_fig x2, Option.bind_some]
  unfold xs_num
  rw [← hq, ← hm]
  by_cases hm0 : m = 0
  · have hf : xs_fgb n tx q = false := by rw [hm0, Nat.add_zero] at f2; exact f2
    have e1 : xf_X11_fails τ0 1 (nI q) = some (0, xr_up (xr_up τ0 49 15 (nI 1)) 49 16 (nI q)) := xe_failsM
    refine ⟨0, _, ?_, by rw [if_pos hm0]; exact mR_fail z2⟩
    rw [hf, if_pos (show bI false = 0 from rfl), z4, e1, Option.bind_some]
    exact xp_zb0
  · have hf : xs_fgb n tx q = true := f1 0 (by omega)
    have hqm : q + m ≤ n := by
      have := (xs_fgb_t (f1 (m - 1) (by omega))).1
      omega
    have hnv : ∀ j, j ≤ m → xs_nv tx q j ≤ 999 := fun j hj => (xs_nv_le j (fun i hi => (xs_fgb_t (f1 i (by omega))).2.2)).1
    obtain ⟨s', ⟨h1, h2, h4, h5, h6⟩, h3⟩ := xp_forK (body := xf_X11_takesNumber_L32) (out := fun s => s) (fun j τ => τ.1 49 12 = nI (q + j) ∧ τ.1 49 14 = nI (xs_nv tx q j) ∧ τ.1 49 13 = nI q ∧ mF σ τ ∧ ∀ k, 15 ≤ k → τ.1 49 k = σ.1 49 k) m (fun j τ hj hP => by
        obtain ⟨y1, y2, y3, y4, y5⟩ := hP
        have hX1 := mX_F hX y4
        have el := xe_letter (k := q + j) hX1 (by omega)
        obtain ⟨w1, w2, w3⟩ := xs_fgb_t (f1 j hj)
        have hlt : xs_let n tx (q + j) = nI (tx (q + j)) := by unfold xs_let; rw [if_pos w1]
        have hn := hnv j (by omega)
        refine ⟨xr_up (xr_up τ 49 14 (nI (xs_nv tx q (j + 1)))) 49 12 (nI (q + j + 1)), ⟨by rw [xp_same, xp_us, Nat.add_assoc], by rw [xp_same, xp_un (by decide), xp_same, xp_us], by rw [xp_same, xp_un (by decide), xp_same, xp_un (by decide)]; exact y3, mF_tr y4 (mF_tr (mF_up (by omega) (by omega)) (mF_up (by omega) (by omega))), fun k h => by rw [xp_same, xp_un (by omega), xp_same, xp_un (by omega), y5 k h]⟩, fun K rec => ?_⟩
        unfold xf_X11_takesNumber_L32
        rw [y1, el, Option.bind_some, xs_let_fig x2, f1 j hj, Option.bind_some, if_neg (show ¬ bI true = 0 by decide)]
        simp only [xp_jn, Option.bind_some]
        rw [y3, pk_sub (by omega), show q + j - q = j by omega, y2]
        simp only [xs_nv]
        by_cases hj3 : j < 3
        · rw [if_neg (show ¬ (3 : Int32) ≤ nI j from nI_ge (b := 3) hj3 (by omega)), hlt, xl_10, pk_mul, nI_add, xl_48, pk_sub (by omega), xp_pf, xp_same, xp_un (by decide), y1, xp_pf, nI_1, if_pos hj3, Nat.mul_comm 10]
        · rw [if_pos (show (3 : Int32) ≤ nI j from nI_le (a := 3) (by omega) (by omega)), xp_pf, xp_same, xp_un (by decide), y1, xp_pf, nI_1, if_neg hj3]) (fun τ hP K rec => by
        obtain ⟨y1, y2, y3, y4, y5⟩ := hP
        have el := xe_letter (k := q + m) (mX_F hX y4) (by omega)
        unfold xf_X11_takesNumber_L32
        rw [y1, el, Option.bind_some, xs_let_fig x2, f2, Option.bind_some, if_pos (show bI false = 0 from rfl)]) m 0 (by omega) (xr_up τ0 49 14 0) ⟨by rw [xp_same, xp_un (by decide)]; exact z3, by rw [xp_same, xp_us]; rfl, by rw [xp_same, xp_un (by decide)]; exact z4, mF_tr z2 (mF_up (by omega) (by omega)), fun k h => by rw [xp_same, xp_un (by omega), z5 k (by omega)]⟩
    have hv := hnv m (Nat.le_refl _)
    have hin : xf_X11_in s' (Int32.toInt64 (s'.1 49 14)) (Int32.toInt64 (nI lo)) (Int32.toInt64 y) = some (bI (decide (lo ≤ xs_nv tx q m ∧ xs_nv tx q m < hi))) := by
      rw [h2, xe_inI]
      congr 2
      apply decide_eq_decide.mpr
      rw [hy, Int32.le_iff_toInt_le, Int32.le_iff_toInt_le, nI_toInt (show xs_nv tx q m < 2 ^ 31 by omega), nI_toInt (by omega), show (nI hi - 1) = nI hi - nI 1 from rfl, pk_sub_toInt (by omega) (by omega)]
      omega
    rw [hf, if_neg (show ¬ bI true = 0 by decide), xp_pf, h3]
    simp only [xp_jn]
    rw [h1, h4, pk_sub (by omega), show q + m - q = m by omega, hin, Option.bind_some, if_neg hm0]
    have e1 : xf_X11_fails s' 2 (nI q) = some (0, xr_up (xr_up s' 49 15 (nI 2)) 49 16 (nI q)) := xe_failsM
    by_cases hbd : 4 ≤ m ∨ ¬ (lo ≤ xs_nv tx q m ∧ xs_nv tx q m < hi)
    · refine ⟨0, _, ?_, by rw [if_pos hbd]; exact mR_fail h5⟩
      rw [e1, Option.bind_some, if_pos rfl]
      by_cases h4m : 4 ≤ m
      · rw [if_pos (show (4 : Int32) ≤ nI m from nI_le (a := 4) h4m (by omega))]
      · rw [if_neg (show ¬ (4 : Int32) ≤ nI m from nI_ge (b := 4) (by omega) (by omega)), decide_eq_false (hbd.resolve_left h4m), if_pos (show bI false = 0 from rfl)]
    · have hb1 : ¬ 4 ≤ m := fun h => hbd (Or.inl h)
      have hb2 : lo ≤ xs_nv tx q m ∧ xs_nv tx q m < hi := Classical.byContradiction (fun h => hbd (Or.inr h))
      refine ⟨1, s', ?_, h5, by rw [if_neg hbd]; exact ⟨rfl, ⟨h1, h2, h4⟩, h6 15 (by decide), h6 16 (by decide)⟩⟩
      rw [if_neg (show ¬ (4 : Int32) ≤ nI m from nI_ge (b := 4) (by omega) (by omega)), decide_eq_true hb2, if_neg (show ¬ bI true = 0 by decide)]
