/-! the text: what is read, as mathematics -/
def xs_skf (n : Nat) (tx : Nat → Nat) : Nat → Nat → Nat
  | 0, p => p
  | f + 1, p => if p < n ∧ tx p = 32 then xs_skf n tx f (p + 1) else p
def xs_sk (n : Nat) (tx : Nat → Nat) (p : Nat) : Nat := xs_skf n tx (n - p) p
theorem xs_sk_yes {n : Nat} {tx : Nat → Nat} {p : Nat} (h : p < n) (h2 : tx p = 32) : xs_sk n tx p = xs_sk n tx (p + 1) := by
  unfold xs_sk
  obtain ⟨f, hf⟩ : ∃ f, n - p = f + 1 := ⟨n - p - 1, by omega⟩
  rw [hf, show n - (p + 1) = f by omega]
  simp only [xs_skf]
  rw [if_pos ⟨h, h2⟩]
theorem xs_sk_no {n : Nat} {tx : Nat → Nat} {p : Nat} (h : ¬ (p < n ∧ tx p = 32)) : xs_sk n tx p = p := by
  unfold xs_sk
  cases hf : n - p with
  | zero => rfl
  | succ f => simp only [xs_skf]; rw [if_neg h]
theorem xs_skf_is {n : Nat} {tx : Nat → Nat} : ∀ f p, n ≤ p + f → p ≤ xs_skf n tx f p ∧ (p ≤ n → xs_skf n tx f p ≤ n) ∧ ¬ (xs_skf n tx f p < n ∧ tx (xs_skf n tx f p) = 32) := by
  intro f
  induction f with
  | zero => intro p h; exact ⟨Nat.le_refl _, fun h => h, fun h2 => by simp only [xs_skf] at h2; omega⟩
  | succ f ih =>
    intro p h
    simp only [xs_skf]
    by_cases hc : p < n ∧ tx p = 32
    · rw [if_pos hc]
      obtain ⟨a, b, c⟩ := ih (p + 1) (by omega)
      exact ⟨by omega, fun _ => b (by omega), c⟩
    · rw [if_neg hc]
      exact ⟨Nat.le_refl _, fun h => h, hc⟩
theorem xs_sk_is (n : Nat) (tx : Nat → Nat) (p : Nat) : p ≤ xs_sk n tx p ∧ (p ≤ n → xs_sk n tx p ≤ n) ∧ ¬ (xs_sk n tx p < n ∧ tx (xs_sk n tx p) = 32) := xs_skf_is _ _ (by omega)
theorem xs_sk_sk (n : Nat) (tx : Nat → Nat) (p : Nat) : xs_sk n tx (xs_sk n tx p) = xs_sk n tx p := xs_sk_no (xs_sk_is n tx p).2.2
def xs_fgb (n : Nat) (tx : Nat → Nat) (p : Nat) : Bool := decide (p < n) && (decide (48 ≤ tx p) && decide (tx p ≤ 57))
theorem xs_fgb_t {n : Nat} {tx : Nat → Nat} {p : Nat} (h : xs_fgb n tx p = true) : p < n ∧ 48 ≤ tx p ∧ tx p ≤ 57 := by
  unfold xs_fgb at h
  simpa using h
theorem xs_fgb_f {n : Nat} {tx : Nat → Nat} {p : Nat} (h : xs_fgb n tx p = false) (hp : p < n) : tx p < 48 ∨ 57 < tx p := by
  unfold xs_fgb at h
  simp [hp] at h
  by_cases h1 : tx p < 48
  · exact Or.inl h1
  · right; have := h (by omega); omega
/-- how many figures stand from q on -/
def xs_fn (n : Nat) (tx : Nat → Nat) (q : Nat) : Nat := (xs_find (fun j => !xs_fgb n tx (q + j)) (n + 1)).getD 0
theorem xs_fn_is (n : Nat) (tx : Nat → Nat) (q : Nat) : (∀ j, j < xs_fn n tx q → xs_fgb n tx (q + j) = true) ∧ xs_fgb n tx (q + xs_fn n tx q) = false ∧ xs_fn n tx q ≤ n := by
  unfold xs_fn
  cases h : xs_find (fun j => !xs_fgb n tx (q + j)) (n + 1) with
  | none =>
    have := xs_find_none.mp h n (by omega)
    have h2 : xs_fgb n tx (q + n) = true := by simpa using this
    have := (xs_fgb_t h2).1
    omega
  | some k =>
    obtain ⟨h1, h2, h3⟩ := xs_find_some.mp h
    refine ⟨fun j hj => ?_, by simpa using h2, by simp; omega⟩
    have := h3 j hj
    simpa using this
def xs_nv (tx : Nat → Nat) (q : Nat) : Nat → Nat
  | 0 => 0
  | j + 1 => if j < 3 then xs_nv tx q j * 10 + tx (q + j) - 48 else xs_nv tx q j
theorem xs_nv_le {tx : Nat → Nat} {q : Nat} : ∀ j, (∀ i, i < j → tx (q + i) ≤ 57) → xs_nv tx q j ≤ 999 ∧ (j ≤ 2 → xs_nv tx q j ≤ 99) ∧ (j ≤ 1 → xs_nv tx q j ≤ 9) ∧ (j = 0 → xs_nv tx q j = 0) := by
  intro j
  induction j with
  | zero => intro _; simp [xs_nv]
  | succ j ih =>
    intro h
    obtain ⟨a, b, c, d⟩ := ih (fun i hi => h i (by omega))
    have h1 := h j (by omega)
    simp only [xs_nv]
    split
    next hj =>
      refine ⟨?_, fun h2 => ?_, fun h2 => ?_, fun h2 => by omega⟩
      · have := b (by omega); omega
      · have := c (by omega); omega
      · have := d (by omega); omega
    next hj => exact ⟨a, fun h2 => by omega, fun h2 => by omega, fun h2 => by omega⟩
/-- a number, its bounds lo and below hi; else the fault and its place -/
def xs_num (n : Nat) (tx : Nat → Nat) (p lo hi : Nat) : Except (Nat × Nat) (Nat × Nat) := if xs_fn n tx (xs_sk n tx p) = 0 then .error (1, xs_sk n tx p) else if 4 ≤ xs_fn n tx (xs_sk n tx p) ∨ ¬ (lo ≤ xs_nv tx (xs_sk n tx p) (xs_fn n tx (xs_sk n tx p)) ∧ xs_nv tx (xs_sk n tx p) (xs_fn n tx (xs_sk n tx p)) < hi) then .error (2, xs_sk n tx p) else .ok (xs_nv tx (xs_sk n tx p) (xs_fn n tx (xs_sk n tx p)), xs_sk n tx p + xs_fn n tx (xs_sk n tx p))
def xs_sgn (n : Nat) (tx : Nat → Nat) (p c : Nat) : Except (Nat × Nat) Nat := if xs_sk n tx p < n ∧ tx (xs_sk n tx p) = c then .ok (xs_sk n tx p + 1) else .error (1, xs_sk n tx p)
theorem xs_num_ok {n : Nat} {tx : Nat → Nat} {p lo hi v e : Nat} (h : xs_num n tx p lo hi = .ok (v, e)) (hp : p ≤ n) : p < e ∧ e ≤ n ∧ lo ≤ v ∧ v < hi := by
  unfold xs_num at h
  have hs := xs_sk_is n tx p
  obtain ⟨f1, f2, f3⟩ := xs_fn_is n tx (xs_sk n tx p)
  split at h
  · cases h
  next h0 =>
    split at h
    · cases h
    next h1 =>
      have h2 := Except.ok.inj h
      have h3 := congrArg Prod.fst h2
      have h4 := congrArg Prod.snd h2
      dsimp only at h3 h4
      have h5 : lo ≤ xs_nv tx (xs_sk n tx p) (xs_fn n tx (xs_sk n tx p)) ∧ xs_nv tx (xs_sk n tx p) (xs_fn n tx (xs_sk n tx p)) < hi := by
        apply Classical.byContradiction
        intro hc
        exact h1 (Or.inr hc)
      have h6 := (xs_fgb_t (f1 (xs_fn n tx (xs_sk n tx p) - 1) (by omega))).1
      exact ⟨by omega, by omega, by omega, by omega⟩
theorem xs_sgn_ok {n : Nat} {tx : Nat → Nat} {p c e : Nat} (h : xs_sgn n tx p c = .ok e) : p < e ∧ e ≤ n := by
  unfold xs_sgn at h
  have hs := xs_sk_is n tx p
  split at h
  next h1 =>
    have h2 := Except.ok.inj h
    exact ⟨by omega, by omega⟩
  · cases h
def xs_bad (e : Nat × Nat) : Prop := 0 < e.1 ∧ e.1 < 10 ∧ e.2 ≤ 1000
theorem xs_bad_mk {k p : Nat} (h1 : 0 < k) (h2 : k < 10) (h3 : p ≤ 1000) : xs_bad (k, p) := ⟨h1, h2, h3⟩
theorem xs_num_bad {n : Nat} {tx : Nat → Nat} {p lo hi : Nat} {e : Nat × Nat} (h : xs_num n tx p lo hi = .error e) (hp : p ≤ n) (hn : n ≤ 240) : xs_bad e := by
  unfold xs_num at h
  have hs := xs_sk_is n tx p
  split at h
  · cases h; exact xs_bad_mk (by decide) (by decide) (by have := hs.2.1 hp; omega)
  · split at h
    · cases h; exact xs_bad_mk (by decide) (by decide) (by have := hs.2.1 hp; omega)
    · cases h
theorem xs_sgn_bad {n : Nat} {tx : Nat → Nat} {p c : Nat} {e : Nat × Nat} (h : xs_sgn n tx p c = .error e) (hp : p ≤ n) (hn : n ≤ 240) : xs_bad e := by
  unfold xs_sgn at h
  have hs := xs_sk_is n tx p
  split at h
  · cases h
  · cases h; exact xs_bad_mk (by decide) (by decide) (by have := hs.2.1 hp; omega)
/-! the class's reading: skipping, failing, numbers, signs -/
def vX (σ : xr_S) (n : Nat) (tx : Nat → Nat) : Prop := n ≤ 240 ∧ (∀ k, k < n → tx k ≤ 255) ∧ σ.1 1 0 = nI n ∧ ∀ k, k < n → σ.1 2 k = nI (tx k)
/-- only the reading's own fields have changed -/
def vF (σ τ : xr_S) : Prop := (∀ c, c ≠ 1 → τ.1 c = σ.1 c) ∧ ∀ k, k ≠ 1 → k ≠ 4 → k ≠ 5 → k ≠ 6 → τ.1 1 k = σ.1 1 k
theorem vF_rf (σ : xr_S) : vF σ σ := ⟨fun _ _ => rfl, fun _ _ _ _ _ => rfl⟩
theorem vF_tr {σ τ ρ : xr_S} (h : vF σ τ) (g : vF τ ρ) : vF σ ρ := ⟨fun c hc => by rw [g.1 c hc, h.1 c hc], fun k a b c d => by rw [g.2 k a b c d, h.2 k a b c d]⟩
theorem vX_F {σ τ : xr_S} {n : Nat} {tx : Nat → Nat} (h : vX σ n tx) (g : vF σ τ) : vX τ n tx := ⟨h.1, h.2.1, by rw [g.2 0 (by decide) (by decide) (by decide) (by decide)]; exact h.2.2.1, fun k hk => by rw [g.1 2 (by decide)]; exact h.2.2.2 k hk⟩
theorem xe_skC {σ : xr_S} {n p : Nat} {tx : Nat → Nat} (hX : vX σ n tx) (hp : σ.1 1 4 = nI p) (hp2 : p ≤ 1000) : ∃ τ, xf_X6_skipBlanks σ = some τ ∧ τ.1 1 4 = nI (xs_sk n tx p) ∧ (∀ k, k ≠ 4 → τ.1 1 k = σ.1 1 k) ∧ ∀ c, c ≠ 1 → τ.1 c = σ.1 c := by
  obtain ⟨x1, x2, x3, x4⟩ := hX
  unfold xf_X6_skipBlanks
  refine xp_meas (Q := fun o => ∃ τ : xr_S, o = some τ ∧ τ.1 1 4 = nI (xs_sk n tx p) ∧ (∀ k, k ≠ 4 → τ.1 1 k = σ.1 1 k) ∧ ∀ c, c ≠ 1 → τ.1 c = σ.1 c) (fun τ => ∃ q, q ≤ 1000 ∧ τ.1 1 4 = nI q ∧ xs_sk n tx q = xs_sk n tx p ∧ (∀ k, k ≠ 4 → τ.1 1 k = σ.1 1 k) ∧ ∀ c, c ≠ 1 → τ.1 c = σ.1 c) (fun τ => 1000 - (τ.1 1 4).toNatClampNeg) (fun τ hI => ?_) σ ⟨p, hp2, hp, rfl, fun _ _ => rfl, fun _ _ => rfl⟩
  obtain ⟨q, hq, h4, hsk, hk, hc⟩ := hI
  have h0 : τ.1 1 0 = nI n := by rw [hk 0 (by decide)]; exact x3
  by_cases hqn : q < n
  · have hl : τ.1 2 q = nI (tx q) := by rw [hc 2 (by decide)]; exact x4 q hqn
    have htx := x2 q hqn
    by_cases hb : tx q = 32
    · right
      refine ⟨xr_up τ 1 4 (nI (q + 1)), ⟨q + 1, by omega, by rw [xp_same, xp_us], by rw [← hsk, xs_sk_yes hqn hb], fun k h => by rw [xp_same, xp_un h, hk k h], fun c h => by rw [xp_other h, hc c h]⟩, ?_, fun rec => ?_⟩
      · rw [xp_same, xp_us, h4, nI_clamp (by omega), nI_clamp (by omega)]; omega
      · unfold xf_X6_skipBlanks_L0
        rw [h0, h4, if_neg (nI_ge hqn (by omega)), xp_ld (by omega) (by omega), hl, if_pos (by rw [hb]; rfl), xp_pf, nI_1]
    · left
      refine ⟨some τ, fun rec => ?_, τ, rfl, by rw [h4, ← hsk, xs_sk_no (fun h => hb h.2)], hk, hc⟩
      unfold xf_X6_skipBlanks_L0
      rw [h0, h4, if_neg (nI_ge hqn (by omega)), xp_ld (by omega) (by omega), hl, if_neg (by rw [xl_32, xp_eq (by omega) (by omega)]; exact hb)]
  · left
    refine ⟨some τ, fun rec => ?_, τ, rfl, by rw [h4, ← hsk, xs_sk_no (fun h => hqn h.1)], hk, hc⟩
    unfold xf_X6_skipBlanks_L0
    rw [h0, h4, if_pos (nI_le (by omega) (by omega))]
/-- reading goes on at p -/
def vG (σ : xr_S) (p : Nat) : Prop := σ.1 1 5 = 0 ∧ σ.1 1 4 = nI p
/-- reading has failed -/
def vB (σ : xr_S) (e : Nat × Nat) : Prop := xs_bad e ∧ σ.1 1 5 = nI e.1 ∧ σ.1 1 1 = nI e.2 ∧ ∃ p, p ≤ 1000 ∧ σ.1 1 4 = nI p
theorem vB_ne {σ : xr_S} {e : Nat × Nat} (h : vB σ e) : ¬ σ.1 1 5 = 0 := by
  rw [h.2.1, xl_0, xp_eq (by have := h.1.2.1; omega) (by omega)]
  have := h.1.1
  omega
theorem xe_failC {σ : xr_S} {k p : Nat} (h : σ.1 1 5 = 0) : xf_X6_fail σ (nI k) (nI p) = some (xr_up (xr_up σ 1 5 (nI k)) 1 1 (nI p)) := by
  unfold xf_X6_fail
  rw [if_pos h, xp_pf, xp_pf]
theorem xe_failB {σ : xr_S} {x y : Int32} (h : ¬ σ.1 1 5 = 0) : xf_X6_fail σ x y = some σ := by
  unfold xf_X6_fail
  rw [if_neg h]
theorem vB_fail {σ : xr_S} {k p q : Nat} (hb : xs_bad (k, p)) (hq : q ≤ 1000) (h4 : σ.1 1 4 = nI q) : vB (xr_up (xr_up σ 1 5 (nI k)) 1 1 (nI p)) (k, p) ∧ vF σ (xr_up (xr_up σ 1 5 (nI k)) 1 1 (nI p)) := by
  refine ⟨⟨hb, ?_, ?_, q, hq, ?_⟩, fun c hc => by rw [xp_other hc, xp_other hc], fun k a b c d => by rw [xp_same, xp_un a, xp_same, xp_un c]⟩
  · rw [xp_same, xp_un (by decide), xp_same, xp_us]
  · rw [xp_same, xp_us]
  · rw [xp_same, xp_un (by decide), xp_same, xp_un (by decide)]; exact h4
/-- what comes of an operation that reads -/
def vR {α : Type} (σ τ : xr_S) (r : Except (Nat × Nat) α) (ok : α → Prop) : Prop := vF σ τ ∧ match r with
  | .ok x => ok x ∧ τ.1 1 1 = σ.1 1 1
  | .error e => vB τ e
theorem xe_readSignC {σ : xr_S} {n p c : Nat} {tx : Nat → Nat} (hX : vX σ n tx) (hG : vG σ p) (hp : p ≤ n) (hc : c < 1000) : ∃ τ, xf_X6_readSign σ (nI c) = some τ ∧ vR σ τ (xs_sgn n tx p c) (fun e => vG τ e ∧ τ.1 1 6 = σ.1 1 6) := by
  obtain ⟨τ0, z1, z2, z3, z4⟩ := xe_skC hX hG.2 (by have := hX.1; omega)
  obtain ⟨x1, x2, x3, x4⟩ := hX
  have hs := xs_sk_is n tx p
  have hsn := hs.2.1 hp
  have f0 : vF σ τ0 := ⟨z4, fun k _ h _ _ => z3 k h⟩
  have h5 : τ0.1 1 5 = 0 := by rw [z3 5 (by decide)]; exact hG.1
  have h0 : τ0.1 1 0 = nI n := by rw [z3 0 (by decide)]; exact x3
  unfold xf_X6_readSign
  rw [if_pos hG.1, z1, Option.bind_some]
  simp only [xp_jn]
  rw [h0, z2]
  by_cases hq : xs_sk n tx p < n ∧ tx (xs_sk n tx p) = c
  · have hl : τ0.1 2 (xs_sk n tx p) = nI (tx (xs_sk n tx p)) := by rw [z4 2 (by decide)]; exact x4 _ hq.1
    refine ⟨xr_up τ0 1 4 (nI (xs_sk n tx p + 1)), ?_, vF_tr f0 ⟨fun c hc => by rw [xp_other hc], fun k a b c d => by rw [xp_same, xp_un b]⟩, ?_⟩
    · rw [if_neg (nI_ge hq.1 (by omega)), xp_ld (by omega) (by omega), hl, if_pos (by rw [hq.2]), xp_pf, nI_1]
    · unfold xs_sgn
      rw [if_pos hq]
      exact ⟨⟨⟨by rw [xp_same, xp_un (by decide)]; exact h5, by rw [xp_same, xp_us]⟩, by rw [xp_same, xp_un (by decide), z3 6 (by decide)]⟩, by rw [xp_same, xp_un (by decide), z3 1 (by decide)]⟩
  · have hbad : xs_bad (1, xs_sk n tx p) := xs_bad_mk (by decide) (by decide) (by omega)
    obtain ⟨b1, b2⟩ := vB_fail (σ := τ0) hbad (show xs_sk n tx p ≤ 1000 by omega) z2
    have e1 : xf_X6_fail τ0 1 (nI (xs_sk n tx p)) = some (xr_up (xr_up τ0 1 5 (nI 1)) 1 1 (nI (xs_sk n tx p))) := xe_failC h5
    refine ⟨_, ?_, vF_tr f0 b2, ?_⟩
    · by_cases h1 : xs_sk n tx p < n
      · have hl : τ0.1 2 (xs_sk n tx p) = nI (tx (xs_sk n tx p)) := by rw [z4 2 (by decide)]; exact x4 _ h1
        have htx := x2 _ h1
        rw [if_neg (nI_ge h1 (by omega)), xp_ld (by omega) (by omega), hl, if_neg (by rw [xp_eq (by omega) (by omega)]; exact fun h => hq ⟨h1, h⟩), e1]
        rfl
      · rw [if_pos (nI_le (by omega) (by omega)), e1]
        rfl
    · unfold xs_sgn
      rw [if_neg hq]
      exact b1
theorem xe_readSignB {σ : xr_S} {e : Nat × Nat} {x : Int32} (h : vB σ e) : xf_X6_readSign σ x = some σ := by
  unfold xf_X6_readSign
  rw [if_neg (vB_ne h)]
theorem xe_readNumberB {σ : xr_S} {e : Nat × Nat} {x y : Int32} (h : vB σ e) : xf_X6_readNumber σ x y = some (0, σ) := by
  unfold xf_X6_readNumber
  rw [if_neg (vB_ne h)]
theorem xe_isFigure (σ : xr_S) {x : Nat} (hx : x ≤ 255) : xf_X6_isFigure σ (nI x) = some (bI (decide (48 ≤ x) && decide (x ≤ 57))) := by
  unfold xf_X6_isFigure
  by_cases h1 : x < 48
  · rw [if_pos (show nI x < 48 from nI_lt (b := 48) h1 (by decide)), decide_eq_false (show ¬ 48 ≤ x by omega)]; rfl
  · rw [if_neg (show ¬ nI x < 48 from nI_nlt (b := 48) (by omega) (by omega)), decide_eq_true (show 48 ≤ x by omega)]
    by_cases h2 : 57 < x
    · rw [if_pos (show (57 : Int32) < nI x from nI_lt (a := 57) h2 (by omega)), decide_eq_false (show ¬ x ≤ 57 by omega)]; rfl
    · rw [if_neg (show ¬ (57 : Int32) < nI x from nI_nlt (a := 57) (by omega) (by omega)), decide_eq_true (show x ≤ 57 by omega)]; rfl
theorem xe_readNumberC {σ : xr_S} {n p lo hi : Nat} {y : Int32} {tx : Nat → Nat} (hX : vX σ n tx) (hG : vG σ p) (hp : p ≤ n) (hlo : lo < 1000) (hhi : hi < 1000) (hy : y = nI hi - 1) : ∃ v τ, xf_X6_readNumber σ (nI lo) y = some (v, τ) ∧ vR σ τ (xs_num n tx p lo hi) (fun x => v = nI x.1 ∧ vG τ x.2 ∧ τ.1 1 6 = nI (xs_sk n tx p)) := by
  obtain ⟨τ0, z1, z2, z3, z4⟩ := xe_skC hX hG.2 (by have := hX.1; omega)
  obtain ⟨x1, x2, x3, x4⟩ := hX
  have hs := xs_sk_is n tx p
  have hsn := hs.2.1 hp
  obtain ⟨q, hq⟩ : ∃ q, q = xs_sk n tx p := ⟨_, rfl⟩
  rw [← hq] at hs hsn z2
  obtain ⟨f1, f2, f3⟩ := xs_fn_is n tx q
  obtain ⟨m, hm⟩ : ∃ m, m = xs_fn n tx q := ⟨_, rfl⟩
  rw [← hm] at f1 f2 f3
  have hqm : q + m ≤ n := by
    by_cases h0 : m = 0
    · omega
    · have := (xs_fgb_t (f1 (m - 1) (by omega))).1
      omega
  have hnv : ∀ j, j ≤ m → xs_nv tx q j ≤ 999 := fun j hj => (xs_nv_le j (fun i hi => (xs_fgb_t (f1 i (by omega))).2.2)).1
  obtain ⟨τ1, hτ1⟩ : ∃ τ1, τ1 = xr_up τ0 1 6 (nI q) := ⟨_, rfl⟩
  have g1 : ∀ c, c ≠ 1 → τ1.1 c = σ.1 c := fun c h => by rw [hτ1, xp_other h, z4 c h]
  have g2 : ∀ k, k ≠ 4 → k ≠ 6 → τ1.1 1 k = σ.1 1 k := fun k h h2 => by rw [hτ1, xp_same, xp_un h2, z3 k h]
  have g4 : τ1.1 1 4 = nI q := by rw [hτ1, xp_same, xp_un (by decide)]; exact z2
  have g6 : τ1.1 1 6 = nI q := by rw [hτ1, xp_same, xp_us]
  obtain ⟨s', ⟨τ, rfl, h1, h2, h4⟩, h3⟩ := xp_forK (body := xf_X6_readNumber_L23) (out := fun s => (s.1, s.2)) (fun j s => ∃ τ : xr_S, s = (nI (xs_nv tx q j), τ) ∧ τ.1 1 4 = nI (q + j) ∧ (∀ k, k ≠ 4 → τ.1 1 k = τ1.1 1 k) ∧ ∀ c, c ≠ 1 → τ.1 c = τ1.1 c) m (fun j s hj hP => by
      obtain ⟨τ, rfl, q1, q2, q3⟩ := hP
      obtain ⟨w1, w2, w3⟩ := xs_fgb_t (f1 j hj)
      have e0 : τ.1 1 0 = nI n := by rw [q2 0 (by decide), g2 0 (by decide) (by decide)]; exact x3
      have e6 : τ.1 1 6 = nI q := by rw [q2 6 (by decide)]; exact g6
      have el : τ.1 2 (q + j) = nI (tx (q + j)) := by rw [q3 2 (by decide), g1 2 (by decide)]; exact x4 _ w1
      have ef := xe_isFigure τ (show tx (q + j) ≤ 255 by omega)
      rw [decide_eq_true w2, decide_eq_true w3] at ef
      refine ⟨(nI (xs_nv tx q (j + 1)), xr_up τ 1 4 (nI (q + j + 1))), ⟨_, rfl, by rw [xp_same, xp_us, Nat.add_assoc], fun k h => by rw [xp_same, xp_un h, q2 k h], fun c h => by rw [xp_other h, q3 c h]⟩, fun K rec => ?_⟩
      have hn := hnv j (by omega)
      unfold xf_X6_readNumber_L23
      dsimp only
      rw [e0, q1, if_neg (nI_ge w1 (by omega)), xp_ld (by omega) (by omega), el, ef, Option.bind_some]
      simp only [xp_jn]
      rw [if_neg (by decide), e6, pk_sub (by omega), show q + j - q = j by omega, nI_1]
      simp only [xs_nv]
      by_cases hj3 : j < 3
      · rw [if_neg (show ¬ (3 : Int32) ≤ nI j from nI_ge (b := 3) hj3 (by omega)), xp_ld (by omega) (by omega), el, xp_v, xl_10, pk_mul, nI_add, xl_48, pk_sub (by omega), xp_pf, if_pos hj3]
      · rw [if_pos (show (3 : Int32) ≤ nI j from nI_le (a := 3) (by omega) (by omega)), xp_pf, if_neg hj3]) (fun s hP K rec => by
      obtain ⟨τ, rfl, q1, q2, q3⟩ := hP
      have e0 : τ.1 1 0 = nI n := by rw [q2 0 (by decide), g2 0 (by decide) (by decide)]; exact x3
      unfold xf_X6_readNumber_L23
      dsimp only
      rw [e0, q1]
      by_cases hqn : q + m < n
      · have htx := x2 _ hqn
        have el : τ.1 2 (q + m) = nI (tx (q + m)) := by rw [q3 2 (by decide), g1 2 (by decide)]; exact x4 _ hqn
        have ef := xe_isFigure τ htx
        have hnf : (decide (48 ≤ tx (q + m)) && decide (tx (q + m) ≤ 57)) = false := by
          rcases xs_fgb_f f2 hqn with h | h
          · rw [decide_eq_false (show ¬ 48 ≤ tx (q + m) by omega)]; rfl
          · rw [decide_eq_false (show ¬ tx (q + m) ≤ 57 by omega), Bool.and_false]
        rw [hnf] at ef
        rw [if_neg (nI_ge hqn (by omega)), xp_ld (by omega) (by omega), el, ef, Option.bind_some, if_pos (show bI false = 0 from rfl)]
      · rw [if_pos (nI_le (by omega) (by omega))]) m 0 (by omega) (0, τ1) ⟨τ1, rfl, g4, fun _ _ => rfl, fun _ _ => rfl⟩
  have hfr : vF σ τ := ⟨fun c h => by rw [h4 c h, g1 c h], fun k a b c d => by rw [h2 k b, g2 k b d]⟩
  have h5 : τ.1 1 5 = 0 := by rw [h2 5 (by decide), g2 5 (by decide) (by decide)]; exact hG.1
  have h6 : τ.1 1 6 = nI q := by rw [h2 6 (by decide)]; exact g6
  have h11 : τ.1 1 1 = σ.1 1 1 := by rw [h2 1 (by decide), g2 1 (by decide) (by decide)]
  have hv := hnv m (Nat.le_refl _)
  have hle : nI (xs_nv tx q m) ≤ y ↔ xs_nv tx q m < hi := by
    rw [hy, Int32.le_iff_toInt_le, nI_toInt (by omega), show (nI hi - 1) = nI hi - nI 1 from rfl, pk_sub_toInt (by omega) (by omega)]
    omega
  have fail1 := fun k (hk : 0 < k) (hk2 : k < 10) => vB_fail (σ := τ) (k := k) (xs_bad_mk hk hk2 (show q ≤ 1000 by omega)) (show q + m ≤ 1000 by omega) h1
  unfold xf_X6_readNumber
  rw [if_pos hG.1, z1, Option.bind_some, xp_pf, z2, ← hτ1, h3]
  dsimp only
  rw [h1, h6, pk_sub (by omega), show q + m - q = m by omega, xp_v]
  unfold xs_num
  rw [← hq, ← hm]
  by_cases hm0 : m = 0
  · obtain ⟨b1, b2⟩ := fail1 1 (by decide) (by decide)
    refine ⟨nI (xs_nv tx q m), _, ?_, vF_tr hfr b2, ?_⟩
    · rw [if_pos (by rw [hm0]; rfl), show (1 : Int32) = nI 1 from rfl, xe_failC h5]; rfl
    · rw [if_pos hm0]; exact b1
  · rw [if_neg hm0, if_neg (by rw [xl_0, xp_eq (by omega) (by omega)]; exact hm0)]
    simp only [xp_jn]
    by_cases hbd : 4 ≤ m ∨ ¬ (lo ≤ xs_nv tx q m ∧ xs_nv tx q m < hi)
    · obtain ⟨b1, b2⟩ := fail1 2 (by decide) (by decide)
      refine ⟨nI (xs_nv tx q m), _, ?_, vF_tr hfr b2, ?_⟩
      · rw [show (2 : Int32) = nI 2 from rfl, xe_failC h5, Option.bind_some]
        by_cases h3m : 3 < m
        · rw [if_pos (show (3 : Int32) < nI m from nI_lt (a := 3) h3m (by omega))]
        · rw [if_neg (show ¬ (3 : Int32) < nI m from nI_nlt (a := 3) (by omega) (by omega))]
          by_cases hl : xs_nv tx q m < lo
          · rw [if_pos (nI_lt hl (by omega))]
          · rw [if_neg (nI_nlt (by omega) (by omega)), if_neg (fun h => by have := hle.mp h; rcases hbd with h | h <;> omega)]
      · rw [if_pos hbd]; exact b1
    · have hb1 : ¬ 4 ≤ m := fun h => hbd (Or.inl h)
      have hb2 : lo ≤ xs_nv tx q m ∧ xs_nv tx q m < hi := Classical.byContradiction (fun h => hbd (Or.inr h))
      refine ⟨nI (xs_nv tx q m), τ, ?_, hfr, ?_⟩
      · rw [if_neg (show ¬ (3 : Int32) < nI m from nI_nlt (a := 3) (by omega) (by omega)), if_neg (nI_nlt (by omega) (by omega)), if_pos (hle.mpr hb2.2)]
      · rw [if_neg hbd]
        exact ⟨⟨rfl, ⟨h5, h1⟩, h6⟩, h11⟩
