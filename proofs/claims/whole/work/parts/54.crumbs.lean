/-! crumbs: ways, counted and listed -/
def xs_wy (al : Nat → Nat → Bool) (fr : Nat → Bool) (S L : Nat) : Nat → Nat → Nat
  | 0, _ => 1
  | m + 1, k => if fr (L - (m + 1)) then xs_wy al fr S L m k else xs_sum (fun s => if al (L - (m + 1)) s && !k.testBit s then xs_wy al fr S L m (k ||| 2 ^ s) else 0) S
def xs_lv (al : Nat → Nat → Bool) (fr : Nat → Bool) (S L : Nat) : Nat → Nat → (Nat → Nat) → List (Nat → Nat)
  | 0, _, f => [f]
  | m + 1, k, f => if fr (L - (m + 1)) then xs_lv al fr S L m k f else (List.range' 0 S).flatMap (fun s => if al (L - (m + 1)) s && !k.testBit s then xs_lv al fr S L m (k ||| 2 ^ s) (fun i => if i = L - (m + 1) then s else f i) else [])
theorem xs_fm_len {α : Type} (g : Nat → List α) : ∀ n, ((List.range' 0 n).flatMap g).length = xs_sum (fun s => (g s).length) n := by
  intro n
  induction n with
  | zero => rfl
  | succ n ih =>
    rw [List.range'_concat, List.flatMap_append, List.length_append, ih]
    simp [xs_sum]
theorem xs_sum_cong {f g : Nat → Nat} {n : Nat} (h : ∀ k, k < n → f k = g k) : xs_sum f n = xs_sum g n := by
  induction n with
  | zero => rfl
  | succ n ih => simp only [xs_sum]; rw [ih (fun k hk => h k (by omega)), h n (by omega)]
theorem xs_lv_len {al : Nat → Nat → Bool} {fr : Nat → Bool} {S L : Nat} : ∀ m k f, (xs_lv al fr S L m k f).length = xs_wy al fr S L m k := by
  intro m
  induction m with
  | zero => intro k f; rfl
  | succ m ih =>
    intro k f
    simp only [xs_lv, xs_wy]
    split
    · exact ih k f
    · rw [xs_fm_len]
      refine xs_sum_cong (fun s hs => ?_)
      split
      · exact ih _ _
      · rfl
theorem xs_wy_le {al : Nat → Nat → Bool} {fr : Nat → Bool} {S L : Nat} (hS : S ≤ 6) : ∀ m k, xs_wy al fr S L m k ≤ 6 ^ m := by
  intro m
  induction m with
  | zero => intro k; exact Nat.le_refl _
  | succ m ih =>
    intro k
    have hp : 6 ^ (m + 1) = 6 * 6 ^ m := by rw [Nat.pow_succ, Nat.mul_comm]
    simp only [xs_wy]
    split
    · have := ih k; omega
    · have h1 := xs_sum_le (g := fun s => if al (L - (m + 1)) s && !k.testBit s then xs_wy al fr S L m (k ||| 2 ^ s) else 0) (b := 6 ^ m) (fun s => by
        split
        · exact ih _
        · omega) S
      have h2 : S * 6 ^ m ≤ 6 * 6 ^ m := Nat.mul_le_mul_right _ hS
      omega
theorem xs_lv_below {al : Nat → Nat → Bool} {fr : Nat → Bool} {S L : Nat} {g : Nat → Nat} : ∀ m k f, g ∈ xs_lv al fr S L m k f → ∀ i, i + m < L → g i = f i := by
  intro m
  induction m with
  | zero => intro k f h i hi; simp only [xs_lv, List.mem_singleton] at h; rw [h]
  | succ m ih =>
    intro k f h i hi
    simp only [xs_lv] at h
    split at h
    · exact ih k f h i (by omega)
    · obtain ⟨s, h1, h2⟩ := List.mem_flatMap.mp h
      split at h2
      · have := ih _ _ h2 i (by omega)
        rw [this, if_neg (by omega)]
      · cases h2
theorem xs_lv_lt {al : Nat → Nat → Bool} {fr : Nat → Bool} {S L : Nat} {g : Nat → Nat} : ∀ m k f, g ∈ xs_lv al fr S L m k f → m ≤ L → ∀ i, L ≤ i + m → i < L → fr i = false → g i < S := by
  intro m
  induction m with
  | zero => intro k f h _ i hi hi2; omega
  | succ m ih =>
    intro k f h hmL i hi hi2 hfr
    simp only [xs_lv] at h
    split at h
    next hf =>
      have : i ≠ L - (m + 1) := fun e => by rw [← e, hfr] at hf; cases hf
      exact ih k f h (by omega) i (by omega) hi2 hfr
    next hf =>
      obtain ⟨s, h1, h2⟩ := List.mem_flatMap.mp h
      split at h2
      · by_cases he : i = L - (m + 1)
        · have := xs_lv_below _ _ _ h2 i (by omega)
          rw [this, if_pos he]
          have := List.mem_range'_1.mp h1
          omega
        · exact ih _ _ h2 (by omega) i (by omega) hi2 hfr
      · cases h2
/-- one loaf held to one sleeper -/
def xs_ah (al : Nat → Nat → Bool) (hl ho : Option Nat) (l s : Nat) : Bool := al l s && (if hl = some l then decide (ho = none) || decide (ho = some s) else true)
theorem xs_ah_none (al : Nat → Nat → Bool) : xs_ah al none none = al := by
  funext l s
  unfold xs_ah
  rw [if_neg (fun h => by cases h), Bool.and_true]
theorem xs_lv_held {al : Nat → Nat → Bool} {fr : Nat → Bool} {S L k0 s0 : Nat} (hk : k0 < L) (hfr : fr k0 = false) {g : Nat → Nat} : ∀ m k f, m ≤ L → (g ∈ xs_lv (xs_ah al (some k0) (some s0)) fr S L m k f ↔ g ∈ xs_lv al fr S L m k f ∧ (L ≤ k0 + m → g k0 = s0)) := by
  intro m
  induction m with
  | zero => intro k f _; simp only [xs_lv]; constructor
            · intro h; exact ⟨h, fun h2 => by omega⟩
            · intro h; exact h.1
  | succ m ih =>
    intro k f hm
    simp only [xs_lv]
    by_cases hf : fr (L - (m + 1)) = true
    · have hne : k0 ≠ L - (m + 1) := fun e => by rw [← e, hfr] at hf; cases hf
      rw [if_pos hf, if_pos hf, ih k f (by omega)]
      constructor
      · rintro ⟨a, b⟩; exact ⟨a, fun h => b (by omega)⟩
      · rintro ⟨a, b⟩; exact ⟨a, fun h => b (by omega)⟩
    · rw [if_neg hf, if_neg hf, List.mem_flatMap, List.mem_flatMap]
      constructor
      · rintro ⟨s, h1, h2⟩
        split at h2
        next hc =>
          rw [Bool.and_eq_true] at hc
          obtain ⟨hc1, hc2⟩ := hc
          unfold xs_ah at hc1
          rw [Bool.and_eq_true] at hc1
          obtain ⟨a, b⟩ := (ih _ _ (by omega)).mp h2
          refine ⟨⟨s, h1, ?_⟩, fun h => ?_⟩
          · rw [if_pos (by rw [hc1.1, hc2]; rfl)]; exact a
          · by_cases he : k0 = L - (m + 1)
            · have hg := xs_lv_below _ _ _ a k0 (by omega)
              rw [if_pos he] at hg
              have h3 := hc1.2
              rw [if_pos (by rw [he])] at h3
              have h4 : s0 = s := by simpa using h3
              rw [hg, h4]
            · exact b (by omega)
        next => cases h2
      · rintro ⟨⟨s, h1, h2⟩, h3⟩
        split at h2
        next hc =>
          rw [Bool.and_eq_true] at hc
          refine ⟨s, h1, ?_⟩
          have hah : xs_ah al (some k0) (some s0) (L - (m + 1)) s = true := by
            unfold xs_ah
            rw [hc.1, Bool.true_and]
            by_cases he : k0 = L - (m + 1)
            · have hg := xs_lv_below _ _ _ h2 k0 (by omega)
              rw [if_pos he] at hg
              have h4 := h3 (by omega)
              rw [if_pos (by rw [he])]
              simp
              omega
            · rw [if_neg (fun e => he (Option.some.inj e))]
          rw [hah, hc.2]
          simp only [Bool.and_self, if_true]
          exact (ih _ _ (by omega)).mpr ⟨h2, fun h => h3 (by omega)⟩
        next => cases h2
/-! the class counts by sets -/
theorem xs_sum_at {f g : Nat → Nat} {T : Nat} (h : ∀ k, k ≠ T → f k = g k) : ∀ n, T < n → xs_sum f n + g T = xs_sum g n + f T := by
  intro n
  induction n with
  | zero => intro h; omega
  | succ n ih =>
    intro hT
    simp only [xs_sum]
    by_cases he : T = n
    · subst he
      have : xs_sum f T = xs_sum g T := xs_sum_cong (fun k hk => h k (by omega))
      omega
    · have := ih (by omega)
      have := h n (fun e => he e.symm)
      omega
theorem xs_ones_or {i s : Nat} (hs : s < 7) (h : i.testBit s = false) : xs_ones (i ||| 2 ^ s) = xs_ones i + 1 := by
  unfold xs_ones
  have := xs_sum_at (f := fun k => if (i ||| 2 ^ s).testBit k then 1 else 0) (g := fun k => if i.testBit k then 1 else 0) (T := s) (fun k hk => by
    rw [Nat.testBit_or, Nat.testBit_two_pow]
    have : decide (s = k) = false := by simp; omega
    rw [this, Bool.or_false]) 7 hs
  rw [h, Nat.testBit_or, Nat.testBit_two_pow] at this
  simp at this
  simpa using this
def xs_cs (i fr : Nat) (c : Nat → Nat) : Nat → Nat → Nat
  | 0 => c
  | s + 1 => if fr.testBit s then (fun T => if T = i ||| 2 ^ s then xs_cs i fr c s T + xs_cs i fr c s i else xs_cs i fr c s T) else xs_cs i fr c s
theorem xs_cs_cut {i fr : Nat} {c : Nat → Nat} {s : Nat} (h : ∀ j, s ≤ j → fr.testBit j = false) : ∀ n, s ≤ n → xs_cs i fr c n = xs_cs i fr c s := by
  intro n
  induction n with
  | zero => intro hn; rw [show s = 0 by omega]
  | succ n ih =>
    intro hn
    by_cases he : s = n + 1
    · rw [he]
    · simp only [xs_cs]
      rw [h n (by omega), if_neg (by decide), ih (by omega)]
def xs_ph (w0 w1 : Nat → Nat) (pl i : Nat) (c : Nat → Nat) : Nat := xs_sum (fun T => if xs_ones T = pl then (if i ≤ T then c T * w0 T else 0) else if xs_ones T = pl + 1 then c T * w1 T else 0) 64
theorem xs_or_ne {i s : Nat} (h : i.testBit s = false) : i ||| 2 ^ s ≠ i := fun e => by
  have : (i ||| 2 ^ s).testBit s = true := by rw [Nat.testBit_or, Nat.testBit_two_pow]; simp
  rw [e, h] at this; cases this
theorem xs_cs_ph {w0 w1 : Nat → Nat} {pl i fr : Nat} {c : Nat → Nat} (hi : i < 64) (hpl : xs_ones i = pl) (hfr : ∀ s, fr.testBit s = true → i.testBit s = false) (hz : ∀ T, pl + 1 < xs_ones T → c T = 0) : ∀ s, s ≤ 6 → xs_ph w0 w1 pl i (xs_cs i fr c s) = xs_ph w0 w1 pl i c + c i * xs_sum (fun s => if fr.testBit s then w1 (i ||| 2 ^ s) else 0) s ∧ xs_cs i fr c s i = c i ∧ ∀ T, pl + 1 < xs_ones T → xs_cs i fr c s T = 0 := by
  intro s
  induction s with
  | zero => intro _; exact ⟨by simp [xs_cs, xs_sum], rfl, hz⟩
  | succ s ih =>
    intro hs
    obtain ⟨h1, h2, h3⟩ := ih (by omega)
    simp only [xs_cs, xs_sum]
    cases hb : fr.testBit s with
    | false =>
      simp only [Bool.false_eq_true, if_false, Nat.add_zero]
      exact ⟨h1, h2, h3⟩
    | true =>
      simp only [if_true]
      have hib := hfr s hb
      have ho : xs_ones (i ||| 2 ^ s) = pl + 1 := by rw [xs_ones_or (by omega) hib, hpl]
      have hne := xs_or_ne hib
      have hT : i ||| 2 ^ s < 64 := xs_or_lt (n := 6) hi (xs_pow_lt (n := 6) (by omega))
      refine ⟨?_, ?_, fun T hT2 => ?_⟩
      · have key := xs_sum_at (f := fun T => if xs_ones T = pl then (if i ≤ T then (if T = i ||| 2 ^ s then xs_cs i fr c s T + xs_cs i fr c s i else xs_cs i fr c s T) * w0 T else 0) else if xs_ones T = pl + 1 then (if T = i ||| 2 ^ s then xs_cs i fr c s T + xs_cs i fr c s i else xs_cs i fr c s T) * w1 T else 0) (g := fun T => if xs_ones T = pl then (if i ≤ T then xs_cs i fr c s T * w0 T else 0) else if xs_ones T = pl + 1 then xs_cs i fr c s T * w1 T else 0) (T := i ||| 2 ^ s) (fun k hk => by simp only [if_neg hk]) 64 hT
        simp only [ho, if_neg (show ¬ pl + 1 = pl by omega), if_true] at key
        unfold xs_ph at h1 ⊢
        rw [Nat.mul_add, ← Nat.add_assoc, ← h1]
        rw [Nat.add_mul, h2] at key
        rw [h2]
        dsimp only
        omega
      · rw [if_neg (fun e => hne e.symm)]; exact h2
      · rw [if_neg (fun e => by rw [e] at hT2; omega)]; exact h3 T hT2
theorem xs_ph_next {w0 w1 : Nat → Nat} {pl i : Nat} {c : Nat → Nat} (hi : i < 64) : xs_ph w0 w1 pl (i + 1) c + (if xs_ones i = pl then c i * w0 i else 0) = xs_ph w0 w1 pl i c := by
  unfold xs_ph
  have key := xs_sum_at (f := fun T => if xs_ones T = pl then (if i + 1 ≤ T then c T * w0 T else 0) else if xs_ones T = pl + 1 then c T * w1 T else 0) (g := fun T => if xs_ones T = pl then (if i ≤ T then c T * w0 T else 0) else if xs_ones T = pl + 1 then c T * w1 T else 0) (T := i) (fun k hk => by
    by_cases h1 : i + 1 ≤ k
    · simp only [if_pos h1, if_pos (show i ≤ k by omega)]
    · simp only [if_neg h1, if_neg (show ¬ i ≤ k by omega)]) 64 hi
  by_cases ho : xs_ones i = pl
  · simp only [ho, if_true, if_neg (show ¬ i + 1 ≤ i by omega), if_pos (Nat.le_refl i)] at key ⊢
    omega
  · simp only [if_neg ho] at key ⊢
    omega
