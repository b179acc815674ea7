/-! truth values, bounds, options -/
def bI (b : Bool) : Int32 := if b then nI 1 else nI 0
theorem bI_t : bI true = nI 1 := rfl
theorem bI_f : bI false = nI 0 := rfl
theorem xp_b0 (b : Bool) : (bI b = nI 0) = (b = false) := by cases b <;> simp [bI, nI]
theorem xp_b1 (b : Bool) : (bI b = nI 1) = (b = true) := by cases b <;> simp [bI, nI]
theorem xp_zb {α : Type} {b : Bool} {k : Option α} : xr_zb (bI b) k = k := by cases b <;> rfl
def oB (o : Option Nat) (b : Nat) : Prop := ∀ n, o = some n → n < b
theorem xp_on {o : Option Nat} (h : oB o 1000) : (oI o = oI none) = (o = none) := propext (xp_oIn (fun n hn => Nat.lt_trans (h n hn) (by decide)))
theorem xp_oe {o : Option Nat} {k : Nat} (h : oB o 1000) (hk : k < 2 ^ 31) : (oI o = nI k) = (o = some k) := propext (xp_oIe (fun n hn => Nat.lt_trans (h n hn) (by decide)) hk)
theorem xp_nn {k : Nat} (hk : k < 2 ^ 31) : (nI k = oI none) = False := eq_false (xp_m1 k hk)
/-- a number below n, of a thing that there is -/
def xs_inr (a : Int32) (n : Nat) : Bool := decide (¬ (a < 0 ∨ nI n ≤ a))
theorem xs_inr_t {a : Int32} {n : Nat} (hn : n < 2 ^ 31) (h : xs_inr a n = true) : ∃ j, j < n ∧ a = nI j := by
  have h1 : ¬ (a < 0 ∨ nI n ≤ a) := by simpa [xs_inr] using h
  rcases pk_ix a hn with h2 | h2 | h2
  · exact absurd (Or.inl h2) h1
  · exact absurd (Or.inr h2) h1
  · exact h2
theorem xs_inr_n {j n : Nat} (hn : n < 2 ^ 31) (hj : j < n) : xs_inr (nI j) n = true := by
  have h1 : ¬ nI j < 0 := nI_pos (by omega)
  have h2 : ¬ nI n ≤ nI j := nI_ge hj hn
  simp [xs_inr, h1, h2]
theorem xe_hasDream {σ : xr_S} {a : Int32} {n : Nat} (h : σ.1 9 0 = nI n) : xf_X7_hasDream σ a = some (bI (xs_inr a n)) := by
  unfold xf_X7_hasDream xs_inr
  rw [h]
  by_cases h1 : a < 0
  · simp [h1, bI]; rfl
  · by_cases h2 : nI n ≤ a
    · simp [h1, h2, bI]; rfl
    · simp [h1, h2, bI]; rfl
theorem xe_hasSleeper {σ : xr_S} {a : Int32} {n : Nat} (h : σ.1 9 2 = nI n) : xf_X7_hasSleeper σ a = some (bI (xs_inr a n)) := by
  unfold xf_X7_hasSleeper xs_inr
  rw [h]
  by_cases h1 : a < 0
  · simp [h1, bI]; rfl
  · by_cases h2 : nI n ≤ a
    · simp [h1, h2, bI]; rfl
    · simp [h1, h2, bI]; rfl
theorem xe_hasLoaf {σ : xr_S} {a : Int32} {n : Nat} (h : σ.1 9 3 = nI n) : xf_X7_hasLoaf σ a = some (bI (xs_inr a n)) := by
  unfold xf_X7_hasLoaf xs_inr
  rw [h]
  by_cases h1 : a < 0
  · simp [h1, bI]; rfl
  · by_cases h2 : nI n ≤ a
    · simp [h1, h2, bI]; rfl
    · simp [h1, h2, bI]; rfl
theorem xe_in (σ : xr_S) (x y z : Int64) : xf_X11_in σ x y z = some (bI (decide (y ≤ x ∧ x ≤ z))) := by
  unfold xf_X11_in
  by_cases h1 : x < y
  · rw [if_pos ((lg_cmp_lt x y).mpr h1)]
    have : ¬ (y ≤ x ∧ x ≤ z) := fun h => by
      have a1 := Int64.lt_iff_toInt_lt.mp h1
      have a2 := Int64.le_iff_toInt_le.mp h.1
      omega
    simp [this, bI]; rfl
  · rw [if_neg (fun h => h1 ((lg_cmp_lt x y).mp h))]
    have hy : y ≤ x := by
      apply Int64.le_iff_toInt_le.mpr
      have : ¬ x.toInt < y.toInt := fun h => h1 (Int64.lt_iff_toInt_lt.mpr h)
      omega
    by_cases h2 : z < x
    · rw [if_pos ((lg_cmp_gt x z).mpr h2)]
      have : ¬ (y ≤ x ∧ x ≤ z) := fun h => by
        have a1 := Int64.lt_iff_toInt_lt.mp h2
        have a2 := Int64.le_iff_toInt_le.mp h.2
        omega
      simp [this, bI]; rfl
    · rw [if_neg (fun h => h2 ((lg_cmp_gt x z).mp h))]
      have hz : x ≤ z := by
        apply Int64.le_iff_toInt_le.mpr
        have : ¬ z.toInt < x.toInt := fun h => h2 (Int64.lt_iff_toInt_lt.mpr h)
        omega
      simp [hy, hz, bI]; rfl
theorem xp_wle (a b : Int32) : (a.toInt64 ≤ b.toInt64) = (a ≤ b) := propext (by rw [Int64.le_iff_toInt_le, Int32.le_iff_toInt_le, Int32.toInt_toInt64, Int32.toInt_toInt64])
theorem xe_inI (σ : xr_S) (x y z : Int32) : xf_X11_in σ x.toInt64 y.toInt64 z.toInt64 = some (bI (decide (y ≤ x ∧ x ≤ z))) := by
  rw [xe_in]
  simp only [xp_wle]
theorem xs_inr_iff {a : Int32} {n : Nat} (hn : n < 2 ^ 30) : (decide (0 ≤ a ∧ a ≤ nI n - 1)) = xs_inr a n := by
  unfold xs_inr
  apply decide_eq_decide.mpr
  have e1 : (nI n).toInt = n := nI_toInt (by omega)
  have e2 : (nI n - 1).toInt = (n : Int) - 1 := by
    have := pk_sub_toInt (a := n) (b := 1) hn (by decide)
    exact this
  rw [Int32.le_iff_toInt_le, Int32.le_iff_toInt_le, Int32.lt_iff_toInt_lt, Int32.le_iff_toInt_le, e1, e2]
  have e0 : (0 : Int32).toInt = 0 := by decide
  rw [e0]
  omega
theorem xe_isDream {σ : xr_S} {a : Int32} {n : Nat} (h : σ.1 49 2 = nI n) (hn : n < 2 ^ 30) : xf_X11_isDream σ a = some (bI (xs_inr a n)) := by
  unfold xf_X11_isDream
  rw [h]
  have := xe_inI σ a 0 (nI n - 1)
  rw [show (0 : Int32).toInt64 = 0 by decide] at this
  rw [this, xs_inr_iff hn]
  simp only [Option.bind_some, xp_zb]
theorem xe_isSleeper {σ : xr_S} {a : Int32} {n : Nat} (h : σ.1 49 4 = nI n) (hn : n < 2 ^ 30) : xf_X11_isSleeper σ a = some (bI (xs_inr a n)) := by
  unfold xf_X11_isSleeper
  rw [h]
  have := xe_inI σ a 0 (nI n - 1)
  rw [show (0 : Int32).toInt64 = 0 by decide] at this
  rw [this, xs_inr_iff hn]
  simp only [Option.bind_some, xp_zb]
theorem xe_isLoaf {σ : xr_S} {a : Int32} {n : Nat} (h : σ.1 49 5 = nI n) (hn : n < 2 ^ 30) : xf_X11_isLoaf σ a = some (bI (xs_inr a n)) := by
  unfold xf_X11_isLoaf
  rw [h]
  have := xe_inI σ a 0 (nI n - 1)
  rw [show (0 : Int32).toInt64 = 0 by decide] at this
  rw [this, xs_inr_iff hn]
  simp only [Option.bind_some, xp_zb]
/-! bits -/
theorem xp_bitb {a s : Nat} (ha : a < 2 ^ 31) (hs : s < 31) : (nI a >>> (nI s &&& nI 31)) &&& nI 1 = bI (a.testBit s) := by
  rw [xp_bit ha hs]
  cases a.testBit s <;> rfl
theorem xe_isAwake {σ : xr_S} {aw s : Nat} (h : σ.1 15 4 = nI aw) (ha : aw < 2 ^ 31) (hs : s < 31) : xf_X5_isAwake σ (nI s) = some (bI (aw.testBit s)) := by
  unfold xf_X5_isAwake
  simp only [h, xl_1, xl_31, xp_bitb ha hs, xp_b1]
  cases aw.testBit s <;> rfl
theorem xe_has (σ : xr_S) {a s : Nat} (ha : a < 2 ^ 31) (hs : s < 31) : xf_X11_has σ (nI a) (nI s) = some (bI (a.testBit s)) := by
  unfold xf_X11_has
  simp only [xl_1, xl_31, xp_bitb ha hs, xp_b1]
  cases a.testBit s <;> rfl
theorem xe_isAwakeM {σ : xr_S} {aw s : Nat} (h : σ.1 50 51 = nI aw) (ha : aw < 2 ^ 31) (hs : s < 31) : xf_X11_isAwake σ (nI s) = some (bI (aw.testBit s)) := by
  unfold xf_X11_isAwake
  simp (disch := omega) only [↓xp_n1, ↓reduceIte, xp_oIs, xp_v, xp_jn, xp_pf, xp_ld, xp_st, xp_le, xp_lt, xp_eq, nI_add, pk_mul, if_pos, if_neg, xp_same, xp_other, xp_us, xp_un, ne_eq, not_false_eq_true, Option.bind_some, Option.bind, xl_0, xl_1, xl_2, xl_3, xl_4, xl_5, xl_6, xl_7, xl_8, xl_9, xl_10, xl_11, xl_12, xl_13, xl_15, xl_16, xl_30, xl_31, xl_32, xl_37, xl_40, xl_44, xl_48, xl_50, xl_51, xl_52, xl_53, xl_54, xl_55, xl_57, xl_59, xl_63, xl_64, xl_99, xl_100, xl_108, xl_110, xl_115, xl_200, xl_201, xl_220, xl_240, xl_255, xl_512, xl_65536, xl_90000, xl_999999, xl_1000000, h, xe_has σ ha hs, xp_zb]
theorem xe_isFresh {σ : xr_S} {l : Nat} {o : Option Nat} (h : σ.1 19 l = oI o) (ho : oB o 1000) (hl : l < 7) : xf_X5_isFresh σ (nI l) = some (bI o.isNone) := by
  unfold xf_X5_isFresh
  simp (disch := omega) only [↓xp_n1, ↓reduceIte, xp_oIs, xp_v, xp_jn, xp_pf, xp_ld, xp_st, xp_le, xp_lt, xp_eq, nI_add, pk_mul, if_pos, if_neg, xp_same, xp_other, xp_us, xp_un, ne_eq, not_false_eq_true, Option.bind_some, Option.bind, xl_0, xl_1, xl_2, xl_3, xl_4, xl_5, xl_6, xl_7, xl_8, xl_9, xl_10, xl_11, xl_12, xl_13, xl_15, xl_16, xl_30, xl_31, xl_32, xl_37, xl_40, xl_44, xl_48, xl_50, xl_51, xl_52, xl_53, xl_54, xl_55, xl_57, xl_59, xl_63, xl_64, xl_99, xl_100, xl_108, xl_110, xl_115, xl_200, xl_201, xl_220, xl_240, xl_255, xl_512, xl_65536, xl_90000, xl_999999, xl_1000000, h, xp_on ho]
  cases o <;> rfl
theorem xe_isFreshM {σ : xr_S} {l : Nat} {o : Option Nat} (h : σ.1 50 (37 + l) = oI o) (ho : oB o 1000) (hl : l < 7) : xf_X11_isFresh σ (nI l) = some (bI o.isNone) := by
  unfold xf_X11_isFresh
  simp (disch := omega) only [↓xp_n1, ↓reduceIte, xp_oIs, xp_v, xp_jn, xp_pf, xp_ld, xp_st, xp_le, xp_lt, xp_eq, nI_add, pk_mul, if_pos, if_neg, xp_same, xp_other, xp_us, xp_un, ne_eq, not_false_eq_true, Option.bind_some, Option.bind, xl_0, xl_1, xl_2, xl_3, xl_4, xl_5, xl_6, xl_7, xl_8, xl_9, xl_10, xl_11, xl_12, xl_13, xl_15, xl_16, xl_30, xl_31, xl_32, xl_37, xl_40, xl_44, xl_48, xl_50, xl_51, xl_52, xl_53, xl_54, xl_55, xl_57, xl_59, xl_63, xl_64, xl_99, xl_100, xl_108, xl_110, xl_115, xl_200, xl_201, xl_220, xl_240, xl_255, xl_512, xl_65536, xl_90000, xl_999999, xl_1000000, h, xp_on ho]
  cases o <;> rfl
/-! the first, the last of those for which p -/
def xs_find (p : Nat → Bool) : Nat → Option Nat
  | 0 => none
  | n + 1 => match xs_find p n with
    | some k => some k
    | none => if p n then some n else none
theorem xs_find_none {p : Nat → Bool} : ∀ {n : Nat}, xs_find p n = none ↔ ∀ k, k < n → p k = false := by
  intro n
  induction n with
  | zero => simp [xs_find]
  | succ n ih =>
    simp only [xs_find]
    cases h : xs_find p n with
    | some k =>
      simp only [reduceCtorEq, false_iff]
      intro hall
      have : xs_find p n = none := ih.mpr (fun k hk => hall k (by omega))
      rw [h] at this; cases this
    | none =>
      have h1 := ih.mp h
      by_cases hp : p n = true
      · rw [if_pos hp]
        simp only [reduceCtorEq, false_iff]
        intro hall
        rw [hall n (by omega)] at hp; cases hp
      · rw [if_neg hp]
        simp only [true_iff]
        intro k hk
        by_cases hkn : k = n
        · subst hkn; simpa using hp
        · exact h1 k (by omega)
theorem xs_find_some {p : Nat → Bool} {k : Nat} : ∀ {n : Nat}, xs_find p n = some k ↔ k < n ∧ p k = true ∧ ∀ i, i < k → p i = false := by
  intro n
  induction n with
  | zero => simp [xs_find]
  | succ n ih =>
    simp only [xs_find]
    cases h : xs_find p n with
    | some j =>
      have hj := (fun (k : Nat) => (xs_find_none (p := p) (n := n)))
      simp only [Option.some.injEq]
      constructor
      · rintro rfl
        obtain ⟨a, b, c⟩ := ih.mp h
        exact ⟨by omega, b, c⟩
      · rintro ⟨a, b, c⟩
        have hj : xs_find p n = some k := by
          apply ih.mpr
          refine ⟨?_, b, c⟩
          rcases Nat.lt_or_ge k n with hh | hh
          · exact hh
          · exfalso
            have : xs_find p n = none := xs_find_none.mpr (fun i hi => c i (by omega))
            rw [h] at this; cases this
        rw [h] at hj
        exact Option.some.inj hj
    | none =>
      have h1 := xs_find_none.mp h
      by_cases hp : p n = true
      · rw [if_pos hp]
        simp only [Option.some.injEq]
        constructor
        · rintro rfl; exact ⟨by omega, hp, h1⟩
        · rintro ⟨a, b, c⟩
          rcases Nat.lt_or_ge k n with hh | hh
          · rw [h1 k hh] at b; cases b
          · omega
      · rw [if_neg hp]
        simp only [reduceCtorEq, false_iff]
        rintro ⟨a, b, c⟩
        rcases Nat.lt_or_ge k n with hh | hh
        · rw [h1 k hh] at b; cases b
        · rw [show k = n by omega] at b; exact hp b
def xs_last (p : Nat → Bool) : Nat → Option Nat
  | 0 => none
  | n + 1 => if p n then some n else xs_last p n
theorem xs_last_find {p : Nat → Bool} (hu : ∀ i j, p i = true → p j = true → i = j) : ∀ n, xs_last p n = xs_find p n := by
  intro n
  induction n with
  | zero => rfl
  | succ n ih =>
    simp only [xs_last, xs_find]
    by_cases hp : p n = true
    · rw [if_pos hp]
      cases h : xs_find p n with
      | none => simp [hp]
      | some k =>
        obtain ⟨a, b, -⟩ := xs_find_some.mp h
        have := hu k n b hp
        omega
    · rw [if_neg hp, ih]
      cases h : xs_find p n with
      | none => simp [hp]
      | some k => rfl
theorem xe_loafOn {σ : xr_S} {s : Nat} {pi : Nat → Option Nat} (h : ∀ l, l < 7 → σ.1 18 l = oI (pi l)) (hb : ∀ l, oB (pi l) 1000) (hs : s < 2 ^ 31) : xf_X5_loafOn σ (nI s) = some (oI (xs_find (fun l => decide (pi l = some s)) 7)) := by
  unfold xf_X5_loafOn
  refine xp_inv (Q := fun o => o = some (oI (xs_find (fun l => decide (pi l = some s)) 7))) (fun j t => t = nI j ∧ xs_find (fun l => decide (pi l = some s)) j = none) 7 (fun j t hj hI => ?_) (fun t hI => ?_) 0 _ (by omega) ⟨rfl, rfl⟩
  · obtain ⟨rfl, hn⟩ := hI
    by_cases hp : pi j = some s
    · left
      refine ⟨some (nI j), fun rec => ?_, ?_⟩
      · simp (disch := omega) only [xf_X5_loafOn_L2, ↓xp_n1, ↓reduceIte, xp_oIs, xp_v, xp_jn, xp_pf, xp_ld, xp_st, xp_le, xp_lt, xp_eq, nI_add, pk_mul, if_pos, if_neg, xp_same, xp_other, xp_us, xp_un, ne_eq, not_false_eq_true, Option.bind_some, Option.bind, xl_0, xl_1, xl_2, xl_3, xl_4, xl_5, xl_6, xl_7, xl_8, xl_9, xl_10, xl_11, xl_12, xl_13, xl_15, xl_16, xl_30, xl_31, xl_32, xl_37, xl_40, xl_44, xl_48, xl_50, xl_51, xl_52, xl_53, xl_54, xl_55, xl_57, xl_59, xl_63, xl_64, xl_99, xl_100, xl_108, xl_110, xl_115, xl_200, xl_201, xl_220, xl_240, xl_255, xl_512, xl_65536, xl_90000, xl_999999, xl_1000000, h j hj, xp_oe (hb j) hs, hp]
      · have : xs_find (fun l => decide (pi l = some s)) 7 = some j := xs_find_some.mpr ⟨hj, by simpa using hp, fun i hi => xs_find_none.mp hn i hi⟩
        rw [this]; rfl
    · right
      refine ⟨nI (j + 1), ⟨rfl, ?_⟩, fun rec => ?_⟩
      · simp [xs_find, hn, hp]
      · simp (disch := omega) only [xf_X5_loafOn_L2, ↓xp_n1, ↓reduceIte, xp_oIs, xp_v, xp_jn, xp_pf, xp_ld, xp_st, xp_le, xp_lt, xp_eq, nI_add, pk_mul, if_pos, if_neg, xp_same, xp_other, xp_us, xp_un, ne_eq, not_false_eq_true, Option.bind_some, Option.bind, xl_0, xl_1, xl_2, xl_3, xl_4, xl_5, xl_6, xl_7, xl_8, xl_9, xl_10, xl_11, xl_12, xl_13, xl_15, xl_16, xl_30, xl_31, xl_32, xl_37, xl_40, xl_44, xl_48, xl_50, xl_51, xl_52, xl_53, xl_54, xl_55, xl_57, xl_59, xl_63, xl_64, xl_99, xl_100, xl_108, xl_110, xl_115, xl_200, xl_201, xl_220, xl_240, xl_255, xl_512, xl_65536, xl_90000, xl_999999, xl_1000000, h j hj, xp_oe (hb j) hs, hp]
  · obtain ⟨rfl, hn⟩ := hI
    refine ⟨some (-1), fun rec => ?_, by rw [hn]; rfl⟩
    simp (disch := omega) only [xf_X5_loafOn_L2, ↓xp_n1, ↓reduceIte, xp_oIs, xp_v, xp_jn, xp_pf, xp_ld, xp_st, xp_le, xp_lt, xp_eq, nI_add, pk_mul, if_pos, if_neg, xp_same, xp_other, xp_us, xp_un, ne_eq, not_false_eq_true, Option.bind_some, Option.bind, xl_0, xl_1, xl_2, xl_3, xl_4, xl_5, xl_6, xl_7, xl_8, xl_9, xl_10, xl_11, xl_12, xl_13, xl_15, xl_16, xl_30, xl_31, xl_32, xl_37, xl_40, xl_44, xl_48, xl_50, xl_51, xl_52, xl_53, xl_54, xl_55, xl_57, xl_59, xl_63, xl_64, xl_99, xl_100, xl_108, xl_110, xl_115, xl_200, xl_201, xl_220, xl_240, xl_255, xl_512, xl_65536, xl_90000, xl_999999, xl_1000000]
theorem xe_onPillow {σ : xr_S} {s L : Nat} {pi : Nat → Option Nat} (hL : σ.1 49 5 = nI L) (hL7 : L ≤ 7) (h : ∀ l, l < 7 → σ.1 50 (30 + l) = oI (pi l)) (hb : ∀ l, oB (pi l) 1000) (hs : s < 2 ^ 31) : xf_X11_onPillow σ (nI s) = some (oI (xs_last (fun l => decide (pi l = some s)) L)) := by
  unfold xf_X11_onPillow
  refine xp_iter (fun k => (oI (xs_last (fun l => decide (pi l = some s)) k), nI k)) 0 L rfl (fun j h1 h2 rec => ?_) (fun rec => ?_)
  · simp (disch := omega) only [xf_X11_onPillow_L4, hL, ↓xp_n1, ↓reduceIte, xp_oIs, xp_v, xp_jn, xp_pf, xp_ld, xp_st, xp_le, xp_lt, xp_eq, nI_add, pk_mul, if_pos, if_neg, xp_same, xp_other, xp_us, xp_un, ne_eq, not_false_eq_true, Option.bind_some, Option.bind, xl_0, xl_1, xl_2, xl_3, xl_4, xl_5, xl_6, xl_7, xl_8, xl_9, xl_10, xl_11, xl_12, xl_13, xl_15, xl_16, xl_30, xl_31, xl_32, xl_37, xl_40, xl_44, xl_48, xl_50, xl_51, xl_52, xl_53, xl_54, xl_55, xl_57, xl_59, xl_63, xl_64, xl_99, xl_100, xl_108, xl_110, xl_115, xl_200, xl_201, xl_220, xl_240, xl_255, xl_512, xl_65536, xl_90000, xl_999999, xl_1000000, h j (by omega), xp_oe (hb j) hs, xs_last]
    by_cases hp : pi j = some s <;> simp [hp] <;> rfl
  · simp (disch := omega) only [xf_X11_onPillow_L4, hL, ↓xp_n1, ↓reduceIte, xp_oIs, xp_v, xp_jn, xp_pf, xp_ld, xp_st, xp_le, xp_lt, xp_eq, nI_add, pk_mul, if_pos, if_neg, xp_same, xp_other, xp_us, xp_un, ne_eq, not_false_eq_true, Option.bind_some, Option.bind, xl_0, xl_1, xl_2, xl_3, xl_4, xl_5, xl_6, xl_7, xl_8, xl_9, xl_10, xl_11, xl_12, xl_13, xl_15, xl_16, xl_30, xl_31, xl_32, xl_37, xl_40, xl_44, xl_48, xl_50, xl_51, xl_52, xl_53, xl_54, xl_55, xl_57, xl_59, xl_63, xl_64, xl_99, xl_100, xl_108, xl_110, xl_115, xl_200, xl_201, xl_220, xl_240, xl_255, xl_512, xl_65536, xl_90000, xl_999999, xl_1000000, Nat.zero_add]
theorem xe_setOf {σ : xr_S} {c : Nat} {f : Nat → Option Nat} (h : ∀ l, l < 7 → σ.1 c l = oI (f l)) (hb : ∀ l, oB (f l) 1000) : xf_X5_setOf σ c = some (nI (xs_bits (fun l => (f l).isSome) 7)) := by
  unfold xf_X5_setOf
  refine xp_iter (fun k => (nI (xs_bits (fun l => (f l).isSome) k), nI k)) 0 7 rfl (fun j h1 h2 rec => ?_) (fun rec => ?_)
  · simp (disch := omega) only [xf_X5_setOf_L4, ↓xp_n1, ↓reduceIte, xp_oIs, xp_v, xp_jn, xp_pf, xp_ld, xp_st, xp_le, xp_lt, xp_eq, nI_add, pk_mul, if_pos, if_neg, xp_same, xp_other, xp_us, xp_un, ne_eq, not_false_eq_true, Option.bind_some, Option.bind, xl_0, xl_1, xl_2, xl_3, xl_4, xl_5, xl_6, xl_7, xl_8, xl_9, xl_10, xl_11, xl_12, xl_13, xl_15, xl_16, xl_30, xl_31, xl_32, xl_37, xl_40, xl_44, xl_48, xl_50, xl_51, xl_52, xl_53, xl_54, xl_55, xl_57, xl_59, xl_63, xl_64, xl_99, xl_100, xl_108, xl_110, xl_115, xl_200, xl_201, xl_220, xl_240, xl_255, xl_512, xl_65536, xl_90000, xl_999999, xl_1000000, h j (by omega), xp_on (hb j), xs_bits, xp_shl1 j (by omega), xp_or]
    by_cases hj : f j = none
    · simp [hj]
    · have h3 : (f j).isSome = true := by cases hh : f j with
        | none => exact absurd hh hj
        | some d => rfl
      simp [hj, h3]
  · simp (disch := omega) only [xf_X5_setOf_L4, ↓xp_n1, ↓reduceIte, xp_oIs, xp_v, xp_jn, xp_pf, xp_ld, xp_st, xp_le, xp_lt, xp_eq, nI_add, pk_mul, if_pos, if_neg, xp_same, xp_other, xp_us, xp_un, ne_eq, not_false_eq_true, Option.bind_some, Option.bind, xl_0, xl_1, xl_2, xl_3, xl_4, xl_5, xl_6, xl_7, xl_8, xl_9, xl_10, xl_11, xl_12, xl_13, xl_15, xl_16, xl_30, xl_31, xl_32, xl_37, xl_40, xl_44, xl_48, xl_50, xl_51, xl_52, xl_53, xl_54, xl_55, xl_57, xl_59, xl_63, xl_64, xl_99, xl_100, xl_108, xl_110, xl_115, xl_200, xl_201, xl_220, xl_240, xl_255, xl_512, xl_65536, xl_90000, xl_999999, xl_1000000]
