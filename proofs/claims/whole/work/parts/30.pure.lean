/-! PURE ROWS: how the methods' functions are computed -/
theorem xp_iterN {S β : Type} {body : S → (S → Option β) → Option β} {v : Option β} (f : Nat → S) : ∀ (n k : Nat), (∀ j, k ≤ j → j < k + n → ∀ rec, body (f j) rec = rec (f (j + 1))) → (∀ rec, body (f (k + n)) rec = v) → ∀ m, xr_lp body (n + 1 + m) (f k) = v := by
  intro n
  induction n with
  | zero =>
    intro k _ he m
    rw [show 0 + 1 + m = m + 1 by omega]
    exact he _
  | succ n ih =>
    intro k hs he m
    rw [show n + 1 + 1 + m = (n + 1 + m) + 1 by omega]
    show body (f k) (xr_lp body (n + 1 + m)) = v
    rw [hs k (Nat.le_refl _) (by omega)]
    exact ih (k + 1) (fun j h1 h2 => hs j (by omega) (by omega)) (by rw [show k + 1 + n = k + (n + 1) by omega]; exact he) m
/-- a loop whose states are f k0, f (k0 + 1) .. f (k0 + n), where it ends with v -/
theorem xp_iter {S β : Type} {body : S → (S → Option β) → Option β} {v : Option β} {s : S} (f : Nat → S) (k0 n : Nat) (h0 : s = f k0) (hs : ∀ j, k0 ≤ j → j < k0 + n → ∀ rec, body (f j) rec = rec (f (j + 1))) (he : ∀ rec, body (f (k0 + n)) rec = v) : xr_lw body s = v := by
  subst h0
  refine xr_lw_eq (n + 1) (fun m hm => ?_)
  have := xp_iterN f n k0 hs he (m - (n + 1))
  rwa [show n + 1 + (m - (n + 1)) = m by omega] at this
theorem xp_ld {α : Type} {σ : xr_S} {c n j : Nat} {k : Int32 → Option α} (hj : j < n) (hn : n < 2 ^ 31) : xr_ld σ c n (nI j) k = k (σ.1 c j) := by
  have h1 : ¬ (nI j < 0 ∨ n ≤ (nI j).toNatClampNeg) := nI_in hj hn
  unfold xr_ld
  rw [if_neg h1, nI_clamp (by omega)]
theorem xp_st {α : Type} {σ : xr_S} {c n j : Nat} {x : Int32} {k : xr_S → Option α} (hj : j < n) (hn : n < 2 ^ 31) : xr_st σ c n (nI j) x k = k (xr_up σ c j x) := by
  have h1 : ¬ (nI j < 0 ∨ n ≤ (nI j).toNatClampNeg) := nI_in hj hn
  unfold xr_st
  rw [if_neg h1, nI_clamp (by omega)]
theorem xp_ll {α : Type} {σ : xr_S} {n j : Nat} {k : Int64 → Option α} (hj : j < n) (hn : n < 2 ^ 31) : xr_ll σ n (nI j) k = k (σ.2 j) := by
  have h1 : ¬ (nI j < 0 ∨ n ≤ (nI j).toNatClampNeg) := nI_in hj hn
  unfold xr_ll
  rw [if_neg h1, nI_clamp (by omega)]
theorem xp_sl {α : Type} {σ : xr_S} {n j : Nat} {x : Int64} {k : xr_S → Option α} (hj : j < n) (hn : n < 2 ^ 31) : xr_sl σ n (nI j) x k = k (xr_upL σ j x) := by
  have h1 : ¬ (nI j < 0 ∨ n ≤ (nI j).toNatClampNeg) := nI_in hj hn
  unfold xr_sl
  rw [if_neg h1, nI_clamp (by omega)]
theorem xp_lr {α : Type} {n j : Nat} {k : Nat → Option α} (hj : j < n) (hn : n < 2 ^ 31) : xr_lr n (nI j) k = k j := by
  have h1 : ¬ (nI j < 0 ∨ n ≤ (nI j).toNatClampNeg) := nI_in hj hn
  unfold xr_lr
  rw [if_neg h1, nI_clamp (by omega)]
theorem xp_v {α β : Type} (x : β) (k : β → Option α) : xr_v x k = k x := rfl
theorem xp_jn {α β : Type} (F : α → Option β) (G : (α → Option β) → Option β) : xr_jn F G = G F := rfl
theorem xp_pf {α : Type} (σ : xr_S) (c k : Nat) (v : Int32) (K : xr_S → Option α) : xr_pf σ c k v K = K (xr_up σ c k v) := rfl
theorem xp_nz {α : Type} {y : Int32} {k : Option α} (h : ¬ y = 0) : xr_nz y k = k := if_neg h
theorem xp_nl {α : Type} {y : Int64} {k : Option α} (h : ¬ y = 0) : xr_nl y k = k := if_neg h
theorem xp_zb0 {α : Type} {k : Option α} : xr_zb 0 k = k := if_pos (Or.inl rfl)
theorem xp_zb1 {α : Type} {k : Option α} : xr_zb 1 k = k := if_pos (Or.inr rfl)
theorem xp_same (σ : xr_S) (c k : Nat) (v : Int32) : (xr_up σ c k v).1 c = upd (σ.1 c) k v := by simp [xr_up, va_up]
theorem xp_other {σ : xr_S} {c c' k : Nat} {v : Int32} (h : c' ≠ c) : (xr_up σ c k v).1 c' = σ.1 c' := by simp [xr_up, va_up, h]
theorem xp_up2 (σ : xr_S) (c k : Nat) (v : Int32) : (xr_up σ c k v).2 = σ.2 := rfl
theorem xp_us (f : Nat → Int32) (k : Nat) (x : Int32) : upd f k x k = x := by simp [upd]
theorem xp_un {f : Nat → Int32} {k j : Nat} {x : Int32} (h : j ≠ k) : upd f k x j = f j := by simp [upd, h]
theorem xp_sameF (σ : xr_S) (c : Nat) (f : Nat → Int32) : (xr_upF σ c f).1 c = f := by simp [xr_upF, va_up]
theorem xp_otherF {σ : xr_S} {c c' : Nat} {f : Nat → Int32} (h : c' ≠ c) : (xr_upF σ c f).1 c' = σ.1 c' := by simp [xr_upF, va_up, h]
theorem xp_upF2 (σ : xr_S) (c : Nat) (f : Nat → Int32) : (xr_upF σ c f).2 = σ.2 := rfl
/-! numbers: an Int32 is nI n, or oI o (none is -1) -/
def oI (o : Option Nat) : Int32 := match o with
  | none => -1
  | some n => nI n
theorem xp_lit (n : Nat) : (OfNat.ofNat n : Int32) = nI n := rfl
theorem xp_n1 : (-1 : Int32) = oI none := rfl
theorem xp_oIs (n : Nat) : oI (some n) = nI n := rfl
theorem xp_m1 (j : Nat) (h : j < 2 ^ 31) : ¬ nI j = -1 := by
  intro e
  have h1 := congrArg Int32.toInt e
  rw [nI_toInt h] at h1
  have h2 : (-1 : Int32).toInt = -1 := by decide
  rw [h2] at h1
  omega
theorem xp_oIn {o : Option Nat} (h : ∀ n, o = some n → n < 2 ^ 31) : oI o = -1 ↔ o = none := by
  cases o with
  | none => simp [oI]
  | some n => simp [oI, xp_m1 n (h n rfl)]
theorem xp_oIe {o : Option Nat} {k : Nat} (h : ∀ n, o = some n → n < 2 ^ 31) (hk : k < 2 ^ 31) : oI o = nI k ↔ o = some k := by
  cases o with
  | none => simp only [oI]; constructor
            · intro e; exact absurd e.symm (xp_m1 k hk)
            · intro e; cases e
  | some n => simp only [oI, Option.some.injEq]; exact nI_eq (h n rfl) hk
theorem xp_ltz (n : Nat) (h : n < 2 ^ 31) : (nI n < 0) = False := eq_false (nI_pos h)
theorem xp_lez (n : Nat) (h : n < 2 ^ 31) : (0 ≤ nI n) = True := eq_true (nI_pos' h)
theorem xp_le {a b : Nat} (ha : a < 2 ^ 31) (hb : b < 2 ^ 31) : (nI a ≤ nI b) = (a ≤ b) := propext (nI_leI ha hb)
theorem xp_lt {a b : Nat} (ha : a < 2 ^ 31) (hb : b < 2 ^ 31) : (nI a < nI b) = (a < b) := propext (nI_ltI ha hb)
theorem xp_eq {a b : Nat} (ha : a < 2 ^ 31) (hb : b < 2 ^ 31) : (nI a = nI b) = (a = b) := propext (nI_eq ha hb)
theorem xp_or (a b : Nat) : nI a ||| nI b = nI (a ||| b) := by
  apply Int32.toBitVec_inj.mp
  rw [Int32.toBitVec_or]
  show BitVec.ofNat 32 a ||| BitVec.ofNat 32 b = BitVec.ofNat 32 (a ||| b)
  apply BitVec.eq_of_getLsbD_eq
  intro i hi
  simp [BitVec.getLsbD_ofNat, Nat.testBit_or, hi]
theorem xp_and (a b : Nat) : nI a &&& nI b = nI (a &&& b) := by
  apply Int32.toBitVec_inj.mp
  rw [Int32.toBitVec_and]
  show BitVec.ofNat 32 a &&& BitVec.ofNat 32 b = BitVec.ofNat 32 (a &&& b)
  apply BitVec.eq_of_getLsbD_eq
  intro i hi
  simp [BitVec.getLsbD_ofNat, Nat.testBit_and, hi]
theorem xp_shl1 : ∀ s, s < 31 → (nI 1 <<< (nI s &&& nI 31)) = nI (2 ^ s) := by decide +kernel
theorem xp_shr {a s : Nat} (ha : a < 2 ^ 31) (hs : s < 31) : (nI a >>> (nI s &&& nI 31)) = nI (a / 2 ^ s) := by
  have h1 : ((nI s &&& nI 31).toBitVec.smod 32).toNat = s := by
    have : ∀ s, s < 31 → ((nI s &&& nI 31).toBitVec.smod 32).toNat = s := by decide +kernel
    exact this s hs
  exact pk_shrN ha _ s h1
theorem xp_mod2 (a : Nat) : nI a &&& nI 1 = nI (a % 2) := by
  rw [xp_and, Nat.and_one_is_mod]
theorem xp_bit {a s : Nat} (ha : a < 2 ^ 31) (hs : s < 31) : (nI a >>> (nI s &&& nI 31)) &&& nI 1 = nI (if a.testBit s then 1 else 0) := by
  rw [xp_shr ha hs, xp_mod2, Nat.testBit_eq_decide_div_mod_eq]
  by_cases h : a / 2 ^ s % 2 = 1
  · simp [h]
  · simp only [h, decide_false]
    rw [show a / 2 ^ s % 2 = 0 by omega]; rfl
/-- a loop by an invariant: each turn ends with what is wanted, or goes on -/
theorem xp_inv {S β : Type} {body : S → (S → Option β) → Option β} {Q : Option β → Prop} (I : Nat → S → Prop) (n : Nat) (hs : ∀ (j : Nat) (s : S), j < n → I j s → (∃ v, (∀ rec, body s rec = v) ∧ Q v) ∨ ∃ s', I (j + 1) s' ∧ ∀ rec, body s rec = rec s') (he : ∀ s, I n s → ∃ v, (∀ rec, body s rec = v) ∧ Q v) (k : Nat) (s : S) (hk : k ≤ n) (h0 : I k s) : Q (xr_lw body s) := by
  have key : ∀ (d k : Nat) (s : S), k + d = n → I k s → ∃ v N, (∀ m, N ≤ m → xr_lp body m s = v) ∧ Q v := by
    intro d
    induction d with
    | zero =>
      intro k s hk hI
      obtain ⟨v, hv, hq⟩ := he s (by rw [← hk]; exact hI)
      refine ⟨v, 1, fun m hm => ?_, hq⟩
      obtain ⟨m, rfl⟩ : ∃ i, m = i + 1 := ⟨m - 1, by omega⟩
      exact hv _
    | succ d ih =>
      intro k s hk hI
      rcases hs k s (by omega) hI with ⟨v, hv, hq⟩ | ⟨s', hI', hb⟩
      · refine ⟨v, 1, fun m hm => ?_, hq⟩
        obtain ⟨m, rfl⟩ : ∃ i, m = i + 1 := ⟨m - 1, by omega⟩
        exact hv _
      · obtain ⟨v, N, hv, hq⟩ := ih (k + 1) s' (by omega) hI'
        refine ⟨v, N + 1, fun m hm => ?_, hq⟩
        obtain ⟨m, rfl⟩ : ∃ i, m = i + 1 := ⟨m - 1, by omega⟩
        show body s (xr_lp body m) = v
        rw [hb]
        exact hv m (by omega)
  obtain ⟨v, N, hv, hq⟩ := key (n - k) k s (by omega) h0
  rw [xr_lw_eq N hv]
  exact hq
/-- a loop by a measure that falls -/
theorem xp_meas {S β : Type} {body : S → (S → Option β) → Option β} {Q : Option β → Prop} (I : S → Prop) (μ : S → Nat) (hs : ∀ s, I s → (∃ v, (∀ rec, body s rec = v) ∧ Q v) ∨ ∃ s', I s' ∧ μ s' < μ s ∧ ∀ rec, body s rec = rec s') (s : S) (h0 : I s) : Q (xr_lw body s) := by
  have key : ∀ (d : Nat) (s : S), μ s < d → I s → ∃ v N, (∀ m, N ≤ m → xr_lp body m s = v) ∧ Q v := by
    intro d
    induction d with
    | zero => intro s h _; omega
    | succ d ih =>
      intro s hd hI
      rcases hs s hI with ⟨v, hv, hq⟩ | ⟨s', hI', hm, hb⟩
      · refine ⟨v, 1, fun m hm => ?_, hq⟩
        obtain ⟨m, rfl⟩ : ∃ i, m = i + 1 := ⟨m - 1, by omega⟩
        exact hv _
      · obtain ⟨v, N, hv, hq⟩ := ih s' (by omega) hI'
        refine ⟨v, N + 1, fun m hm => ?_, hq⟩
        obtain ⟨m, rfl⟩ : ∃ i, m = i + 1 := ⟨m - 1, by omega⟩
        show body s (xr_lp body m) = v
        rw [hb]
        exact hv m (by omega)
  obtain ⟨v, N, hv, hq⟩ := key (μ s + 1) s (by omega) h0
  rw [xr_lw_eq N hv]
  exact hq
/-- one turn of a loop, opened -/
theorem xp_open {S β : Type} {body : S → (S → Option β) → Option β} {s s' : S} (h : ∀ rec, body s rec = rec s') : xr_lw body s = xr_lw body s' := by
  have key : ∀ n, xr_lp body (n + 1) s = xr_lp body n s' := fun n => h _
  unfold xr_lw
  by_cases h1 : ∃ v N, ∀ n, N ≤ n → xr_lp body n s = v
  · obtain ⟨v, N, hv⟩ := h1
    have h2 : ∀ n, N ≤ n → xr_lp body n s' = v := fun n hn => by rw [← key]; exact hv _ (by omega)
    have e1 := xr_lw_eq N hv
    have e2 := xr_lw_eq N h2
    unfold xr_lw at e1 e2
    rw [e1, e2]
  · have h3 : ¬ ∃ v N, ∀ n, N ≤ n → xr_lp body n s' = v := by
      rintro ⟨v, N, hv⟩
      exact h1 ⟨v, N + 1, fun n hn => by
        obtain ⟨m, rfl⟩ : ∃ i, n = i + 1 := ⟨n - 1, by omega⟩
        rw [key]; exact hv m (by omega)⟩
    rw [dif_neg h1, dif_neg h3]
/-- a set without one of its members -/
def xs_clr (a s : Nat) : Nat := a ^^^ (a &&& 2 ^ s)
theorem xs_clr_bit (a s i : Nat) : (xs_clr a s).testBit i = (a.testBit i && !decide (s = i)) := by
  unfold xs_clr
  rw [Nat.testBit_xor, Nat.testBit_and, Nat.testBit_two_pow]
  cases a.testBit i <;> cases decide (s = i) <;> rfl
theorem xp_clr {a s : Nat} (hs : s < 31) : nI a &&& (nI (2 ^ s) ^^^ (-1)) = nI (xs_clr a s) := by
  apply Int32.toBitVec_inj.mp
  rw [Int32.toBitVec_and, Int32.toBitVec_xor]
  show BitVec.ofNat 32 a &&& (BitVec.ofNat 32 (2 ^ s) ^^^ BitVec.allOnes 32) = BitVec.ofNat 32 (xs_clr a s)
  apply BitVec.eq_of_getLsbD_eq
  intro i hi
  rw [BitVec.getLsbD_and, BitVec.getLsbD_xor, BitVec.getLsbD_ofNat, BitVec.getLsbD_ofNat, BitVec.getLsbD_ofNat, BitVec.getLsbD_allOnes, Nat.testBit_two_pow, xs_clr_bit]
  simp [hi]
theorem xs_lt_of_bits {a n : Nat} (h : ∀ i, n ≤ i → a.testBit i = false) : a < 2 ^ n := Nat.lt_pow_two_of_testBit a (fun i hi => h i hi)
theorem xs_bit_lt {a n i : Nat} (h : a < 2 ^ n) (hi : n ≤ i) : a.testBit i = false := Nat.testBit_lt_two_pow (Nat.lt_of_lt_of_le h (Nat.pow_le_pow_right (by decide) hi))
theorem xs_or_lt {a b n : Nat} (ha : a < 2 ^ n) (hb : b < 2 ^ n) : a ||| b < 2 ^ n := Nat.or_lt_two_pow ha hb
theorem xs_clr_lt {a s n : Nat} (ha : a < 2 ^ n) : xs_clr a s < 2 ^ n := xs_lt_of_bits (fun i hi => by rw [xs_clr_bit, xs_bit_lt ha hi]; rfl)
theorem xs_pow_lt {s n : Nat} (h : s < n) : 2 ^ s < 2 ^ n := Nat.pow_lt_pow_right (by decide) h
/-- the set of those below n for which p -/
def xs_bits (p : Nat → Bool) : Nat → Nat
  | 0 => 0
  | n + 1 => if p n then xs_bits p n ||| 2 ^ n else xs_bits p n
theorem xs_bits_bit (p : Nat → Bool) : ∀ n i, (xs_bits p n).testBit i = (decide (i < n) && p i) := by
  intro n
  induction n with
  | zero => intro i; simp [xs_bits]
  | succ n ih =>
    intro i
    simp only [xs_bits]
    by_cases hp : p n = true
    · rw [if_pos hp, Nat.testBit_or, ih, Nat.testBit_two_pow]
      by_cases h1 : n = i
      · subst h1; simp [hp]
      · have : decide (i < n + 1) = decide (i < n) := by by_cases h2 : i < n <;> simp [h2] <;> omega
        simp [h1, this]
    · rw [if_neg hp, ih]
      by_cases h1 : n = i
      · subst h1; simp [hp]
      · have : decide (i < n + 1) = decide (i < n) := by by_cases h2 : i < n <;> simp [h2] <;> omega
        rw [this]
theorem xs_bits_lt (p : Nat → Bool) (n : Nat) : xs_bits p n < 2 ^ n := xs_lt_of_bits (fun i hi => by rw [xs_bits_bit]; simp; omega)
theorem xs_bits_cut {p : Nat → Bool} {n m : Nat} (hnm : n ≤ m) (h : ∀ k, n ≤ k → p k = false) : xs_bits p m = xs_bits p n := by
  apply Nat.eq_of_testBit_eq
  intro i
  rw [xs_bits_bit, xs_bits_bit]
  by_cases hi : i < n
  · simp [hi, Nat.lt_of_lt_of_le hi hnm]
  · rw [h i (by omega)]; simp
theorem xs_bits_cong {p q : Nat → Bool} {n : Nat} (h : ∀ k, k < n → p k = q k) : xs_bits p n = xs_bits q n := by
  apply Nat.eq_of_testBit_eq
  intro i
  rw [xs_bits_bit, xs_bits_bit]
  by_cases hi : i < n
  · rw [h i hi]
  · simp [hi]

theorem xl_0 : (0 : Int32) = nI 0 := rfl
theorem xl_1 : (1 : Int32) = nI 1 := rfl
theorem xl_2 : (2 : Int32) = nI 2 := rfl
theorem xl_3 : (3 : Int32) = nI 3 := rfl
theorem xl_4 : (4 : Int32) = nI 4 := rfl
theorem xl_5 : (5 : Int32) = nI 5 := rfl
theorem xl_6 : (6 : Int32) = nI 6 := rfl
theorem xl_7 : (7 : Int32) = nI 7 := rfl
theorem xl_8 : (8 : Int32) = nI 8 := rfl
theorem xl_9 : (9 : Int32) = nI 9 := rfl
theorem xl_10 : (10 : Int32) = nI 10 := rfl
theorem xl_11 : (11 : Int32) = nI 11 := rfl
theorem xl_12 : (12 : Int32) = nI 12 := rfl
theorem xl_13 : (13 : Int32) = nI 13 := rfl
theorem xl_15 : (15 : Int32) = nI 15 := rfl
theorem xl_16 : (16 : Int32) = nI 16 := rfl
theorem xl_30 : (30 : Int32) = nI 30 := rfl
theorem xl_31 : (31 : Int32) = nI 31 := rfl
theorem xl_32 : (32 : Int32) = nI 32 := rfl
theorem xl_37 : (37 : Int32) = nI 37 := rfl
theorem xl_40 : (40 : Int32) = nI 40 := rfl
theorem xl_44 : (44 : Int32) = nI 44 := rfl
theorem xl_48 : (48 : Int32) = nI 48 := rfl
theorem xl_50 : (50 : Int32) = nI 50 := rfl
theorem xl_51 : (51 : Int32) = nI 51 := rfl
theorem xl_52 : (52 : Int32) = nI 52 := rfl
theorem xl_53 : (53 : Int32) = nI 53 := rfl
theorem xl_54 : (54 : Int32) = nI 54 := rfl
theorem xl_55 : (55 : Int32) = nI 55 := rfl
theorem xl_57 : (57 : Int32) = nI 57 := rfl
theorem xl_59 : (59 : Int32) = nI 59 := rfl
theorem xl_63 : (63 : Int32) = nI 63 := rfl
theorem xl_64 : (64 : Int32) = nI 64 := rfl
theorem xl_99 : (99 : Int32) = nI 99 := rfl
theorem xl_100 : (100 : Int32) = nI 100 := rfl
theorem xl_108 : (108 : Int32) = nI 108 := rfl
theorem xl_110 : (110 : Int32) = nI 110 := rfl
theorem xl_115 : (115 : Int32) = nI 115 := rfl
theorem xl_200 : (200 : Int32) = nI 200 := rfl
theorem xl_201 : (201 : Int32) = nI 201 := rfl
theorem xl_220 : (220 : Int32) = nI 220 := rfl
theorem xl_240 : (240 : Int32) = nI 240 := rfl
theorem xl_255 : (255 : Int32) = nI 255 := rfl
theorem xl_512 : (512 : Int32) = nI 512 := rfl
theorem xl_65536 : (65536 : Int32) = nI 65536 := rfl
theorem xl_90000 : (90000 : Int32) = nI 90000 := rfl
theorem xl_999999 : (999999 : Int32) = nI 999999 := rfl
theorem xl_1000000 : (1000000 : Int32) = nI 1000000 := rfl
