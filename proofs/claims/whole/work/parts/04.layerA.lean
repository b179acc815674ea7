/-- the tables' words that hold at every later state too -/
def xr_tb : List Cond := lw_tbl.filter goodWord
theorem xr_in {w : Cond} (i : Nat) (h : lw_tbl[i]? = some w) (hg : goodWord w = true) : w ∈ xr_tb := List.mem_filter.mpr ⟨List.mem_of_getElem? h, hg⟩
/-! THE WORLD: 68 cells (class 0 .. 48, reference 49 .. 67), their shape fixed; a state is what the ints of the cells are (and one row of longs) -/
abbrev xr_Sh : Type := (Nat × Nat) ⊕ (Nat × List (Option Nat))
abbrev xr_S : Type := (Nat → Nat → Int32) × (Nat → Int64)
def xr_img (j : Nat) : Nat := if j = 0 then 21 else 26
def xr_fv (ad : Nat → Nat) (σ : xr_S) (c k : Nat) (o : Option Nat) : Value := match o with
  | none => .int (σ.1 c k)
  | some q => .ref (ad q)
def xr_fs (ad : Nat → Nat) (σ : xr_S) (c : Nat) : Nat → List (Option Nat) → List Value
  | _, [] => []
  | k, o :: os => xr_fv ad σ c k o :: xr_fs ad σ c (k + 1) os
def xr_en (ad : Nat → Nat) (ca : Nat → ClassId) (σ : xr_S) (c : Nat) (h : xr_Sh) : va_E := match h with
  | .inl (0, n) => .inl (ca c, n, .inl (σ.1 c))
  | .inl (1, n) => .inl (ca c, n, .inl (σ.1 c))
  | .inl (2, n) => .inl (ca c, n, .inr (.inl σ.2))
  | .inl (_, n) => .inl (ca c, n, .inr (.inr (.inr (.inr (fun j => some (ad (xr_img j)))))))
  | .inr (ci, fl) => .inr (ci, xr_fs ad σ c 0 fl)
def xr_wl (ad : Nat → Nat) (ca : Nat → ClassId) (σ : xr_S) : Nat → List xr_Sh → va_W
  | _, [] => []
  | c, h :: hs => (ad c, xr_en ad ca σ c h) :: xr_wl ad ca σ (c + 1) hs

def xr_sh : List xr_Sh := [
  .inr (10, [some 1, some 9, some 15, some 20, some 31, some 35, some 39, some 41, some 43, some 45, none, none]),
  .inr (6, [none, none, some 3, some 2, none, none, none, none]),
  .inl (0, 240),
  .inr (7, [none, none, none, none, none, some 4, some 6, some 7, some 8]),
  .inr (9, [some 5]),
  .inl (0, 30),
  .inl (0, 7),
  .inl (0, 7),
  .inl (0, 7),
  .inr (7, [none, none, none, none, none, some 10, some 12, some 13, some 14]),
  .inr (9, [some 11]),
  .inl (0, 30),
  .inl (0, 7),
  .inl (0, 7),
  .inl (0, 7),
  .inr (5, [some 16, some 18, some 19, none, none, none, none, none]),
  .inr (9, [some 17]),
  .inl (0, 30),
  .inl (0, 7),
  .inl (0, 7),
  .inl (3, 2),
  .inr (5, [some 22, some 24, some 25, none, none, none, none, none]),
  .inr (9, [some 23]),
  .inl (0, 30),
  .inl (0, 7),
  .inl (0, 7),
  .inr (5, [some 27, some 29, some 30, none, none, none, none, none]),
  .inr (9, [some 28]),
  .inl (0, 30),
  .inl (0, 7),
  .inl (0, 7),
  .inr (0, [none, none, some 32, some 33, some 34]),
  .inl (0, 7),
  .inl (0, 6),
  .inl (0, 512),
  .inr (4, [some 36, some 38]),
  .inr (9, [some 37]),
  .inl (0, 30),
  .inl (0, 7),
  .inr (1, [none, some 40]),
  .inl (0, 8),
  .inr (3, [some 42]),
  .inl (0, 64),
  .inr (8, [some 44]),
  .inl (0, 8),
  .inr (2, [none, some 46, some 47, some 48]),
  .inl (0, 15),
  .inl (0, 15),
  .inl (0, 15),
  .inr (11, [some 50, some 51, none, none, none, none, none, some 52, some 53, some 54, some 55, none, none, none, none, none, none, none, none, none, none, none, none, some 56, some 57, some 58, some 59, some 60, none, some 61, some 62, some 63, some 64, none, some 65, some 66, some 67]),
  .inl (0, 220),
  .inl (1, 2),
  .inl (0, 7),
  .inl (0, 7),
  .inl (0, 7),
  .inl (0, 240),
  .inl (0, 30),
  .inl (0, 21),
  .inl (0, 512),
  .inl (0, 7),
  .inl (0, 7),
  .inl (0, 8),
  .inl (0, 7),
  .inl (0, 7),
  .inl (2, 8),
  .inl (0, 15),
  .inl (0, 15),
  .inl (0, 15)]

def xr_w (ad : Nat → Nat) (ca : Nat → ClassId) (σ : xr_S) : va_W := xr_wl ad ca σ 0 xr_sh
theorem xr_wl_at {ad : Nat → Nat} {ca : Nat → ClassId} {σ : xr_S} (hs : List xr_Sh) : ∀ (c i : Nat), (xr_wl ad ca σ c hs)[i]? = hs[i]?.map (fun h => (ad (c + i), xr_en ad ca σ (c + i) h)) := by
  induction hs with
  | nil => intro c i; simp [xr_wl]
  | cons h t ih =>
    intro c i
    cases i with
    | zero => simp [xr_wl]
    | succ i => simp only [xr_wl, List.getElem?_cons_succ, ih]; rw [show c + 1 + i = c + (i + 1) by omega]
theorem xr_w_at {ad : Nat → Nat} {ca : Nat → ClassId} {σ : xr_S} (i : Nat) : (xr_w ad ca σ)[i]? = xr_sh[i]?.map (fun h => (ad i, xr_en ad ca σ i h)) := by
  unfold xr_w; rw [xr_wl_at]; simp
theorem xr_w_is {ad : Nat → Nat} {ca : Nat → ClassId} {σ : xr_S} {i : Nat} {h : xr_Sh} (hi : xr_sh[i]? = some h) : (xr_w ad ca σ)[i]? = some (ad i, xr_en ad ca σ i h) := by
  rw [xr_w_at, hi]; rfl
theorem xr_fs_at {ad : Nat → Nat} {σ : xr_S} {c : Nat} (os : List (Option Nat)) : ∀ (k i : Nat), (xr_fs ad σ c k os)[i]? = os[i]?.map (fun o => xr_fv ad σ c (k + i) o) := by
  induction os with
  | nil => intro k i; simp [xr_fs]
  | cons h t ih =>
    intro k i
    cases i with
    | zero => simp [xr_fs]
    | succ i => simp only [xr_fs, List.getElem?_cons_succ, ih]; rw [show k + 1 + i = k + (i + 1) by omega]
theorem xr_sh_lt {c : Nat} {h : xr_Sh} (hc : xr_sh[c]? = some h) : c < 68 := by
  have := (List.getElem?_eq_some_iff.mp hc).1
  exact this
/-- a cell's ints are written anew -/
def xr_up (σ : xr_S) (c k : Nat) (v : Int32) : xr_S := (va_up σ.1 c (upd (σ.1 c) k v), σ.2)
def xr_upF (σ : xr_S) (c : Nat) (f : Nat → Int32) : xr_S := (va_up σ.1 c f, σ.2)
def xr_upL (σ : xr_S) (k : Nat) (v : Int64) : xr_S := (σ.1, vp_updL σ.2 k v)
theorem xr_fs_ext {ad : Nat → Nat} {σ τ : xr_S} {c : Nat} (h : σ.1 c = τ.1 c) (os : List (Option Nat)) : ∀ k, xr_fs ad σ c k os = xr_fs ad τ c k os := by
  induction os with
  | nil => intro k; rfl
  | cons o t ih =>
    intro k
    simp only [xr_fs, ih]
    congr 1
    cases o <;> simp [xr_fv, h]
theorem xr_en_ext {ad : Nat → Nat} {ca : Nat → ClassId} {σ τ : xr_S} {c : Nat} (h : σ.1 c = τ.1 c) (h2 : σ.2 = τ.2) (e : xr_Sh) : xr_en ad ca σ c e = xr_en ad ca τ c e := by
  rcases e with ⟨k, n⟩ | ⟨ci, fl⟩
  · match k with
    | 0 => simp [xr_en, h]
    | 1 => simp [xr_en, h]
    | 2 => simp [xr_en, h2]
    | k + 3 => simp [xr_en]
  · simp only [xr_en, xr_fs_ext h]
theorem xr_set {ad : Nat → Nat} {ca : Nat → ClassId} {σ : xr_S} {c : Nat} {h : xr_Sh} (f : Nat → Int32) {E : va_E} (hc : xr_sh[c]? = some h) (hE : E = xr_en ad ca (xr_upF σ c f) c h) : (xr_w ad ca σ).set c (ad c, E) = xr_w ad ca (xr_upF σ c f) := by
  apply List.ext_getElem?
  intro i
  rw [List.getElem?_set]
  by_cases hi : c = i
  · subst hi
    have hl : c < (xr_w ad ca σ).length := (List.getElem?_eq_some_iff.mp (xr_w_is (ad := ad) (ca := ca) (σ := σ) hc)).1
    rw [if_pos rfl, if_pos hl, xr_w_is hc, hE]
  · rw [if_neg hi, xr_w_at, xr_w_at]
    cases xr_sh[i]? with
    | none => rfl
    | some e =>
      have h1 : xr_en ad ca σ i e = xr_en ad ca (xr_upF σ c f) i e := xr_en_ext (σ := σ) (τ := xr_upF σ c f) (c := i) (by simp [xr_upF, va_up, Ne.symm hi]) rfl e
      show some (ad i, xr_en ad ca σ i e) = some (ad i, xr_en ad ca (xr_upF σ c f) i e)
      rw [h1]
theorem xr_setL {ad : Nat → Nat} {ca : Nat → ClassId} {σ : xr_S} {c n : Nat} (f : Nat → Int64) (hc : xr_sh[c]? = some (.inl (2, n))) (h1 : ∀ i m, xr_sh[i]? = some (.inl (2, m)) → i = c) : (xr_w ad ca σ).set c (ad c, .inl (ca c, n, .inr (.inl f))) = xr_w ad ca (σ.1, f) := by
  apply List.ext_getElem?
  intro i
  rw [List.getElem?_set]
  by_cases hi : c = i
  · subst hi
    have hl : c < (xr_w ad ca σ).length := (List.getElem?_eq_some_iff.mp (xr_w_is (ad := ad) (ca := ca) (σ := σ) hc)).1
    rw [if_pos rfl, if_pos hl, xr_w_is hc]
    rfl
  · rw [if_neg hi, xr_w_at, xr_w_at]
    cases he : xr_sh[i]? with
    | none => rfl
    | some e =>
      simp only [Option.map_some]
      rcases e with ⟨k, m⟩ | ⟨ci, fl⟩
      · match k with
        | 0 => rfl
        | 1 => rfl
        | 2 => exact absurd (h1 i m he).symm hi
        | k + 3 => rfl
      · have h2 : xr_fs ad σ i 0 fl = xr_fs ad (σ.1, f) i 0 fl := xr_fs_ext (σ := σ) (τ := (σ.1, f)) (c := i) rfl fl 0
        simp only [xr_en]
        rw [h2]
def xr_ty (k : Nat) : FieldType := match k with
  | 0 => .int
  | 1 => .boolean
  | 2 => .long
  | _ => .object "SleptBread$State"
def xr_K (D : va_G) (ca : Nat → ClassId) (U : State) : Prop := va_K D vwCl [] U ∧ ∀ c k n : Nat, xr_sh[c]? = some (.inl (k, n)) → ArrOfT U (ca c) (xr_ty k) ∧ va_RA U (ca c) (xr_ty k)
theorem xr_K.moved {D : va_G} {ca : Nat → ClassId} {u U : State} (hvm : u.vm.Alike U.vm) (h : xr_K D ca u) : xr_K D ca U := ⟨va_K.moved hvm h.1, fun c k n hc => ⟨arrOfT_moved hvm (h.2 c k n hc).1, (h.2 c k n hc).2.moved hvm⟩⟩
theorem xr_K.one {D : va_G} {ca : Nat → ClassId} {U : State} (h : xr_K D ca U) {c k n : Nat} (hc : xr_sh[c]? = some (.inl (k, n))) : va_K D vwCl [(ca c, xr_ty k)] U := ⟨h.1.1, fun i q hq => by
  cases i with
  | zero => cases hq; exact h.2 c k n hc
  | succ i => simp at hq⟩
theorem xr_K.two {D : va_G} {ca : Nat → ClassId} {U : State} (h : xr_K D ca U) {c c2 k n n2 : Nat} (hc : xr_sh[c]? = some (.inl (k, n))) (hc2 : xr_sh[c2]? = some (.inl (k, n2))) : va_K D vwCl [(ca c, xr_ty k), (ca c2, xr_ty k)] U := ⟨h.1.1, fun i q hq => by
  match i, hq with
  | 0, hq => cases hq; exact h.2 c k n hc
  | 1, hq => cases hq; exact h.2 c2 k n2 hc2
  | i + 2, hq => simp at hq⟩
def xr_D (ad : Nat → Nat) : Prop := ∀ i j : Nat, i < 68 → j < 68 → ad i = ad j → i = j
def xr_A (ad : Nat → Nat) : Nat → Prop := fun q => ∃ i : Nat, i < 68 ∧ q = ad i
theorem xr_vD {ad : Nat → Nat} {ca : Nat → ClassId} {A : Nat → Prop} (σ : xr_S) (hd : xr_D ad) (hA : ∀ i : Nat, i < 68 → A (ad i)) : va_D A (xr_w ad ca σ) := by
  have key : ∀ (k : Nat) (q : Nat × va_E), (xr_w ad ca σ)[k]? = some q → k < 68 ∧ q.1 = ad k := by
    intro k q h
    rw [xr_w_at] at h
    cases he : xr_sh[k]? with
    | none => rw [he] at h; cases h
    | some e => rw [he] at h; cases h; exact ⟨xr_sh_lt he, rfl⟩
  refine ⟨fun i j p q hi hj hpq => ?_, fun k q hk => ?_⟩
  · obtain ⟨a1, a2⟩ := key i p hi
    obtain ⟨b1, b2⟩ := key j q hj
    exact hd i j a1 b1 (by rw [← a2, ← b2, hpq])
  · obtain ⟨a1, a2⟩ := key k q hk
    rw [a2]; exact hA k a1
/-! LOCALS: a place is a value, or nothing is known of it -/
def xr_as : Nat → List (Option Value) → List (Nat × Value)
  | _, [] => []
  | i, none :: r => xr_as (i + 1) r
  | i, some v :: r => (i, v) :: xr_as (i + 1) r
theorem xr_as_mem (lv : List (Option Value)) : ∀ (k j : Nat) (v : Value), (j, v) ∈ xr_as k lv ↔ k ≤ j ∧ lv[j - k]? = some (some v) := by
  induction lv with
  | nil => intro k j v; simp [xr_as]
  | cons x t ih =>
    intro k j v
    have hs : k + 1 ≤ j → j - k = (j - (k + 1)) + 1 := fun h => by omega
    cases x with
    | none =>
      simp only [xr_as, ih]
      constructor
      · rintro ⟨h1, h2⟩
        exact ⟨by omega, by rw [hs h1, List.getElem?_cons_succ]; exact h2⟩
      · rintro ⟨h1, h2⟩
        rcases Nat.eq_or_lt_of_le h1 with h | h
        · subst h; simp at h2
        · exact ⟨h, by rw [hs h, List.getElem?_cons_succ] at h2; exact h2⟩
    | some y =>
      simp only [xr_as, List.mem_cons, ih, Prod.mk.injEq]
      constructor
      · rintro (⟨rfl, rfl⟩ | ⟨h1, h2⟩)
        · simp
        · exact ⟨by omega, by rw [hs h1, List.getElem?_cons_succ]; exact h2⟩
      · rintro ⟨h1, h2⟩
        rcases Nat.eq_or_lt_of_le h1 with h | h
        · subst h; left; simp at h2; exact ⟨rfl, h2.symm⟩
        · right; exact ⟨h, by rw [hs h, List.getElem?_cons_succ] at h2; exact h2⟩
def xr_lv (ls : Array Slot) (nL : Nat) (lv : List (Option Value)) : Prop := lv_has ls nL (xr_as 0 lv)
theorem xr_lv.at {ls : Array Slot} {nL : Nat} {lv : List (Option Value)} (h : xr_lv ls nL lv) {i : Nat} {v : Value} (hi : lv[i]? = some (some v)) : ls[i]? = some (.val v) :=
  h.2.2 (i, v) ((xr_as_mem lv 0 i v).mpr ⟨Nat.zero_le _, hi⟩)
def xr_c2 (x : Option Value) : Option Value := match x with
  | some (.long _) => none
  | some (.double _) => none
  | y => y
def xr_s1 : List (Option Value) → Nat → Value → List (Option Value)
  | [], _, _ => []
  | _ :: r, 0, v => some v :: r
  | x :: r, 1, v => xr_c2 x :: xr_s1 r 0 v
  | x :: r, i + 2, v => x :: xr_s1 r (i + 1) v
def xr_s2 (lv : List (Option Value)) (i : Nat) (v : Value) : List (Option Value) := (xr_s1 lv i v).set (i + 1) none
theorem xr_c2_is {x : Option Value} {u : Value} (h : xr_c2 x = some u) : x = some u ∧ ¬ u.category = 2 := by
  rcases x with _ | u'
  · cases h
  · cases u' <;> simp [xr_c2] at h <;> subst h <;> simp [Value.category]
theorem xr_s1_at (lv : List (Option Value)) : ∀ (i : Nat) (v : Value) (j : Nat) (u : Value), (xr_s1 lv i v)[j]? = some (some u) → (j = i ∧ u = v) ∨ (j ≠ i ∧ lv[j]? = some (some u) ∧ ¬ (j + 1 = i ∧ u.category = 2)) := by
  induction lv with
  | nil => intro i v j u h; simp [xr_s1] at h
  | cons x t ih =>
    intro i v j u h
    match i, j with
    | 0, 0 => simp [xr_s1] at h; exact Or.inl ⟨rfl, h.symm⟩
    | 0, j + 1 => simp [xr_s1] at h; exact Or.inr ⟨by omega, by simpa using h, by omega⟩
    | 1, 0 =>
      simp [xr_s1] at h
      obtain ⟨h1, h2⟩ := xr_c2_is h
      exact Or.inr ⟨by omega, by simp [h1], fun q => h2 q.2⟩
    | 1, j + 1 =>
      simp only [xr_s1, List.getElem?_cons_succ] at h
      rcases ih 0 v j u h with ⟨h1, h2⟩ | ⟨h1, h2, h3⟩
      · exact Or.inl ⟨by omega, h2⟩
      · exact Or.inr ⟨by omega, by simpa using h2, by omega⟩
    | i + 2, 0 => simp [xr_s1] at h; exact Or.inr ⟨by omega, by simp [h], by omega⟩
    | i + 2, j + 1 =>
      simp only [xr_s1, List.getElem?_cons_succ] at h
      rcases ih (i + 1) v j u h with ⟨h1, h2⟩ | ⟨h1, h2, h3⟩
      · exact Or.inl ⟨by omega, h2⟩
      · exact Or.inr ⟨by omega, by simpa using h2, fun q => h3 ⟨by omega, q.2⟩⟩
theorem xr_lv.s1 {ls : Array Slot} {nL : Nat} {lv : List (Option Value)} {i : Nat} {v : Value} (h : lv_has ls nL ((i, v) :: (xr_as 0 lv).filter (fun q => !(q.1 == i) && !(q.1 + 1 == i && q.2.category == 2)))) : xr_lv ls nL (xr_s1 lv i v) := by
  refine ⟨h.1, h.2.1, fun q hq => ?_⟩
  obtain ⟨j, u⟩ := q
  have h1 := ((xr_as_mem _ 0 j u).mp hq).2
  rcases xr_s1_at lv i v j u h1 with ⟨rfl, rfl⟩ | ⟨a1, a2, a3⟩
  · exact h.2.2 _ List.mem_cons_self
  · refine h.2.2 (j, u) (List.mem_cons_of_mem _ (List.mem_filter.mpr ⟨(xr_as_mem lv 0 j u).mpr ⟨Nat.zero_le _, a2⟩, ?_⟩))
    have e1 : (j == i) = false := by simpa using a1
    by_cases e2 : j + 1 = i
    · have e3 : (u.category == 2) = false := by simpa using fun z => a3 ⟨e2, z⟩
      simp [e1, e3]
    · have e3 : (j + 1 == i) = false := by simpa using e2
      simp [e1, e3]
theorem xr_lv.s2 {ls : Array Slot} {nL : Nat} {lv : List (Option Value)} {i : Nat} {v : Value} (h : lv_has ls nL ((i, v) :: (xr_as 0 lv).filter (fun q => !(q.1 == i) && (!(q.1 == i + 1) && !(q.1 + 1 == i && q.2.category == 2))))) : xr_lv ls nL (xr_s2 lv i v) := by
  refine ⟨h.1, h.2.1, fun q hq => ?_⟩
  obtain ⟨j, u⟩ := q
  have h0 := ((xr_as_mem _ 0 j u).mp hq).2
  have hne : j ≠ i + 1 := by
    intro hj
    subst hj
    unfold xr_s2 at h0
    rw [Nat.sub_zero, List.getElem?_set] at h0
    split at h0
    next => split at h0 <;> simp at h0
    next hz => exact hz rfl
  have h1 : (xr_s1 lv i v)[j]? = some (some u) := by
    unfold xr_s2 at h0
    rw [Nat.sub_zero, List.getElem?_set, if_neg (Ne.symm hne)] at h0
    exact h0
  rcases xr_s1_at lv i v j u h1 with ⟨rfl, rfl⟩ | ⟨a1, a2, a3⟩
  · exact h.2.2 _ List.mem_cons_self
  · refine h.2.2 (j, u) (List.mem_cons_of_mem _ (List.mem_filter.mpr ⟨(xr_as_mem lv 0 j u).mpr ⟨Nat.zero_le _, a2⟩, ?_⟩))
    have e1 : (j == i) = false := by simpa using a1
    have e4 : (j == i + 1) = false := by simpa using hne
    by_cases e2 : j + 1 = i
    · have e3 : (u.category == 2) = false := by simpa using fun z => a3 ⟨e2, z⟩
      simp [e1, e3, e4]
    · have e3 : (j + 1 == i) = false := by simpa using e2
      simp [e1, e3, e4]
/-! PURE WORDS in which the methods' functions are written -/
def xr_ld {α : Type} (σ : xr_S) (c n : Nat) (i : Int32) (k : Int32 → Option α) : Option α := if i < 0 ∨ n ≤ i.toNatClampNeg then none else k (σ.1 c i.toNatClampNeg)
def xr_st {α : Type} (σ : xr_S) (c n : Nat) (i x : Int32) (k : xr_S → Option α) : Option α := if i < 0 ∨ n ≤ i.toNatClampNeg then none else k (xr_up σ c i.toNatClampNeg x)
def xr_ll {α : Type} (σ : xr_S) (n : Nat) (i : Int32) (k : Int64 → Option α) : Option α := if i < 0 ∨ n ≤ i.toNatClampNeg then none else k (σ.2 i.toNatClampNeg)
def xr_sl {α : Type} (σ : xr_S) (n : Nat) (i : Int32) (x : Int64) (k : xr_S → Option α) : Option α := if i < 0 ∨ n ≤ i.toNatClampNeg then none else k (xr_upL σ i.toNatClampNeg x)
def xr_lr {α : Type} (n : Nat) (i : Int32) (k : Nat → Option α) : Option α := if i < 0 ∨ n ≤ i.toNatClampNeg then none else k i.toNatClampNeg
def xr_nz {α : Type} (y : Int32) (k : Option α) : Option α := if y = 0 then none else k
def xr_nl {α : Type} (y : Int64) (k : Option α) : Option α := if y = 0 then none else k
def xr_zb {α : Type} (y : Int32) (k : Option α) : Option α := if y = 0 ∨ y = 1 then k else none
def xr_jn {α β : Type} (F : α → Option β) (G : (α → Option β) → Option β) : Option β := G F
def xr_lp {S β : Type} (body : S → (S → Option β) → Option β) : Nat → S → Option β
  | 0, _ => none
  | n + 1, s => body s (xr_lp body n)
noncomputable def xr_lw {S β : Type} (body : S → (S → Option β) → Option β) (s : S) : Option β := @dite _ (∃ v N, ∀ n, N ≤ n → xr_lp body n s = v) (Classical.propDecidable _) (fun h => h.choose) (fun _ => none)
theorem xr_lw_eq {S β : Type} {body : S → (S → Option β) → Option β} {s : S} {v : Option β} (N : Nat) (h : ∀ n, N ≤ n → xr_lp body n s = v) : xr_lw body s = v := by
  have hx : ∃ v N, ∀ n, N ≤ n → xr_lp body n s = v := ⟨v, N, h⟩
  unfold xr_lw
  rw [dif_pos hx]
  obtain ⟨M, hM⟩ := hx.choose_spec
  rw [← hM (max M N) (Nat.le_max_left _ _), h _ (Nat.le_max_right _ _)]
theorem xr_lw_some {S β : Type} {body : S → (S → Option β) → Option β} {s : S} {r : β} (h : xr_lw body s = some r) : ∃ n, xr_lp body n s = some r := by
  unfold xr_lw at h
  split at h
  next hx =>
    obtain ⟨M, hM⟩ := hx.choose_spec
    exact ⟨M, by rw [hM M (Nat.le_refl _)]; exact h⟩
  next => cases h

/-! THE JUDGEMENT: from pc, locals, stack and state the machine comes to the method's end -/
def xr_B (l : Launch) (D : va_G) (ad : Nat → Nat) (ca : Nat → ClassId) (cc : ByteArray) (own : String) (nL fr lo : Nat) (J : Nat → List (Option Value) → List Value → xr_S → Prop) : Prop :=
  ∃ (p : Program) (e : Env) (R : Room) (s : State) (m : MethodId) (args : Array Value) (below : List Frame) (meth : Method) (c : Code) (A : Nat → Prop) (Q : State → Prop) (cells slots : Nat),
    p.tables.exec = Jvm.exec ∧ c.code = cc ∧ c.maxLocals = nL ∧ s.vm.findClass own = some m.cls ∧ (∀ w ∈ xr_tb, w.before args s = true) ∧ xr_K D ca s ∧ xr_D ad ∧ (∀ i, i < 68 → A (ad i)) ∧ fr ≤ R.frames ∧ lo ≤ R.locals ∧ cells ≤ R.cells ∧ slots ≤ R.slots ∧
    J = fun pc lv st σ => ∀ (H : Heap) (locs : List Loc) (ls : Array Slot), va_P D vwCl (xr_w ad ca σ) H → va_S A s.heap H locs → xr_lv ls nL lv → W p l e R s m args below meth c H locs cells slots Q (F0 m pc ls st)
def xr_PB (D : va_G) (ad : Nat → Nat) (ca : Nat → ClassId) (σ : xr_S) (U : State) : Prop := va_P D vwCl (xr_w ad ca σ) U.heap ∧ xr_K D ca U ∧ xr_D ad
def xr_Q (D : va_G) (ad : Nat → Nat) (ca : Nat → ClassId) (rv : Option Value) (ρ : xr_S) : Array Value → State → Outcome → State → Prop := fun _ st oc t => oc = .returned rv ∧ va_P D vwCl (xr_w ad ca ρ) t.heap ∧ va_F (xr_A ad) st t
def xr_M (l : Launch) (D : va_G) (ad : Nat → Nat) (ca : Nat → ClassId) (y : MethodName) (b : ByteArray) (n : Nat) (rt : Option FieldType) (fr lo : Nat) (As : List Value) (σ : xr_S) (rv : Option Value) (ρ : xr_S) : Prop :=
  Met l y (Cond.code y b n rt :: xr_tb) ({ frames := fr, cells := 0, slots := 0, locals := lo } : Room) (va_Pc As (xr_PB D ad ca σ)) (xr_Q D ad ca rv ρ) 0 0 (xr_A ad)
def xr_mi (y : MethodName) (b : ByteArray) (n : Nat) (rt : Option FieldType) (np : Nat) : Prop := Cond.code y b n rt ∈ xr_tb ∧ Cond.initialized y.cls ∈ xr_tb ∧ plainName y.cls = true ∧ y.cls ≠ "java/lang/invoke/MethodHandle" ∧ y.cls ≠ "java/lang/invoke/VarHandle" ∧ (parseMethodDescriptor y.desc).map (fun d => d.parameters.length) = some np
def xr_vi (own : String) (idx : Nat) (y : MethodName) : Prop := Cond.methodLink own idx y ∈ xr_tb ∧ Cond.instanceMethod y ∈ xr_tb ∧ Cond.selects y.cls y y ∈ xr_tb
def xr_si (own : String) (idx : Nat) (y : MethodName) : Prop := Cond.methodLink own idx y ∈ xr_tb ∧ Cond.static y ∈ xr_tb
def xr_fi (own : String) (idx ci k : Nat) : Prop := ∃ (C : String) (T : u_T) (N : Nat), vwCl[ci]? = some (C, T, N) ∧ k < N ∧ (∀ w ∈ u_ws C T N, w ∈ xr_tb) ∧ Cond.fieldLink own idx (T k).1 (T k).2.1 (T k).2.2.1 ∈ xr_tb
/-- a field that may be written, of the type ty -/
def xr_fw (own : String) (idx ci k : Nat) (ty : FieldType) : Prop := ∃ (C : String) (T : u_T) (N : Nat) (ty0 : Nat → FieldType), vwCl[ci]? = some (C, T, N) ∧ k < N ∧ (∀ w ∈ u_ws C T N, w ∈ xr_tb) ∧ Cond.fieldLink own idx (T k).1 (T k).2.1 (T k).2.2.1 ∈ xr_tb ∧ (∀ k, k < N → parseFieldDescriptor (T k).2.2.1 = some (ty0 k)) ∧ (∀ a, a < N → ∀ b, b < N → a ≠ b → (T a).2.1 ≠ (T b).2.1) ∧ (T k).2.2.2 = false ∧ ty0 k = ty
section XR
variable {l : Launch} {D : va_G} {ad : Nat → Nat} {ca : Nat → ClassId} {cc : ByteArray} {own : String} {nL fr lo : Nat} {J : Nat → List (Option Value) → List Value → xr_S → Prop}
variable {pc : Nat} {lv : List (Option Value)} {st : List Value} {σ : xr_S} {α β S : Type} {r : α}

theorem xr_iconst (B : xr_B l D ad ca cc own nL fr lo J) {n : Int} {v : Int32} (hd : decode cc pc = .ok (.iconst n, 1)) (hv : Int32.ofInt n = v) (kk : J (pc + 1) lv (.int v :: st) σ) : J pc lv (st) σ := by
  obtain ⟨p, e, R, s, m, args, below, meth, c, A, Q, cells, slots, hx, hb, hml, hown, hts, hK, hD, hA, hfr, hlo, hcl, hsl, rfl⟩ := B
  intro H locs ls hP hS hl
  exact lv_iconst hx hb hd hv (kk H locs ls hP hS hl)

theorem xr_bipush (B : xr_B l D ad ca cc own nL fr lo J) {n : Int} {v : Int32} (hd : decode cc pc = .ok (.bipush n, 2)) (hv : (Int8.ofInt n).toInt32 = v) (kk : J (pc + 2) lv (.int v :: st) σ) : J pc lv (st) σ := by
  obtain ⟨p, e, R, s, m, args, below, meth, c, A, Q, cells, slots, hx, hb, hml, hown, hts, hK, hD, hA, hfr, hlo, hcl, hsl, rfl⟩ := B
  intro H locs ls hP hS hl
  exact lv_bipush hx hb hd hv (kk H locs ls hP hS hl)

theorem xr_sipush (B : xr_B l D ad ca cc own nL fr lo J) {n : Int} {v : Int32} (hd : decode cc pc = .ok (.sipush n, 3)) (hv : (Int16.ofInt n).toInt32 = v) (kk : J (pc + 3) lv (.int v :: st) σ) : J pc lv (st) σ := by
  obtain ⟨p, e, R, s, m, args, below, meth, c, A, Q, cells, slots, hx, hb, hml, hown, hts, hK, hD, hA, hfr, hlo, hcl, hsl, rfl⟩ := B
  intro H locs ls hP hS hl
  exact lv_sipush hx hb hd hv (kk H locs ls hP hS hl)

theorem xr_lconst (B : xr_B l D ad ca cc own nL fr lo J) {n : Fin 2} {v : Int64} (hd : decode cc pc = .ok (.lconst n, 1)) (hv : Int64.ofNat (n : Nat) = v) (kk : J (pc + 1) lv (.long v :: st) σ) : J pc lv (st) σ := by
  obtain ⟨p, e, R, s, m, args, below, meth, c, A, Q, cells, slots, hx, hb, hml, hown, hts, hK, hD, hA, hfr, hlo, hcl, hsl, rfl⟩ := B
  intro H locs ls hP hS hl
  exact lv_lconst hx hb hd hv (kk H locs ls hP hS hl)

theorem xr_ldc (B : xr_B l D ad ca cc own nL fr lo J) {idx : Nat} {v : Int32} (hw : Cond.constant own idx v ∈ xr_tb) (hd : decode cc pc = .ok (.ldc idx, 2)) (kk : J (pc + 2) lv (.int v :: st) σ) : J pc lv (st) σ := by
  obtain ⟨p, e, R, s, m, args, below, meth, c, A, Q, cells, slots, hx, hb, hml, hown, hts, hK, hD, hA, hfr, hlo, hcl, hsl, rfl⟩ := B
  intro H locs ls hP hS hl
  exact lv_ldc hx hb hown (hts _ hw) hd (kk H locs ls hP hS hl)

theorem xr_ldcw (B : xr_B l D ad ca cc own nL fr lo J) {idx : Nat} {v : Int32} (hw : Cond.constant own idx v ∈ xr_tb) (hd : decode cc pc = .ok (.ldc_w idx, 3)) (kk : J (pc + 3) lv (.int v :: st) σ) : J pc lv (st) σ := by
  obtain ⟨p, e, R, s, m, args, below, meth, c, A, Q, cells, slots, hx, hb, hml, hown, hts, hK, hD, hA, hfr, hlo, hcl, hsl, rfl⟩ := B
  intro H locs ls hP hS hl
  exact lv_ldcw hx hb hown (hts _ hw) hd (kk H locs ls hP hS hl)

theorem xr_ldc2 (B : xr_B l D ad ca cc own nL fr lo J) {idx : Nat} {v : Int64} (hw : Cond.constantLong own idx v ∈ xr_tb) (hd : decode cc pc = .ok (.ldc2_w idx, 3)) (kk : J (pc + 3) lv (.long v :: st) σ) : J pc lv (st) σ := by
  obtain ⟨p, e, R, s, m, args, below, meth, c, A, Q, cells, slots, hx, hb, hml, hown, hts, hK, hD, hA, hfr, hlo, hcl, hsl, rfl⟩ := B
  intro H locs ls hP hS hl
  exact lv_ldc2 hx hb hown (hts _ hw) hd (kk H locs ls hP hS hl)

theorem xr_iload_n (B : xr_B l D ad ca cc own nL fr lo J) {k : Fin 4} {i : Nat} {x : Int32} (hd : decode cc pc = .ok (.iload_n k, 1)) (hi : (k : Nat) = i) (hg : lv[i]? = some (some (.int x))) (kk : J (pc + 1) lv (.int x :: st) σ) : J pc lv (st) σ := by
  obtain ⟨p, e, R, s, m, args, below, meth, c, A, Q, cells, slots, hx, hb, hml, hown, hts, hK, hD, hA, hfr, hlo, hcl, hsl, rfl⟩ := B
  intro H locs ls hP hS hl
  exact lv_iload_n hx hb hd hi (hl.at hg) (kk H locs ls hP hS hl)

theorem xr_iload (B : xr_B l D ad ca cc own nL fr lo J) {i : Nat} {x : Int32} (hd : decode cc pc = .ok (.iload i, 2)) (hg : lv[i]? = some (some (.int x))) (kk : J (pc + 2) lv (.int x :: st) σ) : J pc lv (st) σ := by
  obtain ⟨p, e, R, s, m, args, below, meth, c, A, Q, cells, slots, hx, hb, hml, hown, hts, hK, hD, hA, hfr, hlo, hcl, hsl, rfl⟩ := B
  intro H locs ls hP hS hl
  exact lv_iload hx hb hd (hl.at hg) (kk H locs ls hP hS hl)

theorem xr_istore_n (B : xr_B l D ad ca cc own nL fr lo J) {k : Fin 4} {i : Nat} {x : Int32} {lv2 : List (Option Value)} (hd : decode cc pc = .ok (.istore_n k, 1)) (hi : (k : Nat) = i) (hn : i < nL) (hv : xr_s1 lv i (.int x) = lv2) (kk : J (pc + 1) lv2 (st) σ) : J pc lv (.int x :: st) σ := by
  obtain ⟨p, e, R, s, m, args, below, meth, c, A, Q, cells, slots, hx, hb, hml, hown, hts, hK, hD, hA, hfr, hlo, hcl, hsl, rfl⟩ := B
  intro H locs ls hP hS hl
  exact lv_istore_n hx hb hd hi hl hn rfl (fun ls hl => kk H locs ls hP hS (hv ▸ xr_lv.s1 hl))

theorem xr_istore (B : xr_B l D ad ca cc own nL fr lo J) {i : Nat} {x : Int32} {lv2 : List (Option Value)} (hd : decode cc pc = .ok (.istore i, 2)) (hn : i < nL) (hv : xr_s1 lv i (.int x) = lv2) (kk : J (pc + 2) lv2 (st) σ) : J pc lv (.int x :: st) σ := by
  obtain ⟨p, e, R, s, m, args, below, meth, c, A, Q, cells, slots, hx, hb, hml, hown, hts, hK, hD, hA, hfr, hlo, hcl, hsl, rfl⟩ := B
  intro H locs ls hP hS hl
  exact lv_istore hx hb hd hl hn rfl (fun ls hl => kk H locs ls hP hS (hv ▸ xr_lv.s1 hl))

theorem xr_lload_n (B : xr_B l D ad ca cc own nL fr lo J) {k : Fin 4} {i : Nat} {x : Int64} (hd : decode cc pc = .ok (.lload_n k, 1)) (hi : (k : Nat) = i) (hg : lv[i]? = some (some (.long x))) (kk : J (pc + 1) lv (.long x :: st) σ) : J pc lv (st) σ := by
  obtain ⟨p, e, R, s, m, args, below, meth, c, A, Q, cells, slots, hx, hb, hml, hown, hts, hK, hD, hA, hfr, hlo, hcl, hsl, rfl⟩ := B
  intro H locs ls hP hS hl
  exact lv_lload_n hx hb hd hi (hl.at hg) (kk H locs ls hP hS hl)

theorem xr_lload (B : xr_B l D ad ca cc own nL fr lo J) {i : Nat} {x : Int64} (hd : decode cc pc = .ok (.lload i, 2)) (hg : lv[i]? = some (some (.long x))) (kk : J (pc + 2) lv (.long x :: st) σ) : J pc lv (st) σ := by
  obtain ⟨p, e, R, s, m, args, below, meth, c, A, Q, cells, slots, hx, hb, hml, hown, hts, hK, hD, hA, hfr, hlo, hcl, hsl, rfl⟩ := B
  intro H locs ls hP hS hl
  exact lv_lload hx hb hd (hl.at hg) (kk H locs ls hP hS hl)

theorem xr_lstore_n (B : xr_B l D ad ca cc own nL fr lo J) {k : Fin 4} {i : Nat} {x : Int64} {lv2 : List (Option Value)} (hd : decode cc pc = .ok (.lstore_n k, 1)) (hi : (k : Nat) = i) (hn : i + 1 < nL) (hv : xr_s2 lv i (.long x) = lv2) (kk : J (pc + 1) lv2 (st) σ) : J pc lv (.long x :: st) σ := by
  obtain ⟨p, e, R, s, m, args, below, meth, c, A, Q, cells, slots, hx, hb, hml, hown, hts, hK, hD, hA, hfr, hlo, hcl, hsl, rfl⟩ := B
  intro H locs ls hP hS hl
  exact lv_lstore_n hx hb hd hi hl hn rfl (fun ls hl => kk H locs ls hP hS (hv ▸ xr_lv.s2 hl))

theorem xr_lstore (B : xr_B l D ad ca cc own nL fr lo J) {i : Nat} {x : Int64} {lv2 : List (Option Value)} (hd : decode cc pc = .ok (.lstore i, 2)) (hn : i + 1 < nL) (hv : xr_s2 lv i (.long x) = lv2) (kk : J (pc + 2) lv2 (st) σ) : J pc lv (.long x :: st) σ := by
  obtain ⟨p, e, R, s, m, args, below, meth, c, A, Q, cells, slots, hx, hb, hml, hown, hts, hK, hD, hA, hfr, hlo, hcl, hsl, rfl⟩ := B
  intro H locs ls hP hS hl
  exact lv_lstore hx hb hd hl hn rfl (fun ls hl => kk H locs ls hP hS (hv ▸ xr_lv.s2 hl))

theorem xr_aload_n (B : xr_B l D ad ca cc own nL fr lo J) {k : Fin 4} {i : Nat} {x : Nat} (hd : decode cc pc = .ok (.aload_n k, 1)) (hi : (k : Nat) = i) (hg : lv[i]? = some (some (.ref x))) (kk : J (pc + 1) lv (.ref x :: st) σ) : J pc lv (st) σ := by
  obtain ⟨p, e, R, s, m, args, below, meth, c, A, Q, cells, slots, hx, hb, hml, hown, hts, hK, hD, hA, hfr, hlo, hcl, hsl, rfl⟩ := B
  intro H locs ls hP hS hl
  exact lv_aload_n hx hb hd hi (hl.at hg) (kk H locs ls hP hS hl)

theorem xr_aload (B : xr_B l D ad ca cc own nL fr lo J) {i : Nat} {x : Nat} (hd : decode cc pc = .ok (.aload i, 2)) (hg : lv[i]? = some (some (.ref x))) (kk : J (pc + 2) lv (.ref x :: st) σ) : J pc lv (st) σ := by
  obtain ⟨p, e, R, s, m, args, below, meth, c, A, Q, cells, slots, hx, hb, hml, hown, hts, hK, hD, hA, hfr, hlo, hcl, hsl, rfl⟩ := B
  intro H locs ls hP hS hl
  exact lv_aload hx hb hd (hl.at hg) (kk H locs ls hP hS hl)

theorem xr_astore_n (B : xr_B l D ad ca cc own nL fr lo J) {k : Fin 4} {i : Nat} {x : Nat} {lv2 : List (Option Value)} (hd : decode cc pc = .ok (.astore_n k, 1)) (hi : (k : Nat) = i) (hn : i < nL) (hv : xr_s1 lv i (.ref x) = lv2) (kk : J (pc + 1) lv2 (st) σ) : J pc lv (.ref x :: st) σ := by
  obtain ⟨p, e, R, s, m, args, below, meth, c, A, Q, cells, slots, hx, hb, hml, hown, hts, hK, hD, hA, hfr, hlo, hcl, hsl, rfl⟩ := B
  intro H locs ls hP hS hl
  exact lv_astore_n hx hb hd hi hl hn rfl (fun ls hl => kk H locs ls hP hS (hv ▸ xr_lv.s1 hl))

theorem xr_astore (B : xr_B l D ad ca cc own nL fr lo J) {i : Nat} {x : Nat} {lv2 : List (Option Value)} (hd : decode cc pc = .ok (.astore i, 2)) (hn : i < nL) (hv : xr_s1 lv i (.ref x) = lv2) (kk : J (pc + 2) lv2 (st) σ) : J pc lv (.ref x :: st) σ := by
  obtain ⟨p, e, R, s, m, args, below, meth, c, A, Q, cells, slots, hx, hb, hml, hown, hts, hK, hD, hA, hfr, hlo, hcl, hsl, rfl⟩ := B
  intro H locs ls hP hS hl
  exact lv_astore hx hb hd hl hn rfl (fun ls hl => kk H locs ls hP hS (hv ▸ xr_lv.s1 hl))

theorem xr_iinc (B : xr_B l D ad ca cc own nL fr lo J) {i : Nat} {n : Int} {x v : Int32} {lv2 : List (Option Value)} (hd : decode cc pc = .ok (.iinc i n, 3)) (hg : lv[i]? = some (some (.int x))) (hv : x + Int32.ofInt n = v) (hn : i < nL) (h2 : xr_s1 lv i (.int v) = lv2) (kk : J (pc + 3) lv2 st σ) : J pc lv st σ := by
  obtain ⟨p, e, R, s, m, args, below, meth, c, A, Q, cells, slots, hx, hb, hml, hown, hts, hK, hD, hA, hfr, hlo, hcl, hsl, rfl⟩ := B
  intro H locs ls hP hS hl
  have hm : (i, Value.int x) ∈ xr_as 0 lv := (xr_as_mem lv 0 i _).mpr ⟨Nat.zero_le _, hg⟩
  obtain ⟨k, hk⟩ := List.getElem?_of_mem hm
  exact lv_iinc hx hb hd hl hk hv hn rfl (fun ls hl => kk H locs ls hP hS (h2 ▸ xr_lv.s1 hl))

theorem xr_iadd (B : xr_B l D ad ca cc own nL fr lo J) {x y : Int32} (hd : decode cc pc = .ok (.iadd, 1)) (kk : J (pc + 1) lv (.int (x + y) :: st) σ) : J pc lv (.int y :: .int x :: st) σ := by
  obtain ⟨p, e, R, s, m, args, below, meth, c, A, Q, cells, slots, hx, hb, hml, hown, hts, hK, hD, hA, hfr, hlo, hcl, hsl, rfl⟩ := B
  intro H locs ls hP hS hl
  exact lv_iadd hx hb hd (kk H locs ls hP hS hl)

theorem xr_isub (B : xr_B l D ad ca cc own nL fr lo J) {x y : Int32} (hd : decode cc pc = .ok (.isub, 1)) (kk : J (pc + 1) lv (.int (x - y) :: st) σ) : J pc lv (.int y :: .int x :: st) σ := by
  obtain ⟨p, e, R, s, m, args, below, meth, c, A, Q, cells, slots, hx, hb, hml, hown, hts, hK, hD, hA, hfr, hlo, hcl, hsl, rfl⟩ := B
  intro H locs ls hP hS hl
  exact lv_isub hx hb hd (kk H locs ls hP hS hl)

theorem xr_imul (B : xr_B l D ad ca cc own nL fr lo J) {x y : Int32} (hd : decode cc pc = .ok (.imul, 1)) (kk : J (pc + 1) lv (.int (x * y) :: st) σ) : J pc lv (.int y :: .int x :: st) σ := by
  obtain ⟨p, e, R, s, m, args, below, meth, c, A, Q, cells, slots, hx, hb, hml, hown, hts, hK, hD, hA, hfr, hlo, hcl, hsl, rfl⟩ := B
  intro H locs ls hP hS hl
  exact lv_imul hx hb hd (kk H locs ls hP hS hl)

theorem xr_iand (B : xr_B l D ad ca cc own nL fr lo J) {x y : Int32} (hd : decode cc pc = .ok (.iand, 1)) (kk : J (pc + 1) lv (.int (x &&& y) :: st) σ) : J pc lv (.int y :: .int x :: st) σ := by
  obtain ⟨p, e, R, s, m, args, below, meth, c, A, Q, cells, slots, hx, hb, hml, hown, hts, hK, hD, hA, hfr, hlo, hcl, hsl, rfl⟩ := B
  intro H locs ls hP hS hl
  exact lv_iand hx hb hd (kk H locs ls hP hS hl)

theorem xr_ior (B : xr_B l D ad ca cc own nL fr lo J) {x y : Int32} (hd : decode cc pc = .ok (.ior, 1)) (kk : J (pc + 1) lv (.int (x ||| y) :: st) σ) : J pc lv (.int y :: .int x :: st) σ := by
  obtain ⟨p, e, R, s, m, args, below, meth, c, A, Q, cells, slots, hx, hb, hml, hown, hts, hK, hD, hA, hfr, hlo, hcl, hsl, rfl⟩ := B
  intro H locs ls hP hS hl
  exact lv_ior hx hb hd (kk H locs ls hP hS hl)

theorem xr_ixor (B : xr_B l D ad ca cc own nL fr lo J) {x y : Int32} (hd : decode cc pc = .ok (.ixor, 1)) (kk : J (pc + 1) lv (.int (x ^^^ y) :: st) σ) : J pc lv (.int y :: .int x :: st) σ := by
  obtain ⟨p, e, R, s, m, args, below, meth, c, A, Q, cells, slots, hx, hb, hml, hown, hts, hK, hD, hA, hfr, hlo, hcl, hsl, rfl⟩ := B
  intro H locs ls hP hS hl
  exact lv_ixor hx hb hd (kk H locs ls hP hS hl)

theorem xr_ishl (B : xr_B l D ad ca cc own nL fr lo J) {x y : Int32} (hd : decode cc pc = .ok (.ishl, 1)) (kk : J (pc + 1) lv (.int (x <<< (y &&& 31)) :: st) σ) : J pc lv (.int y :: .int x :: st) σ := by
  obtain ⟨p, e, R, s, m, args, below, meth, c, A, Q, cells, slots, hx, hb, hml, hown, hts, hK, hD, hA, hfr, hlo, hcl, hsl, rfl⟩ := B
  intro H locs ls hP hS hl
  exact lv_ishl hx hb hd (kk H locs ls hP hS hl)

theorem xr_ishr (B : xr_B l D ad ca cc own nL fr lo J) {x y : Int32} (hd : decode cc pc = .ok (.ishr, 1)) (kk : J (pc + 1) lv (.int (x >>> (y &&& 31)) :: st) σ) : J pc lv (.int y :: .int x :: st) σ := by
  obtain ⟨p, e, R, s, m, args, below, meth, c, A, Q, cells, slots, hx, hb, hml, hown, hts, hK, hD, hA, hfr, hlo, hcl, hsl, rfl⟩ := B
  intro H locs ls hP hS hl
  exact lv_ishr hx hb hd (kk H locs ls hP hS hl)

theorem xr_iushr (B : xr_B l D ad ca cc own nL fr lo J) {x y : Int32} (hd : decode cc pc = .ok (.iushr, 1)) (kk : J (pc + 1) lv (.int ((x.toUInt32 >>> (y.toUInt32 &&& Int32.toUInt32 31)).toInt32) :: st) σ) : J pc lv (.int y :: .int x :: st) σ := by
  obtain ⟨p, e, R, s, m, args, below, meth, c, A, Q, cells, slots, hx, hb, hml, hown, hts, hK, hD, hA, hfr, hlo, hcl, hsl, rfl⟩ := B
  intro H locs ls hP hS hl
  exact lv_iushr hx hb hd rfl (kk H locs ls hP hS hl)

theorem xr_ladd (B : xr_B l D ad ca cc own nL fr lo J) {x y : Int64} (hd : decode cc pc = .ok (.ladd, 1)) (kk : J (pc + 1) lv (.long (x + y) :: st) σ) : J pc lv (.long y :: .long x :: st) σ := by
  obtain ⟨p, e, R, s, m, args, below, meth, c, A, Q, cells, slots, hx, hb, hml, hown, hts, hK, hD, hA, hfr, hlo, hcl, hsl, rfl⟩ := B
  intro H locs ls hP hS hl
  exact lv_ladd hx hb hd (kk H locs ls hP hS hl)

theorem xr_lsub (B : xr_B l D ad ca cc own nL fr lo J) {x y : Int64} (hd : decode cc pc = .ok (.lsub, 1)) (kk : J (pc + 1) lv (.long (x - y) :: st) σ) : J pc lv (.long y :: .long x :: st) σ := by
  obtain ⟨p, e, R, s, m, args, below, meth, c, A, Q, cells, slots, hx, hb, hml, hown, hts, hK, hD, hA, hfr, hlo, hcl, hsl, rfl⟩ := B
  intro H locs ls hP hS hl
  exact lv_lsub hx hb hd (kk H locs ls hP hS hl)

theorem xr_lmul (B : xr_B l D ad ca cc own nL fr lo J) {x y : Int64} (hd : decode cc pc = .ok (.lmul, 1)) (kk : J (pc + 1) lv (.long (x * y) :: st) σ) : J pc lv (.long y :: .long x :: st) σ := by
  obtain ⟨p, e, R, s, m, args, below, meth, c, A, Q, cells, slots, hx, hb, hml, hown, hts, hK, hD, hA, hfr, hlo, hcl, hsl, rfl⟩ := B
  intro H locs ls hP hS hl
  exact lv_lmul hx hb hd (kk H locs ls hP hS hl)

theorem xr_land (B : xr_B l D ad ca cc own nL fr lo J) {x y : Int64} (hd : decode cc pc = .ok (.land, 1)) (kk : J (pc + 1) lv (.long (x &&& y) :: st) σ) : J pc lv (.long y :: .long x :: st) σ := by
  obtain ⟨p, e, R, s, m, args, below, meth, c, A, Q, cells, slots, hx, hb, hml, hown, hts, hK, hD, hA, hfr, hlo, hcl, hsl, rfl⟩ := B
  intro H locs ls hP hS hl
  exact lv_land hx hb hd (kk H locs ls hP hS hl)

theorem xr_i2l (B : xr_B l D ad ca cc own nL fr lo J) {x : Int32} (hd : decode cc pc = .ok (.i2l, 1)) (kk : J (pc + 1) lv (.long x.toInt64 :: st) σ) : J pc lv (.int x :: st) σ := by
  obtain ⟨p, e, R, s, m, args, below, meth, c, A, Q, cells, slots, hx, hb, hml, hown, hts, hK, hD, hA, hfr, hlo, hcl, hsl, rfl⟩ := B
  intro H locs ls hP hS hl
  exact lv_i2l hx hb hd rfl (kk H locs ls hP hS hl)

theorem xr_l2i (B : xr_B l D ad ca cc own nL fr lo J) {x : Int64} (hd : decode cc pc = .ok (.l2i, 1)) (kk : J (pc + 1) lv (.int x.toInt32 :: st) σ) : J pc lv (.long x :: st) σ := by
  obtain ⟨p, e, R, s, m, args, below, meth, c, A, Q, cells, slots, hx, hb, hml, hown, hts, hK, hD, hA, hfr, hlo, hcl, hsl, rfl⟩ := B
  intro H locs ls hP hS hl
  exact lv_l2i hx hb hd rfl (kk H locs ls hP hS hl)

theorem xr_lcmp (B : xr_B l D ad ca cc own nL fr lo J) {x y : Int64} (hd : decode cc pc = .ok (.lcmp, 1)) (kk : J (pc + 1) lv (.int (lg_cmp x y) :: st) σ) : J pc lv (.long y :: .long x :: st) σ := by
  obtain ⟨p, e, R, s, m, args, below, meth, c, A, Q, cells, slots, hx, hb, hml, hown, hts, hK, hD, hA, hfr, hlo, hcl, hsl, rfl⟩ := B
  intro H locs ls hP hS hl
  exact W.lcmp hx hb hd (kk H locs ls hP hS hl)

theorem xr_dup (B : xr_B l D ad ca cc own nL fr lo J) {v : Value} (hd : decode cc pc = .ok (.dup, 1)) (hv : v.category = 1) (kk : J (pc + 1) lv (v :: v :: st) σ) : J pc lv (v :: st) σ := by
  obtain ⟨p, e, R, s, m, args, below, meth, c, A, Q, cells, slots, hx, hb, hml, hown, hts, hK, hD, hA, hfr, hlo, hcl, hsl, rfl⟩ := B
  intro H locs ls hP hS hl
  exact lv_dup hx hb hd hv (kk H locs ls hP hS hl)

theorem xr_pop (B : xr_B l D ad ca cc own nL fr lo J) {v : Value} (hd : decode cc pc = .ok (.pop, 1)) (hv : v.category = 1) (kk : J (pc + 1) lv (st) σ) : J pc lv (v :: st) σ := by
  obtain ⟨p, e, R, s, m, args, below, meth, c, A, Q, cells, slots, hx, hb, hml, hown, hts, hK, hD, hA, hfr, hlo, hcl, hsl, rfl⟩ := B
  intro H locs ls hP hS hl
  exact lv_pop hx hb hd hv (kk H locs ls hP hS hl)

theorem xr_dup2 (B : xr_B l D ad ca cc own nL fr lo J) {v u : Value} (hd : decode cc pc = .ok (.dup2, 1)) (hv : v.category = 1) (hu : u.category = 1) (kk : J (pc + 1) lv (v :: u :: v :: u :: st) σ) : J pc lv (v :: u :: st) σ := by
  obtain ⟨p, e, R, s, m, args, below, meth, c, A, Q, cells, slots, hx, hb, hml, hown, hts, hK, hD, hA, hfr, hlo, hcl, hsl, rfl⟩ := B
  intro H locs ls hP hS hl
  exact lv_dup2_11 hx hb hd hv hu (kk H locs ls hP hS hl)

theorem xr_goto (B : xr_B l D ad ca cc own nL fr lo J) {off : Int} {tgt : Nat} (hd : decode cc pc = .ok (.goto off, 3)) (ht : (pc : Int) + off = (tgt : Int)) (kk : J tgt lv (st) σ) : J pc lv (st) σ := by
  obtain ⟨p, e, R, s, m, args, below, meth, c, A, Q, cells, slots, hx, hb, hml, hown, hts, hK, hD, hA, hfr, hlo, hcl, hsl, rfl⟩ := B
  intro H locs ls hP hS hl
  exact lv_goto hx hb hd ht (kk H locs ls hP hS hl)

theorem xr_idiv (B : xr_B l D ad ca cc own nL fr lo J) {x y : Int32} {k : Option α} (hd : decode cc pc = .ok (.idiv, 1)) (hf : xr_nz y k = some r) (kk : k = some r → J (pc + 1) lv (.int (x / y) :: st) σ) : J pc lv (.int y :: .int x :: st) σ := by
  have hne : ¬ y = 0 := fun h => by rw [xr_nz, if_pos h] at hf; cases hf
  have hk : k = some r := by rw [xr_nz, if_neg hne] at hf; exact hf
  obtain ⟨p, e, R, s, m, args, below, meth, c, A, Q, cells, slots, hx, hb, hml, hown, hts, hK, hD, hA, hfr, hlo, hcl, hsl, rfl⟩ := B
  intro H locs ls hP hS hl
  exact lv_idiv hx hb hd hne (kk hk H locs ls hP hS hl)

theorem xr_irem (B : xr_B l D ad ca cc own nL fr lo J) {x y : Int32} {k : Option α} (hd : decode cc pc = .ok (.irem, 1)) (hf : xr_nz y k = some r) (kk : k = some r → J (pc + 1) lv (.int (x - x / y * y) :: st) σ) : J pc lv (.int y :: .int x :: st) σ := by
  have hne : ¬ y = 0 := fun h => by rw [xr_nz, if_pos h] at hf; cases hf
  have hk : k = some r := by rw [xr_nz, if_neg hne] at hf; exact hf
  obtain ⟨p, e, R, s, m, args, below, meth, c, A, Q, cells, slots, hx, hb, hml, hown, hts, hK, hD, hA, hfr, hlo, hcl, hsl, rfl⟩ := B
  intro H locs ls hP hS hl
  exact lv_irem hx hb hd hne (kk hk H locs ls hP hS hl)

theorem xr_ldiv (B : xr_B l D ad ca cc own nL fr lo J) {x y : Int64} {k : Option α} (hd : decode cc pc = .ok (.ldiv, 1)) (hf : xr_nl y k = some r) (kk : k = some r → J (pc + 1) lv (.long (x / y) :: st) σ) : J pc lv (.long y :: .long x :: st) σ := by
  have hne : ¬ y = 0 := fun h => by rw [xr_nl, if_pos h] at hf; cases hf
  have hk : k = some r := by rw [xr_nl, if_neg hne] at hf; exact hf
  obtain ⟨p, e, R, s, m, args, below, meth, c, A, Q, cells, slots, hx, hb, hml, hown, hts, hK, hD, hA, hfr, hlo, hcl, hsl, rfl⟩ := B
  intro H locs ls hP hS hl
  exact lv_ldiv hx hb hd hne (kk hk H locs ls hP hS hl)

theorem xr_lrem (B : xr_B l D ad ca cc own nL fr lo J) {x y : Int64} {k : Option α} (hd : decode cc pc = .ok (.lrem, 1)) (hf : xr_nl y k = some r) (kk : k = some r → J (pc + 1) lv (.long (x - x / y * y) :: st) σ) : J pc lv (.long y :: .long x :: st) σ := by
  have hne : ¬ y = 0 := fun h => by rw [xr_nl, if_pos h] at hf; cases hf
  have hk : k = some r := by rw [xr_nl, if_neg hne] at hf; exact hf
  obtain ⟨p, e, R, s, m, args, below, meth, c, A, Q, cells, slots, hx, hb, hml, hown, hts, hK, hD, hA, hfr, hlo, hcl, hsl, rfl⟩ := B
  intro H locs ls hP hS hl
  exact lv_lrem hx hb hd hne (kk hk H locs ls hP hS hl)

theorem xr_idivK (B : xr_B l D ad ca cc own nL fr lo J) {x y : Int32} (hd : decode cc pc = .ok (.idiv, 1)) (hne : ¬ y = 0) (kk : J (pc + 1) lv (.int (x / y) :: st) σ) : J pc lv (.int y :: .int x :: st) σ := by
  obtain ⟨p, e, R, s, m, args, below, meth, c, A, Q, cells, slots, hx, hb, hml, hown, hts, hK, hD, hA, hfr, hlo, hcl, hsl, rfl⟩ := B
  intro H locs ls hP hS hl
  exact lv_idiv hx hb hd hne (kk H locs ls hP hS hl)

theorem xr_iremK (B : xr_B l D ad ca cc own nL fr lo J) {x y : Int32} (hd : decode cc pc = .ok (.irem, 1)) (hne : ¬ y = 0) (kk : J (pc + 1) lv (.int (x - x / y * y) :: st) σ) : J pc lv (.int y :: .int x :: st) σ := by
  obtain ⟨p, e, R, s, m, args, below, meth, c, A, Q, cells, slots, hx, hb, hml, hown, hts, hK, hD, hA, hfr, hlo, hcl, hsl, rfl⟩ := B
  intro H locs ls hP hS hl
  exact lv_irem hx hb hd hne (kk H locs ls hP hS hl)

theorem xr_ldivK (B : xr_B l D ad ca cc own nL fr lo J) {x y : Int64} (hd : decode cc pc = .ok (.ldiv, 1)) (hne : ¬ y = 0) (kk : J (pc + 1) lv (.long (x / y) :: st) σ) : J pc lv (.long y :: .long x :: st) σ := by
  obtain ⟨p, e, R, s, m, args, below, meth, c, A, Q, cells, slots, hx, hb, hml, hown, hts, hK, hD, hA, hfr, hlo, hcl, hsl, rfl⟩ := B
  intro H locs ls hP hS hl
  exact lv_ldiv hx hb hd hne (kk H locs ls hP hS hl)

theorem xr_lremK (B : xr_B l D ad ca cc own nL fr lo J) {x y : Int64} (hd : decode cc pc = .ok (.lrem, 1)) (hne : ¬ y = 0) (kk : J (pc + 1) lv (.long (x - x / y * y) :: st) σ) : J pc lv (.long y :: .long x :: st) σ := by
  obtain ⟨p, e, R, s, m, args, below, meth, c, A, Q, cells, slots, hx, hb, hml, hown, hts, hK, hD, hA, hfr, hlo, hcl, hsl, rfl⟩ := B
  intro H locs ls hP hS hl
  exact lv_lrem hx hb hd hne (kk H locs ls hP hS hl)

theorem xr_if_eq (B : xr_B l D ad ca cc own nL fr lo J) {x : Int32} {off : Int} {tgt : Nat} {a b : Option α} (hd : decode cc pc = .ok (.ifCond .eq off, 3)) (ht : (pc : Int) + off = (tgt : Int)) (hf : (if x = 0 then a else b) = some r) (kt : x = 0 → a = some r → J tgt lv st σ) (kf : ¬ x = 0 → b = some r → J (pc + 3) lv st σ) : J pc lv (.int x :: st) σ := by
  obtain ⟨p, e, R, s, m, args, below, meth, c, A, Q, cells, slots, hx, hb, hml, hown, hts, hK, hD, hA, hfr, hlo, hcl, hsl, rfl⟩ := B
  intro H locs ls hP hS hl
  exact lv_if_eq hx hb hd ht (fun h => kt h (by rw [if_pos h] at hf; exact hf) H locs ls hP hS hl) (fun h => kf h (by rw [if_neg h] at hf; exact hf) H locs ls hP hS hl)

theorem xr_ifK_eq (B : xr_B l D ad ca cc own nL fr lo J) {x : Int32} {off : Int} {tgt : Nat} (hd : decode cc pc = .ok (.ifCond .eq off, 3)) (ht : (pc : Int) + off = (tgt : Int)) (kt : x = 0 → J tgt lv st σ) (kf : ¬ x = 0 → J (pc + 3) lv st σ) : J pc lv (.int x :: st) σ := by
  obtain ⟨p, e, R, s, m, args, below, meth, c, A, Q, cells, slots, hx, hb, hml, hown, hts, hK, hD, hA, hfr, hlo, hcl, hsl, rfl⟩ := B
  intro H locs ls hP hS hl
  exact lv_if_eq hx hb hd ht (fun h => kt h H locs ls hP hS hl) (fun h => kf h H locs ls hP hS hl)

theorem xr_if_ne (B : xr_B l D ad ca cc own nL fr lo J) {x : Int32} {off : Int} {tgt : Nat} {a b : Option α} (hd : decode cc pc = .ok (.ifCond .ne off, 3)) (ht : (pc : Int) + off = (tgt : Int)) (hf : (if x = 0 then a else b) = some r) (kt : x = 0 → a = some r → J (pc + 3) lv st σ) (kf : ¬ x = 0 → b = some r → J tgt lv st σ) : J pc lv (.int x :: st) σ := by
  obtain ⟨p, e, R, s, m, args, below, meth, c, A, Q, cells, slots, hx, hb, hml, hown, hts, hK, hD, hA, hfr, hlo, hcl, hsl, rfl⟩ := B
  intro H locs ls hP hS hl
  exact lv_if_ne hx hb hd ht (fun h => kf h (by rw [if_neg h] at hf; exact hf) H locs ls hP hS hl) (fun h => kt h (by rw [if_pos h] at hf; exact hf) H locs ls hP hS hl)

theorem xr_ifK_ne (B : xr_B l D ad ca cc own nL fr lo J) {x : Int32} {off : Int} {tgt : Nat} (hd : decode cc pc = .ok (.ifCond .ne off, 3)) (ht : (pc : Int) + off = (tgt : Int)) (kt : x = 0 → J (pc + 3) lv st σ) (kf : ¬ x = 0 → J tgt lv st σ) : J pc lv (.int x :: st) σ := by
  obtain ⟨p, e, R, s, m, args, below, meth, c, A, Q, cells, slots, hx, hb, hml, hown, hts, hK, hD, hA, hfr, hlo, hcl, hsl, rfl⟩ := B
  intro H locs ls hP hS hl
  exact lv_if_ne hx hb hd ht (fun h => kf h H locs ls hP hS hl) (fun h => kt h H locs ls hP hS hl)

theorem xr_if_lt (B : xr_B l D ad ca cc own nL fr lo J) {x : Int32} {off : Int} {tgt : Nat} {a b : Option α} (hd : decode cc pc = .ok (.ifCond .lt off, 3)) (ht : (pc : Int) + off = (tgt : Int)) (hf : (if x < 0 then a else b) = some r) (kt : x < 0 → a = some r → J tgt lv st σ) (kf : ¬ x < 0 → b = some r → J (pc + 3) lv st σ) : J pc lv (.int x :: st) σ := by
  obtain ⟨p, e, R, s, m, args, below, meth, c, A, Q, cells, slots, hx, hb, hml, hown, hts, hK, hD, hA, hfr, hlo, hcl, hsl, rfl⟩ := B
  intro H locs ls hP hS hl
  exact lv_if_lt hx hb hd ht (fun h => kt h (by rw [if_pos h] at hf; exact hf) H locs ls hP hS hl) (fun h => kf h (by rw [if_neg h] at hf; exact hf) H locs ls hP hS hl)

theorem xr_ifK_lt (B : xr_B l D ad ca cc own nL fr lo J) {x : Int32} {off : Int} {tgt : Nat} (hd : decode cc pc = .ok (.ifCond .lt off, 3)) (ht : (pc : Int) + off = (tgt : Int)) (kt : x < 0 → J tgt lv st σ) (kf : ¬ x < 0 → J (pc + 3) lv st σ) : J pc lv (.int x :: st) σ := by
  obtain ⟨p, e, R, s, m, args, below, meth, c, A, Q, cells, slots, hx, hb, hml, hown, hts, hK, hD, hA, hfr, hlo, hcl, hsl, rfl⟩ := B
  intro H locs ls hP hS hl
  exact lv_if_lt hx hb hd ht (fun h => kt h H locs ls hP hS hl) (fun h => kf h H locs ls hP hS hl)

theorem xr_if_ge (B : xr_B l D ad ca cc own nL fr lo J) {x : Int32} {off : Int} {tgt : Nat} {a b : Option α} (hd : decode cc pc = .ok (.ifCond .ge off, 3)) (ht : (pc : Int) + off = (tgt : Int)) (hf : (if 0 ≤ x then a else b) = some r) (kt : 0 ≤ x → a = some r → J tgt lv st σ) (kf : ¬ 0 ≤ x → b = some r → J (pc + 3) lv st σ) : J pc lv (.int x :: st) σ := by
  obtain ⟨p, e, R, s, m, args, below, meth, c, A, Q, cells, slots, hx, hb, hml, hown, hts, hK, hD, hA, hfr, hlo, hcl, hsl, rfl⟩ := B
  intro H locs ls hP hS hl
  exact lv_if_ge hx hb hd ht (fun h => kt h (by rw [if_pos h] at hf; exact hf) H locs ls hP hS hl) (fun h => kf h (by rw [if_neg h] at hf; exact hf) H locs ls hP hS hl)

theorem xr_ifK_ge (B : xr_B l D ad ca cc own nL fr lo J) {x : Int32} {off : Int} {tgt : Nat} (hd : decode cc pc = .ok (.ifCond .ge off, 3)) (ht : (pc : Int) + off = (tgt : Int)) (kt : 0 ≤ x → J tgt lv st σ) (kf : ¬ 0 ≤ x → J (pc + 3) lv st σ) : J pc lv (.int x :: st) σ := by
  obtain ⟨p, e, R, s, m, args, below, meth, c, A, Q, cells, slots, hx, hb, hml, hown, hts, hK, hD, hA, hfr, hlo, hcl, hsl, rfl⟩ := B
  intro H locs ls hP hS hl
  exact lv_if_ge hx hb hd ht (fun h => kt h H locs ls hP hS hl) (fun h => kf h H locs ls hP hS hl)

theorem xr_if_gt (B : xr_B l D ad ca cc own nL fr lo J) {x : Int32} {off : Int} {tgt : Nat} {a b : Option α} (hd : decode cc pc = .ok (.ifCond .gt off, 3)) (ht : (pc : Int) + off = (tgt : Int)) (hf : (if 0 < x then a else b) = some r) (kt : 0 < x → a = some r → J tgt lv st σ) (kf : ¬ 0 < x → b = some r → J (pc + 3) lv st σ) : J pc lv (.int x :: st) σ := by
  obtain ⟨p, e, R, s, m, args, below, meth, c, A, Q, cells, slots, hx, hb, hml, hown, hts, hK, hD, hA, hfr, hlo, hcl, hsl, rfl⟩ := B
  intro H locs ls hP hS hl
  exact lv_if_gt hx hb hd ht (fun h => kt h (by rw [if_pos h] at hf; exact hf) H locs ls hP hS hl) (fun h => kf h (by rw [if_neg h] at hf; exact hf) H locs ls hP hS hl)

theorem xr_ifK_gt (B : xr_B l D ad ca cc own nL fr lo J) {x : Int32} {off : Int} {tgt : Nat} (hd : decode cc pc = .ok (.ifCond .gt off, 3)) (ht : (pc : Int) + off = (tgt : Int)) (kt : 0 < x → J tgt lv st σ) (kf : ¬ 0 < x → J (pc + 3) lv st σ) : J pc lv (.int x :: st) σ := by
  obtain ⟨p, e, R, s, m, args, below, meth, c, A, Q, cells, slots, hx, hb, hml, hown, hts, hK, hD, hA, hfr, hlo, hcl, hsl, rfl⟩ := B
  intro H locs ls hP hS hl
  exact lv_if_gt hx hb hd ht (fun h => kt h H locs ls hP hS hl) (fun h => kf h H locs ls hP hS hl)

theorem xr_if_le (B : xr_B l D ad ca cc own nL fr lo J) {x : Int32} {off : Int} {tgt : Nat} {a b : Option α} (hd : decode cc pc = .ok (.ifCond .le off, 3)) (ht : (pc : Int) + off = (tgt : Int)) (hf : (if x ≤ 0 then a else b) = some r) (kt : x ≤ 0 → a = some r → J tgt lv st σ) (kf : ¬ x ≤ 0 → b = some r → J (pc + 3) lv st σ) : J pc lv (.int x :: st) σ := by
  obtain ⟨p, e, R, s, m, args, below, meth, c, A, Q, cells, slots, hx, hb, hml, hown, hts, hK, hD, hA, hfr, hlo, hcl, hsl, rfl⟩ := B
  intro H locs ls hP hS hl
  exact lv_if_le hx hb hd ht (fun h => kt h (by rw [if_pos h] at hf; exact hf) H locs ls hP hS hl) (fun h => kf h (by rw [if_neg h] at hf; exact hf) H locs ls hP hS hl)

theorem xr_ifK_le (B : xr_B l D ad ca cc own nL fr lo J) {x : Int32} {off : Int} {tgt : Nat} (hd : decode cc pc = .ok (.ifCond .le off, 3)) (ht : (pc : Int) + off = (tgt : Int)) (kt : x ≤ 0 → J tgt lv st σ) (kf : ¬ x ≤ 0 → J (pc + 3) lv st σ) : J pc lv (.int x :: st) σ := by
  obtain ⟨p, e, R, s, m, args, below, meth, c, A, Q, cells, slots, hx, hb, hml, hown, hts, hK, hD, hA, hfr, hlo, hcl, hsl, rfl⟩ := B
  intro H locs ls hP hS hl
  exact lv_if_le hx hb hd ht (fun h => kt h H locs ls hP hS hl) (fun h => kf h H locs ls hP hS hl)

theorem xr_ic_eq (B : xr_B l D ad ca cc own nL fr lo J) {x y : Int32} {off : Int} {tgt : Nat} {a b : Option α} (hd : decode cc pc = .ok (.if_icmp .eq off, 3)) (ht : (pc : Int) + off = (tgt : Int)) (hf : (if x = y then a else b) = some r) (kt : x = y → a = some r → J tgt lv st σ) (kf : ¬ x = y → b = some r → J (pc + 3) lv st σ) : J pc lv (.int y :: .int x :: st) σ := by
  obtain ⟨p, e, R, s, m, args, below, meth, c, A, Q, cells, slots, hx, hb, hml, hown, hts, hK, hD, hA, hfr, hlo, hcl, hsl, rfl⟩ := B
  intro H locs ls hP hS hl
  exact lv_icmp_eq hx hb hd ht (fun h => kt h (by rw [if_pos h] at hf; exact hf) H locs ls hP hS hl) (fun h => kf h (by rw [if_neg h] at hf; exact hf) H locs ls hP hS hl)

theorem xr_ic_ne (B : xr_B l D ad ca cc own nL fr lo J) {x y : Int32} {off : Int} {tgt : Nat} {a b : Option α} (hd : decode cc pc = .ok (.if_icmp .ne off, 3)) (ht : (pc : Int) + off = (tgt : Int)) (hf : (if x = y then a else b) = some r) (kt : x = y → a = some r → J (pc + 3) lv st σ) (kf : ¬ x = y → b = some r → J tgt lv st σ) : J pc lv (.int y :: .int x :: st) σ := by
  obtain ⟨p, e, R, s, m, args, below, meth, c, A, Q, cells, slots, hx, hb, hml, hown, hts, hK, hD, hA, hfr, hlo, hcl, hsl, rfl⟩ := B
  intro H locs ls hP hS hl
  exact lv_icmp_ne hx hb hd ht (fun h => kf h (by rw [if_neg h] at hf; exact hf) H locs ls hP hS hl) (fun h => kt h (by rw [if_pos h] at hf; exact hf) H locs ls hP hS hl)

theorem xr_ic_lt (B : xr_B l D ad ca cc own nL fr lo J) {x y : Int32} {off : Int} {tgt : Nat} {a b : Option α} (hd : decode cc pc = .ok (.if_icmp .lt off, 3)) (ht : (pc : Int) + off = (tgt : Int)) (hf : (if x < y then a else b) = some r) (kt : x < y → a = some r → J tgt lv st σ) (kf : ¬ x < y → b = some r → J (pc + 3) lv st σ) : J pc lv (.int y :: .int x :: st) σ := by
  obtain ⟨p, e, R, s, m, args, below, meth, c, A, Q, cells, slots, hx, hb, hml, hown, hts, hK, hD, hA, hfr, hlo, hcl, hsl, rfl⟩ := B
  intro H locs ls hP hS hl
  exact lv_icmp_lt hx hb hd ht (fun h => kt h (by rw [if_pos h] at hf; exact hf) H locs ls hP hS hl) (fun h => kf h (by rw [if_neg h] at hf; exact hf) H locs ls hP hS hl)

theorem xr_ic_ge (B : xr_B l D ad ca cc own nL fr lo J) {x y : Int32} {off : Int} {tgt : Nat} {a b : Option α} (hd : decode cc pc = .ok (.if_icmp .ge off, 3)) (ht : (pc : Int) + off = (tgt : Int)) (hf : (if y ≤ x then a else b) = some r) (kt : y ≤ x → a = some r → J tgt lv st σ) (kf : ¬ y ≤ x → b = some r → J (pc + 3) lv st σ) : J pc lv (.int y :: .int x :: st) σ := by
  obtain ⟨p, e, R, s, m, args, below, meth, c, A, Q, cells, slots, hx, hb, hml, hown, hts, hK, hD, hA, hfr, hlo, hcl, hsl, rfl⟩ := B
  intro H locs ls hP hS hl
  exact lv_icmp_ge hx hb hd ht (fun h => kt h (by rw [if_pos h] at hf; exact hf) H locs ls hP hS hl) (fun h => kf h (by rw [if_neg h] at hf; exact hf) H locs ls hP hS hl)

theorem xr_ic_gt (B : xr_B l D ad ca cc own nL fr lo J) {x y : Int32} {off : Int} {tgt : Nat} {a b : Option α} (hd : decode cc pc = .ok (.if_icmp .gt off, 3)) (ht : (pc : Int) + off = (tgt : Int)) (hf : (if y < x then a else b) = some r) (kt : y < x → a = some r → J tgt lv st σ) (kf : ¬ y < x → b = some r → J (pc + 3) lv st σ) : J pc lv (.int y :: .int x :: st) σ := by
  obtain ⟨p, e, R, s, m, args, below, meth, c, A, Q, cells, slots, hx, hb, hml, hown, hts, hK, hD, hA, hfr, hlo, hcl, hsl, rfl⟩ := B
  intro H locs ls hP hS hl
  exact lv_icmp_gt hx hb hd ht (fun h => kt h (by rw [if_pos h] at hf; exact hf) H locs ls hP hS hl) (fun h => kf h (by rw [if_neg h] at hf; exact hf) H locs ls hP hS hl)

theorem xr_ic_le (B : xr_B l D ad ca cc own nL fr lo J) {x y : Int32} {off : Int} {tgt : Nat} {a b : Option α} (hd : decode cc pc = .ok (.if_icmp .le off, 3)) (ht : (pc : Int) + off = (tgt : Int)) (hf : (if x ≤ y then a else b) = some r) (kt : x ≤ y → a = some r → J tgt lv st σ) (kf : ¬ x ≤ y → b = some r → J (pc + 3) lv st σ) : J pc lv (.int y :: .int x :: st) σ := by
  obtain ⟨p, e, R, s, m, args, below, meth, c, A, Q, cells, slots, hx, hb, hml, hown, hts, hK, hD, hA, hfr, hlo, hcl, hsl, rfl⟩ := B
  intro H locs ls hP hS hl
  exact lv_icmp_le hx hb hd ht (fun h => kt h (by rw [if_pos h] at hf; exact hf) H locs ls hP hS hl) (fun h => kf h (by rw [if_neg h] at hf; exact hf) H locs ls hP hS hl)
end XR
