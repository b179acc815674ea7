theorem xq_minc : Cond.code Lib.Math.min.name Lib.Math.min.code 2 (some .int) ∈ xr_tb := xr_in 615 (by decide +kernel) rfl
theorem xq_maxc : Cond.code Lib.Math.max.name Lib.Math.max.code 2 (some .int) ∈ xr_tb := xr_in 647 (by decide +kernel) rfl
theorem xh_0 : xr_sh[0]? = some (.inr (10, [some 1, some 9, some 15, some 20, some 31, some 35, some 39, some 41, some 43, some 45, none, none])) := rfl
theorem xh_1 : xr_sh[1]? = some (.inr (6, [none, none, some 3, some 2, none, none, none, none])) := rfl
theorem xh_2 : xr_sh[2]? = some (.inl (0, 240)) := rfl
theorem xh_3 : xr_sh[3]? = some (.inr (7, [none, none, none, none, none, some 4, some 6, some 7, some 8])) := rfl
theorem xh_4 : xr_sh[4]? = some (.inr (9, [some 5])) := rfl
theorem xh_5 : xr_sh[5]? = some (.inl (0, 30)) := rfl
theorem xh_6 : xr_sh[6]? = some (.inl (0, 7)) := rfl
theorem xh_7 : xr_sh[7]? = some (.inl (0, 7)) := rfl
theorem xh_8 : xr_sh[8]? = some (.inl (0, 7)) := rfl
theorem xh_9 : xr_sh[9]? = some (.inr (7, [none, none, none, none, none, some 10, some 12, some 13, some 14])) := rfl
theorem xh_10 : xr_sh[10]? = some (.inr (9, [some 11])) := rfl
theorem xh_11 : xr_sh[11]? = some (.inl (0, 30)) := rfl
theorem xh_12 : xr_sh[12]? = some (.inl (0, 7)) := rfl
theorem xh_13 : xr_sh[13]? = some (.inl (0, 7)) := rfl
theorem xh_14 : xr_sh[14]? = some (.inl (0, 7)) := rfl
theorem xh_15 : xr_sh[15]? = some (.inr (5, [some 16, some 18, some 19, none, none, none, none, none])) := rfl
theorem xh_16 : xr_sh[16]? = some (.inr (9, [some 17])) := rfl
theorem xh_17 : xr_sh[17]? = some (.inl (0, 30)) := rfl
theorem xh_18 : xr_sh[18]? = some (.inl (0, 7)) := rfl
theorem xh_19 : xr_sh[19]? = some (.inl (0, 7)) := rfl
theorem xh_20 : xr_sh[20]? = some (.inl (3, 2)) := rfl
theorem xh_21 : xr_sh[21]? = some (.inr (5, [some 22, some 24, some 25, none, none, none, none, none])) := rfl
theorem xh_22 : xr_sh[22]? = some (.inr (9, [some 23])) := rfl
theorem xh_23 : xr_sh[23]? = some (.inl (0, 30)) := rfl
theorem xh_24 : xr_sh[24]? = some (.inl (0, 7)) := rfl
theorem xh_25 : xr_sh[25]? = some (.inl (0, 7)) := rfl
theorem xh_26 : xr_sh[26]? = some (.inr (5, [some 27, some 29, some 30, none, none, none, none, none])) := rfl
theorem xh_27 : xr_sh[27]? = some (.inr (9, [some 28])) := rfl
theorem xh_28 : xr_sh[28]? = some (.inl (0, 30)) := rfl
theorem xh_29 : xr_sh[29]? = some (.inl (0, 7)) := rfl
theorem xh_30 : xr_sh[30]? = some (.inl (0, 7)) := rfl
theorem xh_31 : xr_sh[31]? = some (.inr (0, [none, none, some 32, some 33, some 34])) := rfl
theorem xh_32 : xr_sh[32]? = some (.inl (0, 7)) := rfl
theorem xh_33 : xr_sh[33]? = some (.inl (0, 6)) := rfl
theorem xh_34 : xr_sh[34]? = some (.inl (0, 512)) := rfl
theorem xh_35 : xr_sh[35]? = some (.inr (4, [some 36, some 38])) := rfl
theorem xh_36 : xr_sh[36]? = some (.inr (9, [some 37])) := rfl
theorem xh_37 : xr_sh[37]? = some (.inl (0, 30)) := rfl
theorem xh_38 : xr_sh[38]? = some (.inl (0, 7)) := rfl
theorem xh_39 : xr_sh[39]? = some (.inr (1, [none, some 40])) := rfl
theorem xh_40 : xr_sh[40]? = some (.inl (0, 8)) := rfl
theorem xh_41 : xr_sh[41]? = some (.inr (3, [some 42])) := rfl
theorem xh_42 : xr_sh[42]? = some (.inl (0, 64)) := rfl
theorem xh_43 : xr_sh[43]? = some (.inr (8, [some 44])) := rfl
theorem xh_44 : xr_sh[44]? = some (.inl (0, 8)) := rfl
theorem xh_45 : xr_sh[45]? = some (.inr (2, [none, some 46, some 47, some 48])) := rfl
theorem xh_46 : xr_sh[46]? = some (.inl (0, 15)) := rfl
theorem xh_47 : xr_sh[47]? = some (.inl (0, 15)) := rfl
theorem xh_48 : xr_sh[48]? = some (.inl (0, 15)) := rfl
theorem xh_49 : xr_sh[49]? = some (.inr (11, [some 50, some 51, none, none, none, none, none, some 52, some 53, some 54, some 55, none, none, none, none, none, none, none, none, none, none, none, none, some 56, some 57, some 58, some 59, some 60, none, some 61, some 62, some 63, some 64, none, some 65, some 66, some 67])) := rfl
theorem xh_50 : xr_sh[50]? = some (.inl (0, 220)) := rfl
theorem xh_51 : xr_sh[51]? = some (.inl (1, 2)) := rfl
theorem xh_52 : xr_sh[52]? = some (.inl (0, 7)) := rfl
theorem xh_53 : xr_sh[53]? = some (.inl (0, 7)) := rfl
theorem xh_54 : xr_sh[54]? = some (.inl (0, 7)) := rfl
theorem xh_55 : xr_sh[55]? = some (.inl (0, 240)) := rfl
theorem xh_56 : xr_sh[56]? = some (.inl (0, 30)) := rfl
theorem xh_57 : xr_sh[57]? = some (.inl (0, 21)) := rfl
theorem xh_58 : xr_sh[58]? = some (.inl (0, 512)) := rfl
theorem xh_59 : xr_sh[59]? = some (.inl (0, 7)) := rfl
theorem xh_60 : xr_sh[60]? = some (.inl (0, 7)) := rfl
theorem xh_61 : xr_sh[61]? = some (.inl (0, 8)) := rfl
theorem xh_62 : xr_sh[62]? = some (.inl (0, 7)) := rfl
theorem xh_63 : xr_sh[63]? = some (.inl (0, 7)) := rfl
theorem xh_64 : xr_sh[64]? = some (.inl (2, 8)) := rfl
theorem xh_65 : xr_sh[65]? = some (.inl (0, 15)) := rfl
theorem xh_66 : xr_sh[66]? = some (.inl (0, 15)) := rfl
theorem xh_67 : xr_sh[67]? = some (.inl (0, 15)) := rfl
def xr_isW (c : Nat) : Prop := xr_sh[c]? = some (.inr (9, [some (c + 1)])) ∧ xr_sh[c + 1]? = some (.inl (0, 30))
def xr_isS (c : Nat) : Prop := xr_sh[c]? = some (.inr (5, [some (c + 1), some (c + 3), some (c + 4), none, none, none, none, none])) ∧ xr_isW (c + 1) ∧ xr_sh[c + 3]? = some (.inl (0, 7)) ∧ xr_sh[c + 4]? = some (.inl (0, 7))
theorem xr_isS_img {j : Nat} (h : j < 2) : xr_isS (xr_img j) := by
  match j, h with
  | 0, _ => exact ⟨rfl, ⟨rfl, rfl⟩, rfl, rfl⟩
  | 1, _ => exact ⟨rfl, ⟨rfl, rfl⟩, rfl, rfl⟩
def xr_v {α β : Type} (x : β) (k : β → Option α) : Option α := k x
def xr_pf {α : Type} (σ : xr_S) (c k : Nat) (v : Int32) (K : xr_S → Option α) : Option α := K (xr_up σ c k v)
def xr_cp {α : Type} (σ : xr_S) (c0 c1 n0 n1 : Nat) (sp dp n : Int32) (K : xr_S → Option α) : Option α := if sp < 0 ∨ dp < 0 ∨ n < 0 ∨ n0 < sp.toNatClampNeg + n.toNatClampNeg ∨ n1 < dp.toNatClampNeg + n.toNatClampNeg then none else K (xr_upF σ c1 (va_cpy (σ.1 c0) (σ.1 c1) sp.toNatClampNeg dp.toNatClampNeg n.toNatClampNeg))
def xr_le : List (Option Value) → List (Option Value) → Prop
  | [], _ => True
  | none :: r, _ :: q => xr_le r q
  | some v :: r, x :: q => x = some v ∧ xr_le r q
  | _ :: _, [] => False
theorem xr_le_at (a : List (Option Value)) : ∀ (b : List (Option Value)), xr_le a b → ∀ (i : Nat) (v : Value), a[i]? = some (some v) → b[i]? = some (some v) := by
  induction a with
  | nil => intro b _ i v h; simp at h
  | cons x t ih =>
    intro b hb i v h
    cases b with
    | nil => cases x <;> exact hb.elim
    | cons y q =>
      cases i with
      | zero =>
        simp at h
        subst h
        simp [hb.1]
      | succ i =>
        simp at h
        have hb' : xr_le t q := by
          cases x with
          | none => exact hb
          | some z => exact hb.2
        simpa using ih q hb' i v h
section XR
variable {l : Launch} {D : va_G} {ad : Nat → Nat} {ca : Nat → ClassId} {cc : ByteArray} {own : String} {nL fr lo : Nat} {J : Nat → List (Option Value) → List Value → xr_S → Prop}
variable {pc : Nat} {lv : List (Option Value)} {st : List Value} {σ : xr_S} {α β S E : Type} {r : α}
theorem xr_forget (B : xr_B l D ad ca cc own nL fr lo J) {lv2 : List (Option Value)} (h : xr_le lv2 lv) (kk : J pc lv2 st σ) : J pc lv st σ := by
  obtain ⟨p, e, R, s, m, args, below, meth, kc, A, Q, cells, slots, hx, hb, hml, hown, hts, hK, hD, hA, hfr, hlo, hcl, hsl, rfl⟩ := B
  intro H locs ls hP hS hl
  refine kk H locs ls hP hS ⟨hl.1, hl.2.1, fun q hq => ?_⟩
  obtain ⟨j, v⟩ := q
  exact hl.at (xr_le_at lv2 lv h j v ((xr_as_mem lv2 0 j v).mp hq).2)
theorem xr_top (x : Int32) {K : Int32 → Option α} (hf : xr_v x K = some r) (kk : ∀ v, K v = some r → J pc lv (.int v :: st) σ) : J pc lv (.int x :: st) σ := kk x hf
theorem xr_topl (x : Int64) {K : Int64 → Option α} (hf : xr_v x K = some r) (kk : ∀ v, K v = some r → J pc lv (.long v :: st) σ) : J pc lv (.long x :: st) σ := kk x hf
theorem xq_put (B : xr_B l D ad ca cc own nL fr lo J) {idx ci k c : Nat} {fl : List (Option Nat)} {v : Int32} {ty : FieldType} {K : xr_S → Option α} (hw : xr_fw own idx ci k ty) (hn : narrow ty (.int v) = .int v) (hfit : fits ty (.int v) = true) (hc : xr_sh[c]? = some (.inr (ci, fl))) (hk : fl[k]? = some none) (hd : decode cc pc = .ok (.putfield idx, 3)) (hf : xr_pf σ c k v K = some r) (kk : ∀ τ, K τ = some r → J (pc + 3) lv st τ) : J pc lv (.int v :: .ref (ad c) :: st) σ := xr_put B hw hn hfit hc hk hd (kk _ hf)
theorem xq_iald (B : xr_B l D ad ca cc own nL fr lo J) {c n : Nat} {i : Int32} {k : Int32 → Option α} (hc : xr_sh[c]? = some (.inl (0, n))) (hd : decode cc pc = .ok (.iaload, 1)) (hf : xr_ld σ c n i k = some r) (kk : ∀ v, k v = some r → J (pc + 1) lv (.int v :: st) σ) : J pc lv (.int i :: .ref (ad c) :: st) σ := xr_iald B hc hd hf (kk _)
theorem xq_bald (B : xr_B l D ad ca cc own nL fr lo J) {c n : Nat} {i : Int32} {k : Int32 → Option α} (hc : xr_sh[c]? = some (.inl (1, n))) (hd : decode cc pc = .ok (.baload, 1)) (hf : xr_ld σ c n i k = some r) (kk : ∀ v, k v = some r → J (pc + 1) lv (.int v :: st) σ) : J pc lv (.int i :: .ref (ad c) :: st) σ := xr_bald B hc hd hf (kk _)
theorem xq_lald (B : xr_B l D ad ca cc own nL fr lo J) {n : Nat} {i : Int32} {k : Int64 → Option α} (hc : xr_sh[64]? = some (.inl (2, n))) (hd : decode cc pc = .ok (.laload, 1)) (hf : xr_ll σ n i k = some r) (kk : ∀ v, k v = some r → J (pc + 1) lv (.long v :: st) σ) : J pc lv (.int i :: .ref (ad 64) :: st) σ := xr_lald B hc hd hf (kk _)
theorem xq_aald (B : xr_B l D ad ca cc own nL fr lo J) {c n : Nat} {i : Int32} {k : Nat → Option α} (hc : xr_sh[c]? = some (.inl (3, n))) (hd : decode cc pc = .ok (.aaload, 1)) (hf : xr_lr n i k = some r) (kk : ∀ j, j < n → k j = some r → J (pc + 1) lv (.ref (ad (xr_img j)) :: st) σ) : J pc lv (.int i :: .ref (ad c) :: st) σ := xr_aald B hc hd hf (kk _)
theorem xq_iast (B : xr_B l D ad ca cc own nL fr lo J) {c n : Nat} {i x : Int32} {k : xr_S → Option α} (hc : xr_sh[c]? = some (.inl (0, n))) (hd : decode cc pc = .ok (.iastore, 1)) (hf : xr_st σ c n i x k = some r) (kk : ∀ τ, k τ = some r → J (pc + 1) lv st τ) : J pc lv (.int x :: .int i :: .ref (ad c) :: st) σ := xr_iast B hc hd hf (kk _)
theorem xq_bast (B : xr_B l D ad ca cc own nL fr lo J) {c n : Nat} {i x : Int32} {k : xr_S → Option α} (hx0 : vp_nar .boolean x = x) (hc : xr_sh[c]? = some (.inl (1, n))) (hd : decode cc pc = .ok (.bastore, 1)) (hf : xr_st σ c n i x k = some r) (kk : ∀ τ, k τ = some r → J (pc + 1) lv st τ) : J pc lv (.int x :: .int i :: .ref (ad c) :: st) σ := xr_bast B hx0 hc hd hf (kk _)
theorem xq_last (B : xr_B l D ad ca cc own nL fr lo J) {n : Nat} {i : Int32} {x : Int64} {k : xr_S → Option α} (hc : xr_sh[64]? = some (.inl (2, n))) (hd : decode cc pc = .ok (.lastore, 1)) (hf : xr_sl σ n i x k = some r) (kk : ∀ τ, k τ = some r → J (pc + 1) lv st τ) : J pc lv (.long x :: .int i :: .ref (ad 64) :: st) σ := xr_last B hc hd hf (kk _)
theorem xq_copy (B : xr_B l D ad ca cc own nL fr lo J) {idx c0 c1 n0 n1 : Nat} {sp dp n : Int32} {K : xr_S → Option α} (hw : Cond.methodLink own idx arraycopyName ∈ xr_tb) (h0 : xr_sh[c0]? = some (.inl (0, n0))) (h1 : xr_sh[c1]? = some (.inl (0, n1))) (hfr1 : 1 ≤ fr) (hlo1 : 26 ≤ lo) (hst : (st.map fun v => v.category).sum ≤ 8) (hd : decode cc pc = .ok (.invokestatic idx, 3)) (hf : xr_cp σ c0 c1 n0 n1 sp dp n K = some r) (kk : ∀ τ, K τ = some r → J (pc + 3) lv st τ) : J pc lv (.int n :: .int dp :: .ref (ad c1) :: .int sp :: .ref (ad c0) :: st) σ := by
  unfold xr_cp at hf
  split at hf
  next => cases hf
  next h =>
    simp only [not_or] at h
    exact xr_copy B hw h0 h1 h.1 h.2.1 h.2.2.1 (Nat.not_lt.mp h.2.2.2.1) (Nat.not_lt.mp h.2.2.2.2) hfr1 hlo1 hst hd (kk _ hf)
theorem xq_zb {v : Int32} {k : Option α} (hf : xr_zb v k = some r) : (v = 0 ∨ v = 1) ∧ k = some r := by
  unfold xr_zb at hf
  split at hf
  next h => exact ⟨h, hf⟩
  next => cases hf
theorem xq_loop {body : (E → Option α) → S → (S → Option α) → Option α} {F : E → Option α} {s : S} (G : S → Prop) (GE : E → Prop) (hf : xr_lw (body F) s = some r) (hF : ∀ e, F e = some r → GE e) (h : ∀ K : E → Option α, (∀ e, K e = some r → GE e) → ∀ (s : S) (rec : S → Option α), (∀ s', rec s' = some r → G s') → body K s rec = some r → G s) : G s :=
  xr_loop G hf (fun s rec hrec hb => h F hF s rec hrec hb)
theorem xq_mmin (B : xr_B l D ad ca cc own nL fr lo J) {idx : Nat} {x y : Int32} (hw : xr_si own idx yJ9_min_7cf53) (hfr1 : 1 ≤ fr) (hlo1 : 21 ≤ lo) (hst : (st.map fun v => v.category).sum ≤ 8) (hd : decode cc pc = .ok (.invokestatic idx, 3)) (kk : J (pc + 3) lv (.int (if y < x then y else x) :: st) σ) : J pc lv (.int y :: .int x :: st) σ := by
  obtain ⟨p, e, R, s, m, args, below, meth, kc, A, Q, cells, slots, hx, hb, hml, hown, hts, hK, hD, hA, hfr, hlo, hcl, hsl, rfl⟩ := B
  intro H locs ls hP hS hl
  exact va_mmin hx hb (hml.trans hl.1.symm) hown (hts _ hw.1) (hts _ hw.2) (hts _ (xr_in 74 (by decide +kernel) rfl)) (hts _ xq_minc) (Nat.le_trans hfr1 hfr) (by omega) hcl hsl hd (kk H locs ls hP hS hl)
theorem xq_mmax (B : xr_B l D ad ca cc own nL fr lo J) {idx : Nat} {x y : Int32} (hw : xr_si own idx yJ9_max_7cf53) (hfr1 : 1 ≤ fr) (hlo1 : 21 ≤ lo) (hst : (st.map fun v => v.category).sum ≤ 8) (hd : decode cc pc = .ok (.invokestatic idx, 3)) (kk : J (pc + 3) lv (.int (if x < y then y else x) :: st) σ) : J pc lv (.int y :: .int x :: st) σ := by
  obtain ⟨p, e, R, s, m, args, below, meth, kc, A, Q, cells, slots, hx, hb, hml, hown, hts, hK, hD, hA, hfr, hlo, hcl, hsl, rfl⟩ := B
  intro H locs ls hP hS hl
  exact va_mmax hx hb (hml.trans hl.1.symm) hown (hts _ hw.1) (hts _ hw.2) (hts _ (xr_in 74 (by decide +kernel) rfl)) (hts _ xq_maxc) (Nat.le_trans hfr1 hfr) (by omega) hcl hsl hd (kk H locs ls hP hS hl)
theorem xr_tout {x : Int32} (n : Nat) (hn : n < 2 ^ 31) (h : ∀ j, j ≤ n → x ≠ nI j) : x.toInt < 0 ∨ (n : Int) < x.toInt := by
  by_cases h1 : x.toInt < 0
  · exact Or.inl h1
  · by_cases h2 : (n : Int) < x.toInt
    · exact Or.inr h2
    · exfalso
      obtain ⟨j, hj⟩ := Int.eq_ofNat_of_zero_le (Int.not_lt.mp h1)
      have hjn : j ≤ n := by omega
      refine h j hjn (Int32.toInt_inj.mp ?_)
      rw [nI_toInt (by omega), hj]
end XR
