theorem xr_wnat : Cond.native arraycopyName ∈ xr_tb := by decide +kernel
theorem xr_wsta : Cond.static arraycopyName ∈ xr_tb := by decide +kernel
theorem xr_wini : Cond.initialized "java/lang/System" ∈ xr_tb := by decide +kernel
section XR
variable {l : Launch} {D : va_G} {ad : Nat → Nat} {ca : Nat → ClassId} {cc : ByteArray} {own : String} {nL fr lo : Nat} {J : Nat → List (Option Value) → List Value → xr_S → Prop}
variable {pc : Nat} {lv : List (Option Value)} {st : List Value} {σ : xr_S} {α β S : Type} {r : α}
theorem xr_getI (B : xr_B l D ad ca cc own nL fr lo J) {idx ci k c : Nat} {fl : List (Option Nat)} (hw : xr_fi own idx ci k) (hc : xr_sh[c]? = some (.inr (ci, fl))) (hk : fl[k]? = some none) (hd : decode cc pc = .ok (.getfield idx, 3)) (kk : J (pc + 3) lv (.int (σ.1 c k) :: st) σ) : J pc lv (.ref (ad c) :: st) σ := by
  obtain ⟨p, e, R, s, m, args, below, meth, kc, A, Q, cells, slots, hx, hb, hml, hown, hts, hK, hD, hA, hfr, hlo, hcl, hsl, rfl⟩ := B
  intro H locs ls hP hS hl
  obtain ⟨C, T, N, h1, h2, h3, h4⟩ := hw
  refine va_get hx hb hts h3 hown hK.1 hP c (fs := xr_fs ad σ c 0 fl) (xr_w_is hc) h1 k h2 (hts _ h4) (fun _ h => h) (v := .int (σ.1 c k)) ?_ hd (kk H locs ls hP hS hl)
  rw [xr_fs_at, hk]; simp [xr_fv]
theorem xr_getR (B : xr_B l D ad ca cc own nL fr lo J) {idx ci k c q : Nat} {fl : List (Option Nat)} (hw : xr_fi own idx ci k) (hc : xr_sh[c]? = some (.inr (ci, fl))) (hk : fl[k]? = some (some q)) (hd : decode cc pc = .ok (.getfield idx, 3)) (kk : J (pc + 3) lv (.ref (ad q) :: st) σ) : J pc lv (.ref (ad c) :: st) σ := by
  obtain ⟨p, e, R, s, m, args, below, meth, kc, A, Q, cells, slots, hx, hb, hml, hown, hts, hK, hD, hA, hfr, hlo, hcl, hsl, rfl⟩ := B
  intro H locs ls hP hS hl
  obtain ⟨C, T, N, h1, h2, h3, h4⟩ := hw
  refine va_get hx hb hts h3 hown hK.1 hP c (fs := xr_fs ad σ c 0 fl) (xr_w_is hc) h1 k h2 (hts _ h4) (fun _ h => h) (v := .ref (ad q)) ?_ hd (kk H locs ls hP hS hl)
  rw [xr_fs_at, hk]; simp [xr_fv]
theorem xr_fs_set {ad : Nat → Nat} {σ : xr_S} {c k : Nat} {v : Int32} (fl : List (Option Nat)) (hk : fl[k]? = some none) : (xr_fs ad σ c 0 fl).set k (.int v) = xr_fs ad (xr_upF σ c (upd (σ.1 c) k v)) c 0 fl := by
  apply List.ext_getElem?
  intro i
  rw [List.getElem?_set, xr_fs_at, xr_fs_at]
  by_cases hi : k = i
  · subst hi
    have hl : k < (xr_fs ad σ c 0 fl).length := by
      have h1 : (xr_fs ad σ c 0 fl)[k]? = some (xr_fv ad σ c (0 + k) none) := by rw [xr_fs_at, hk]; rfl
      exact (List.getElem?_eq_some_iff.mp h1).1
    rw [if_pos rfl, if_pos hl, hk]
    simp [xr_fv, xr_upF, va_up, upd]
  · rw [if_neg hi]
    cases fl[i]? with
    | none => rfl
    | some o =>
      cases o with
      | none => simp [xr_fv, xr_upF, va_up, upd, Ne.symm hi]
      | some q => simp [xr_fv]
theorem xr_put (B : xr_B l D ad ca cc own nL fr lo J) {idx ci k c : Nat} {fl : List (Option Nat)} {v : Int32} {ty : FieldType} (hw : xr_fw own idx ci k ty) (hn : narrow ty (.int v) = .int v) (hfit : fits ty (.int v) = true) (hc : xr_sh[c]? = some (.inr (ci, fl))) (hk : fl[k]? = some none) (hd : decode cc pc = .ok (.putfield idx, 3)) (kk : J (pc + 3) lv st (xr_up σ c k v)) : J pc lv (.int v :: .ref (ad c) :: st) σ := by
  obtain ⟨p, e, R, s, m, args, below, meth, kc, A, Q, cells, slots, hx, hb, hml, hown, hts, hK, hD, hA, hfr, hlo, hcl, hsl, rfl⟩ := B
  intro H locs ls hP hS hl
  obtain ⟨C, T, N, ty0, h1, h2, h3, h4, h5, h6, h7, h8⟩ := hw
  have hlen : k < (xr_fs ad σ c 0 fl).length := by
    have h1 : (xr_fs ad σ c 0 fl)[k]? = some (xr_fv ad σ c (0 + k) none) := by rw [xr_fs_at, hk]; rfl
    exact (List.getElem?_eq_some_iff.mp h1).1
  have hE : (xr_w ad ca σ).set c (ad c, .inr (ci, (xr_fs ad σ c 0 fl).set k (.int v))) = xr_w ad ca (xr_up σ c k v) := xr_set (upd (σ.1 c) k v) hc (by rw [xr_fs_set fl hk]; rfl)
  refine va_put hx hb hts h3 ty0 h5 h6 hown hK.1 hP (xr_vD σ hD hA) hS c (fs := xr_fs ad σ c 0 fl) (xr_w_is hc) h1 k h2 (hts _ h4) (fun _ h => h) h7 (ty := ty) (h8 ▸ h5 k h2) hn hfit hlen hd (fun H1 locs1 hP1 _ hS1 => ?_)
  exact kk H1 locs1 ls (hE ▸ hP1) hS1 hl
theorem xr_inb {i : Int32} {n : Nat} {x : Option α} (h : (if i < 0 ∨ n ≤ i.toNatClampNeg then none else x) = some r) : vp_in i n ∧ x = some r := by
  by_cases hi : i < 0 ∨ n ≤ i.toNatClampNeg
  · rw [if_pos hi] at h; cases h
  · rw [if_neg hi] at h; exact ⟨hi, h⟩
theorem xr_iald (B : xr_B l D ad ca cc own nL fr lo J) {c n : Nat} {i : Int32} {k : Int32 → Option α} (hc : xr_sh[c]? = some (.inl (0, n))) (hd : decode cc pc = .ok (.iaload, 1)) (hf : xr_ld σ c n i k = some r) (kk : k (σ.1 c i.toNatClampNeg) = some r → J (pc + 1) lv (.int (σ.1 c i.toNatClampNeg) :: st) σ) : J pc lv (.int i :: .ref (ad c) :: st) σ := by
  obtain ⟨h1, h2⟩ := xr_inb hf
  obtain ⟨p, e, R, s, m, args, below, meth, kc, A, Q, cells, slots, hx, hb, hml, hown, hts, hK, hD, hA, hfr, hlo, hcl, hsl, rfl⟩ := B
  intro H locs ls hP hS hl
  exact va_iald hx hb (hK.one hc) hP c 0 (xr_w_is hc) rfl h1 hd (kk h2 H locs ls hP hS hl)
theorem xr_bald (B : xr_B l D ad ca cc own nL fr lo J) {c n : Nat} {i : Int32} {k : Int32 → Option α} (hc : xr_sh[c]? = some (.inl (1, n))) (hd : decode cc pc = .ok (.baload, 1)) (hf : xr_ld σ c n i k = some r) (kk : k (σ.1 c i.toNatClampNeg) = some r → J (pc + 1) lv (.int (σ.1 c i.toNatClampNeg) :: st) σ) : J pc lv (.int i :: .ref (ad c) :: st) σ := by
  obtain ⟨h1, h2⟩ := xr_inb hf
  obtain ⟨p, e, R, s, m, args, below, meth, kc, A, Q, cells, slots, hx, hb, hml, hown, hts, hK, hD, hA, hfr, hlo, hcl, hsl, rfl⟩ := B
  intro H locs ls hP hS hl
  exact va_zald hx hb (hK.one hc) hP c 0 (xr_w_is hc) rfl h1 hd (kk h2 H locs ls hP hS hl)
theorem xr_lald (B : xr_B l D ad ca cc own nL fr lo J) {c n : Nat} {i : Int32} {k : Int64 → Option α} (hc : xr_sh[c]? = some (.inl (2, n))) (hd : decode cc pc = .ok (.laload, 1)) (hf : xr_ll σ n i k = some r) (kk : k (σ.2 i.toNatClampNeg) = some r → J (pc + 1) lv (.long (σ.2 i.toNatClampNeg) :: st) σ) : J pc lv (.int i :: .ref (ad c) :: st) σ := by
  obtain ⟨h1, h2⟩ := xr_inb hf
  obtain ⟨p, e, R, s, m, args, below, meth, kc, A, Q, cells, slots, hx, hb, hml, hown, hts, hK, hD, hA, hfr, hlo, hcl, hsl, rfl⟩ := B
  intro H locs ls hP hS hl
  exact va_lald hx hb (hK.one hc) hP c 0 (xr_w_is hc) rfl h1 hd (kk h2 H locs ls hP hS hl)
theorem xr_aald (B : xr_B l D ad ca cc own nL fr lo J) {c n : Nat} {i : Int32} {k : Nat → Option α} (hc : xr_sh[c]? = some (.inl (3, n))) (hd : decode cc pc = .ok (.aaload, 1)) (hf : xr_lr n i k = some r) (kk : i.toNatClampNeg < n → k i.toNatClampNeg = some r → J (pc + 1) lv (.ref (ad (xr_img i.toNatClampNeg)) :: st) σ) : J pc lv (.int i :: .ref (ad c) :: st) σ := by
  obtain ⟨h1, h2⟩ := xr_inb hf
  have hlt : i.toNatClampNeg < n := Nat.not_le.mp fun q => h1 (Or.inr q)
  obtain ⟨p, e, R, s, m, args, below, meth, kc, A, Q, cells, slots, hx, hb, hml, hown, hts, hK, hD, hA, hfr, hlo, hcl, hsl, rfl⟩ := B
  intro H locs ls hP hS hl
  exact va_aldq (C := "SleptBread$State") hx hb (hK.one hc) hP c 0 (f := fun j => some (ad (xr_img j))) (xr_w_is hc) rfl h1 hd (kk hlt h2 H locs ls hP hS hl)
theorem xr_iast (B : xr_B l D ad ca cc own nL fr lo J) {c n : Nat} {i x : Int32} {k : xr_S → Option α} (hc : xr_sh[c]? = some (.inl (0, n))) (hd : decode cc pc = .ok (.iastore, 1)) (hf : xr_st σ c n i x k = some r) (kk : k (xr_up σ c i.toNatClampNeg x) = some r → J (pc + 1) lv st (xr_up σ c i.toNatClampNeg x)) : J pc lv (.int x :: .int i :: .ref (ad c) :: st) σ := by
  obtain ⟨h1, h2⟩ := xr_inb hf
  obtain ⟨p, e, R, s, m, args, below, meth, kc, A, Q, cells, slots, hx, hb, hml, hown, hts, hK, hD, hA, hfr, hlo, hcl, hsl, rfl⟩ := B
  intro H locs ls hP hS hl
  have hE : (xr_w ad ca σ).set c (ad c, .inl (ca c, n, .inl (upd (σ.1 c) i.toNatClampNeg x))) = xr_w ad ca (xr_up σ c i.toNatClampNeg x) := xr_set (upd (σ.1 c) i.toNatClampNeg x) hc (by simp [xr_en, xr_upF, va_up])
  exact va_iast hx hb (hK.one hc) hP (xr_vD σ hD hA) hS c 0 (xr_w_is hc) rfl h1 hd (fun H1 locs1 hP1 _ hS1 => kk h2 H1 locs1 ls (hE ▸ hP1) hS1 hl)
theorem xr_bast (B : xr_B l D ad ca cc own nL fr lo J) {c n : Nat} {i x : Int32} {k : xr_S → Option α} (hx0 : vp_nar .boolean x = x) (hc : xr_sh[c]? = some (.inl (1, n))) (hd : decode cc pc = .ok (.bastore, 1)) (hf : xr_st σ c n i x k = some r) (kk : k (xr_up σ c i.toNatClampNeg x) = some r → J (pc + 1) lv st (xr_up σ c i.toNatClampNeg x)) : J pc lv (.int x :: .int i :: .ref (ad c) :: st) σ := by
  obtain ⟨h1, h2⟩ := xr_inb hf
  obtain ⟨p, e, R, s, m, args, below, meth, kc, A, Q, cells, slots, hx, hb, hml, hown, hts, hK, hD, hA, hfr, hlo, hcl, hsl, rfl⟩ := B
  intro H locs ls hP hS hl
  have hE : (xr_w ad ca σ).set c (ad c, .inl (ca c, n, .inl (upd (σ.1 c) i.toNatClampNeg (vp_nar .boolean x)))) = xr_w ad ca (xr_up σ c i.toNatClampNeg x) := xr_set (upd (σ.1 c) i.toNatClampNeg x) hc (by rw [hx0]; simp [xr_en, xr_upF, va_up])
  exact va_zast hx hb (hK.one hc) hP (xr_vD σ hD hA) hS c 0 (xr_w_is hc) rfl h1 hd (fun H1 locs1 hP1 _ hS1 => kk h2 H1 locs1 ls (hE ▸ hP1) hS1 hl)
theorem xr_oneL : ∀ i m : Nat, xr_sh[i]? = some (.inl (2, m)) → i = 64 := by
  intro i m h
  have hi := xr_sh_lt h
  have key : ∀ j, j < 68 → (match xr_sh[j]? with | some (.inl (2, _)) => decide (j = 64) | _ => true) = true := by decide +kernel
  have := key i hi
  rw [h] at this
  simpa using this
theorem xr_last (B : xr_B l D ad ca cc own nL fr lo J) {n : Nat} {i : Int32} {x : Int64} {k : xr_S → Option α} (hc : xr_sh[64]? = some (.inl (2, n))) (hd : decode cc pc = .ok (.lastore, 1)) (hf : xr_sl σ n i x k = some r) (kk : k (xr_upL σ i.toNatClampNeg x) = some r → J (pc + 1) lv st (xr_upL σ i.toNatClampNeg x)) : J pc lv (.long x :: .int i :: .ref (ad 64) :: st) σ := by
  obtain ⟨h1, h2⟩ := xr_inb hf
  obtain ⟨p, e, R, s, m, args, below, meth, kc, A, Q, cells, slots, hx, hb, hml, hown, hts, hK, hD, hA, hfr, hlo, hcl, hsl, rfl⟩ := B
  intro H locs ls hP hS hl
  have hE : (xr_w ad ca σ).set 64 (ad 64, .inl (ca 64, n, .inr (.inl (vp_updL σ.2 i.toNatClampNeg x)))) = xr_w ad ca (xr_upL σ i.toNatClampNeg x) := xr_setL (vp_updL σ.2 i.toNatClampNeg x) hc xr_oneL
  exact va_last hx hb (hK.one hc) hP (xr_vD σ hD hA) hS 64 0 (xr_w_is hc) rfl h1 hd (fun H1 locs1 hP1 _ hS1 => kk h2 H1 locs1 ls (hE ▸ hP1) hS1 hl)
theorem xr_alen (B : xr_B l D ad ca cc own nL fr lo J) {c n : Nat} {v : Int32} (hc : xr_sh[c]? = some (.inl (0, n))) (hv : Int32.ofNat n = v) (hd : decode cc pc = .ok (.arraylength, 1)) (kk : J (pc + 1) lv (.int v :: st) σ) : J pc lv (.ref (ad c) :: st) σ := by
  obtain ⟨p, e, R, s, m, args, below, meth, kc, A, Q, cells, slots, hx, hb, hml, hown, hts, hK, hD, hA, hfr, hlo, hcl, hsl, rfl⟩ := B
  intro H locs ls hP hS hl
  exact va_alen hx hb (hK.one hc) hP c 0 (xr_w_is hc) rfl hv hd (kk H locs ls hP hS hl)
/-- a row of ints copied whole over another -/
theorem xr_copy (B : xr_B l D ad ca cc own nL fr lo J) {idx c0 c1 n0 n1 : Nat} {sp dp n : Int32} (hw : Cond.methodLink own idx arraycopyName ∈ xr_tb) (h0 : xr_sh[c0]? = some (.inl (0, n0))) (h1 : xr_sh[c1]? = some (.inl (0, n1))) (a1 : ¬ sp < 0) (a2 : ¬ dp < 0) (a3 : ¬ n < 0) (a4 : sp.toNatClampNeg + n.toNatClampNeg ≤ n0) (a5 : dp.toNatClampNeg + n.toNatClampNeg ≤ n1)
    (hfr1 : 1 ≤ fr) (hlo1 : 26 ≤ lo) (hst : (st.map fun v => v.category).sum ≤ 8) (hd : decode cc pc = .ok (.invokestatic idx, 3)) (kk : J (pc + 3) lv st (xr_upF σ c1 (va_cpy (σ.1 c0) (σ.1 c1) sp.toNatClampNeg dp.toNatClampNeg n.toNatClampNeg))) : J pc lv (.int n :: .int dp :: .ref (ad c1) :: .int sp :: .ref (ad c0) :: st) σ := by
  obtain ⟨p, e, R, s, m, args, below, meth, kc, A, Q, cells, slots, hx, hb, hml, hown, hts, hK, hD, hA, hfr, hlo, hcl, hsl, rfl⟩ := B
  intro H locs ls hP hS hl
  have hE : (xr_w ad ca σ).set c1 (ad c1, .inl (ca c1, n1, .inl (va_cpy (σ.1 c0) (σ.1 c1) sp.toNatClampNeg dp.toNatClampNeg n.toNatClampNeg))) = xr_w ad ca (xr_upF σ c1 (va_cpy (σ.1 c0) (σ.1 c1) sp.toNatClampNeg dp.toNatClampNeg n.toNatClampNeg)) := xr_set _ h1 (by simp [xr_en, xr_upF, va_up])
  refine va_copyi hx hb (hml.trans hl.1.symm) hown (hts _ hw) (hts _ xr_wnat) (hts _ xr_wsta) (hts _ xr_wini) (hK.two h0 h1) hP (xr_vD σ hD hA) hS c0 c1 0 1 (xr_w_is h0) (xr_w_is h1) rfl rfl rfl a1 a2 a3 a4 a5 (fun i _ => rfl) (Nat.le_trans hfr1 hfr) ?_ hd (fun H1 locs1 hP1 _ hS1 => kk H1 locs1 ls (hE ▸ hP1) hS1 hl)
  have : nativeFrameWords "java/lang/System" "arraycopy" 5 = 7 := by decide +kernel
  omega
/-- a loop: by the turns that its function takes -/
theorem xr_loopN {body : S → (S → Option α) → Option α} (G : S → Prop) (h : ∀ (s : S) (rec : S → Option α), (∀ s', rec s' = some r → G s') → body s rec = some r → G s) : ∀ (n : Nat) (s : S), xr_lp body n s = some r → G s := by
  intro n
  induction n with
  | zero => intro s hn; cases hn
  | succ n ih => intro s hn; exact h s (xr_lp body n) ih hn
theorem xr_loop {body : S → (S → Option α) → Option α} (G : S → Prop) {s : S} (hf : xr_lw body s = some r) (h : ∀ (s : S) (rec : S → Option α), (∀ s', rec s' = some r → G s') → body s rec = some r → G s) : G s := by
  obtain ⟨n, hn⟩ := xr_lw_some hf
  exact xr_loopN G h n s hn
/-- a place where two ways meet -/
theorem xr_meet {F : β → Option α} {G : (β → Option α) → Option α} {P : Prop} (K : β → Prop) (hf : xr_jn F G = some r) (hj : ∀ a, F a = some r → K a) (kk : ∀ j : β → Option α, (∀ a, j a = some r → K a) → G j = some r → P) : P := kk F hj hf
theorem xr_bnd {x : Option β} {k : β → Option α} (h : x.bind k = some r) : ∃ v, x = some v ∧ k v = some r := by
  cases x with
  | none => cases h
  | some v => exact ⟨v, rfl, h⟩
/-! CALLS -/
theorem xr_good {y : MethodName} {b : ByteArray} {n np : Nat} {rt : Option FieldType} (h : xr_mi y b n rt np) : GoodIn xr_tb (Cond.code y b n rt :: xr_tb) := by
  intro w hw
  rcases List.mem_cons.mp hw with rfl | hw
  · exact ⟨h.1, Or.inl rfl⟩
  · exact ⟨hw, good_of_word (List.mem_filter.mp hw).2⟩
theorem xr_blind {D : va_G} {ad : Nat → Nat} {ca : Nat → ClassId} {As : List Value} {σ : xr_S} : FrameBlind (va_Pc As (xr_PB D ad ca σ)) := fun a U g mk q => ⟨q.1, q.2.1, xr_K.moved (u := U) (U := U.calling g mk a) (Vm.Alike.refl U.vm) q.2.2.1, q.2.2.2⟩
/-- behind a call: what came back -/
theorem xr_back {p : Program} {l : Launch} {e : Env} {R : Room} {s : State} {m : MethodId} {args : Array Value} {below : List Frame} {meth : Method} {c : Code} {H : Heap} {locs : List Loc} {cells slots : Nat} {Q : State → Prop} {D : va_G} {ad : Nat → Nat} {ca : Nat → ClassId} {A : Nat → Prop} {H0 : Heap} {rv : Option Value} {ρ : xr_S} {a : Array Value} {pc : Nat} {ls : Array Slot} {st0 rest : List Value}
    (hr : va_Run p l e R s m args below meth c H locs cells slots 0 0 (F0 m pc ls st0) rest (xr_Q D ad ca rv ρ a) (xr_A ad)) (hS : va_S A H0 H locs) (hA : ∀ i, i < 68 → A (ad i))
    (kk : ∀ (H1 : Heap) (locs1 : List Loc), va_P D vwCl (xr_w ad ca ρ) H1 → va_S A H0 H1 locs1 → W p l e R s m args below meth c H1 locs1 cells slots Q (F0 m (pc + 3) ls (rv.toList ++ rest))) : W p l e R s m args below meth c H locs cells slots Q (F0 m pc ls st0) := by
  intro T hT X
  obtain ⟨v, st₀, t, T', L, h0, X', hL, e1, e2, ⟨hv, hp, hz, hk⟩, hst⟩ := hr T hT X
  cases hv
  rw [h0] at hz hk
  have hAA : ∀ q, xr_A ad q → A q := fun q ⟨i, hi, hq⟩ => hq ▸ hA i hi
  obtain ⟨t2, a1, b1⟩ := kk T'.heap (locs ++ L) (by rw [e1]; exact hp)
    ⟨Nat.le_trans hS.1 (by rw [e1]; exact hz), fun q h1 h2 => by rw [e1, hk q (Nat.lt_of_lt_of_le h1 hS.1) (fun z => h2 (hAA q z))]; exact hS.2.1 q h1 h2, fun q hq => by
      rcases List.mem_append.mp hq with h | h
      · exact hS.2.2 q h
      · exact hAA _ (hL q h)⟩ T' rfl X'
  exact ⟨t2, hst t2 a1, b1⟩
theorem xr_runV (B : xr_B l D ad ca cc own nL fr lo J) {idx n np fr1 lo1 ci q : Nat} {y : MethodName} {b : ByteArray} {rt : Option FieldType} {fl : List (Option Nat)} {As rest : List Value} {rv : Option Value} {ρ : xr_S} (hmi : xr_mi y b n rt np) (hvi : xr_vi own idx y) (hM : xr_M l D ad ca y b n rt fr1 lo1 (.ref (ad q) :: As) σ rv ρ) (hq : xr_sh[q]? = some (.inr (ci, fl))) (hC : (vwCl[ci]?).map (fun x => x.1) = some y.cls) (hn : As.length = np) (hR : fr1 + 1 ≤ fr ∧ 8 + (n + 11) + lo1 ≤ lo) (hst : st = As.reverse ++ .ref (ad q) :: rest) (hcat : (rest.map fun v => v.category).sum ≤ 8) (hd : decode cc pc = .ok (.invokevirtual idx, 3)) (kk : J (pc + 3) lv (rv.toList ++ rest) ρ) : J pc lv st σ := by
  obtain ⟨p, e, R, s, m, args, below, meth, kc, A, Q, cells, slots, hx, hb, hml, hown, hts, hK, hD, hA, hfr, hlo, hcl, hsl, rfl⟩ := B
  intro H locs ls hP hS hl
  have cb : CallB R s args own idx y b n rt (Cond.code y b n rt :: xr_tb) ({ frames := fr1, cells := 0, slots := 0, locals := lo1 } : Room) 0 0 np := callB_of np hts (xr_good hmi) rfl rfl rfl (hts _ hmi.2.1) (hts _ hvi.1) ⟨hmi.2.2.2.1, hmi.2.2.2.2.1, hmi.2.2.2.2.2⟩ ⟨Nat.le_trans hR.1 hfr, Nat.le_trans hR.2 hlo⟩
  have cw : CallW R s args own y.cls idx y b n rt (Cond.code y b n rt :: xr_tb) ({ frames := fr1, cells := 0, slots := 0, locals := lo1 } : Room) 0 0 np := ⟨cb, hts _ hvi.2.1, hts _ hvi.2.2⟩
  have hrec : ∃ cell : Cell, H[ad q]? = some cell ∧ cell.vm.isStatics = false ∧ s.vm.findClass y.cls = some cell.cls := by
    cases hx0 : vwCl[ci]? with
    | none => rw [hx0] at hC; cases hC
    | some z =>
      rw [hx0] at hC
      have := va_recv hK.1 hP hx0 (xr_w_is hq)
      rw [← Option.some.inj hC]; exact this
  have hrun := va_runV (C := y.cls) (As := As) (rest := rest) (H := H) (locs := locs) (cells := cells) (slots := slots) (l := l) (e := e) (below := below) (meth := meth) (g := F0 m pc ls st) ⟨hx, hb, hml, hown, hts⟩ hM cw ⟨xr_blind, hrec, fun U hU hW => ⟨rfl, by rw [hU]; exact hP, xr_K.moved hW.alike hK, hD⟩⟩ rfl hn hl.1 hst (lv_room hcat) hd ⟨hcl, hsl⟩
  exact xr_back hrun hS hA (fun H1 locs1 hP1 hS1 => kk H1 locs1 ls hP1 hS1 hl)
theorem xr_runS (B : xr_B l D ad ca cc own nL fr lo J) {idx n np fr1 lo1 : Nat} {y : MethodName} {b : ByteArray} {rt : Option FieldType} {As rest : List Value} {rv : Option Value} {ρ : xr_S} (hmi : xr_mi y b n rt np) (hvi : xr_si own idx y) (hM : xr_M l D ad ca y b n rt fr1 lo1 As σ rv ρ) (hn : As.length = np) (hR : fr1 + 1 ≤ fr ∧ 8 + (n + 11) + lo1 ≤ lo) (hst : st = As.reverse ++ rest) (hcat : (rest.map fun v => v.category).sum ≤ 8) (hd : decode cc pc = .ok (.invokestatic idx, 3)) (kk : J (pc + 3) lv (rv.toList ++ rest) ρ) : J pc lv st σ := by
  obtain ⟨p, e, R, s, m, args, below, meth, kc, A, Q, cells, slots, hx, hb, hml, hown, hts, hK, hD, hA, hfr, hlo, hcl, hsl, rfl⟩ := B
  intro H locs ls hP hS hl
  have cb : CallB R s args own idx y b n rt (Cond.code y b n rt :: xr_tb) ({ frames := fr1, cells := 0, slots := 0, locals := lo1 } : Room) 0 0 np := callB_of np hts (xr_good hmi) rfl rfl rfl (hts _ hmi.2.1) (hts _ hvi.1) ⟨hmi.2.2.2.1, hmi.2.2.2.2.1, hmi.2.2.2.2.2⟩ ⟨Nat.le_trans hR.1 hfr, Nat.le_trans hR.2 hlo⟩
  have hrun := va_runS (As := As) (rest := rest) (H := H) (locs := locs) (cells := cells) (slots := slots) (l := l) (e := e) (below := below) (meth := meth) (g := F0 m pc ls st) ⟨hx, hb, hml, hown, hts⟩ hM ⟨cb, hts _ hvi.2⟩ ⟨xr_blind, fun U hU hW => ⟨rfl, by rw [hU]; exact hP, xr_K.moved hW.alike hK, hD⟩⟩ rfl hn hl.1 hst (lv_room hcat) hd ⟨hcl, hsl⟩
  exact xr_back hrun hS hA (fun H1 locs1 hP1 hS1 => kk H1 locs1 ls hP1 hS1 hl)
theorem xr_cVi (B : xr_B l D ad ca cc own nL fr lo J) {idx n np fr1 lo1 ci q : Nat} {y : MethodName} {b : ByteArray} {rt : Option FieldType} {fl : List (Option Nat)} {rest : List Value} {x : Option Int32} {k : Int32 → Option α} (As : List Value) (hmi : xr_mi y b n rt np) (hvi : xr_vi own idx y) (hM : ∀ v, x = some v → xr_M l D ad ca y b n rt fr1 lo1 (.ref (ad q) :: As) σ (some (.int v)) σ) (hq : xr_sh[q]? = some (.inr (ci, fl))) (hC : (vwCl[ci]?).map (fun x => x.1) = some y.cls) (hn : As.length = np) (hR : fr1 + 1 ≤ fr ∧ 8 + (n + 11) + lo1 ≤ lo) (hst : st = As.reverse ++ .ref (ad q) :: rest) (hcat : (rest.map fun v => v.category).sum ≤ 8) (hd : decode cc pc = .ok (.invokevirtual idx, 3)) (hf : x.bind k = some r) (kk : ∀ v, k v = some r → J (pc + 3) lv (.int v :: rest) σ) : J pc lv st σ := by
  obtain ⟨v, h1, h2⟩ := xr_bnd hf
  exact xr_runV B hmi hvi (hM v h1) hq hC hn hR hst hcat hd (kk v h2)
theorem xr_cVl (B : xr_B l D ad ca cc own nL fr lo J) {idx n np fr1 lo1 ci q : Nat} {y : MethodName} {b : ByteArray} {rt : Option FieldType} {fl : List (Option Nat)} {rest : List Value} {x : Option Int64} {k : Int64 → Option α} (As : List Value) (hmi : xr_mi y b n rt np) (hvi : xr_vi own idx y) (hM : ∀ v, x = some v → xr_M l D ad ca y b n rt fr1 lo1 (.ref (ad q) :: As) σ (some (.long v)) σ) (hq : xr_sh[q]? = some (.inr (ci, fl))) (hC : (vwCl[ci]?).map (fun x => x.1) = some y.cls) (hn : As.length = np) (hR : fr1 + 1 ≤ fr ∧ 8 + (n + 11) + lo1 ≤ lo) (hst : st = As.reverse ++ .ref (ad q) :: rest) (hcat : (rest.map fun v => v.category).sum ≤ 8) (hd : decode cc pc = .ok (.invokevirtual idx, 3)) (hf : x.bind k = some r) (kk : ∀ v, k v = some r → J (pc + 3) lv (.long v :: rest) σ) : J pc lv st σ := by
  obtain ⟨v, h1, h2⟩ := xr_bnd hf
  exact xr_runV B hmi hvi (hM v h1) hq hC hn hR hst hcat hd (kk v h2)
theorem xr_cVI (B : xr_B l D ad ca cc own nL fr lo J) {idx n np fr1 lo1 ci q : Nat} {y : MethodName} {b : ByteArray} {rt : Option FieldType} {fl : List (Option Nat)} {rest : List Value} {x : Option (Int32 × xr_S)} {k : (Int32 × xr_S) → Option α} (As : List Value) (hmi : xr_mi y b n rt np) (hvi : xr_vi own idx y) (hM : ∀ v, x = some v → xr_M l D ad ca y b n rt fr1 lo1 (.ref (ad q) :: As) σ (some (.int v.1)) v.2) (hq : xr_sh[q]? = some (.inr (ci, fl))) (hC : (vwCl[ci]?).map (fun x => x.1) = some y.cls) (hn : As.length = np) (hR : fr1 + 1 ≤ fr ∧ 8 + (n + 11) + lo1 ≤ lo) (hst : st = As.reverse ++ .ref (ad q) :: rest) (hcat : (rest.map fun v => v.category).sum ≤ 8) (hd : decode cc pc = .ok (.invokevirtual idx, 3)) (hf : x.bind k = some r) (kk : ∀ v, k v = some r → J (pc + 3) lv (.int v.1 :: rest) v.2) : J pc lv st σ := by
  obtain ⟨v, h1, h2⟩ := xr_bnd hf
  exact xr_runV B hmi hvi (hM v h1) hq hC hn hR hst hcat hd (kk v h2)
theorem xr_cVv (B : xr_B l D ad ca cc own nL fr lo J) {idx n np fr1 lo1 ci q : Nat} {y : MethodName} {b : ByteArray} {rt : Option FieldType} {fl : List (Option Nat)} {rest : List Value} {x : Option xr_S} {k : xr_S → Option α} (As : List Value) (hmi : xr_mi y b n rt np) (hvi : xr_vi own idx y) (hM : ∀ v, x = some v → xr_M l D ad ca y b n rt fr1 lo1 (.ref (ad q) :: As) σ (none) v) (hq : xr_sh[q]? = some (.inr (ci, fl))) (hC : (vwCl[ci]?).map (fun x => x.1) = some y.cls) (hn : As.length = np) (hR : fr1 + 1 ≤ fr ∧ 8 + (n + 11) + lo1 ≤ lo) (hst : st = As.reverse ++ .ref (ad q) :: rest) (hcat : (rest.map fun v => v.category).sum ≤ 8) (hd : decode cc pc = .ok (.invokevirtual idx, 3)) (hf : x.bind k = some r) (kk : ∀ v, k v = some r → J (pc + 3) lv (rest) v) : J pc lv st σ := by
  obtain ⟨v, h1, h2⟩ := xr_bnd hf
  exact xr_runV B hmi hvi (hM v h1) hq hC hn hR hst hcat hd (kk v h2)
theorem xr_cSi (B : xr_B l D ad ca cc own nL fr lo J) {idx n np fr1 lo1 : Nat} {y : MethodName} {b : ByteArray} {rt : Option FieldType} {rest : List Value} {x : Option Int32} {k : Int32 → Option α} (As : List Value) (hmi : xr_mi y b n rt np) (hvi : xr_si own idx y) (hM : ∀ v, x = some v → xr_M l D ad ca y b n rt fr1 lo1 As σ (some (.int v)) σ) (hn : As.length = np) (hR : fr1 + 1 ≤ fr ∧ 8 + (n + 11) + lo1 ≤ lo) (hst : st = As.reverse ++ rest) (hcat : (rest.map fun v => v.category).sum ≤ 8) (hd : decode cc pc = .ok (.invokestatic idx, 3)) (hf : x.bind k = some r) (kk : ∀ v, k v = some r → J (pc + 3) lv (.int v :: rest) σ) : J pc lv st σ := by
  obtain ⟨v, h1, h2⟩ := xr_bnd hf
  exact xr_runS B hmi hvi (hM v h1) hn hR hst hcat hd (kk v h2)
theorem xr_cSl (B : xr_B l D ad ca cc own nL fr lo J) {idx n np fr1 lo1 : Nat} {y : MethodName} {b : ByteArray} {rt : Option FieldType} {rest : List Value} {x : Option Int64} {k : Int64 → Option α} (As : List Value) (hmi : xr_mi y b n rt np) (hvi : xr_si own idx y) (hM : ∀ v, x = some v → xr_M l D ad ca y b n rt fr1 lo1 As σ (some (.long v)) σ) (hn : As.length = np) (hR : fr1 + 1 ≤ fr ∧ 8 + (n + 11) + lo1 ≤ lo) (hst : st = As.reverse ++ rest) (hcat : (rest.map fun v => v.category).sum ≤ 8) (hd : decode cc pc = .ok (.invokestatic idx, 3)) (hf : x.bind k = some r) (kk : ∀ v, k v = some r → J (pc + 3) lv (.long v :: rest) σ) : J pc lv st σ := by
  obtain ⟨v, h1, h2⟩ := xr_bnd hf
  exact xr_runS B hmi hvi (hM v h1) hn hR hst hcat hd (kk v h2)
theorem xr_cSI (B : xr_B l D ad ca cc own nL fr lo J) {idx n np fr1 lo1 : Nat} {y : MethodName} {b : ByteArray} {rt : Option FieldType} {rest : List Value} {x : Option (Int32 × xr_S)} {k : (Int32 × xr_S) → Option α} (As : List Value) (hmi : xr_mi y b n rt np) (hvi : xr_si own idx y) (hM : ∀ v, x = some v → xr_M l D ad ca y b n rt fr1 lo1 As σ (some (.int v.1)) v.2) (hn : As.length = np) (hR : fr1 + 1 ≤ fr ∧ 8 + (n + 11) + lo1 ≤ lo) (hst : st = As.reverse ++ rest) (hcat : (rest.map fun v => v.category).sum ≤ 8) (hd : decode cc pc = .ok (.invokestatic idx, 3)) (hf : x.bind k = some r) (kk : ∀ v, k v = some r → J (pc + 3) lv (.int v.1 :: rest) v.2) : J pc lv st σ := by
  obtain ⟨v, h1, h2⟩ := xr_bnd hf
  exact xr_runS B hmi hvi (hM v h1) hn hR hst hcat hd (kk v h2)
theorem xr_cSv (B : xr_B l D ad ca cc own nL fr lo J) {idx n np fr1 lo1 : Nat} {y : MethodName} {b : ByteArray} {rt : Option FieldType} {rest : List Value} {x : Option xr_S} {k : xr_S → Option α} (As : List Value) (hmi : xr_mi y b n rt np) (hvi : xr_si own idx y) (hM : ∀ v, x = some v → xr_M l D ad ca y b n rt fr1 lo1 As σ (none) v) (hn : As.length = np) (hR : fr1 + 1 ≤ fr ∧ 8 + (n + 11) + lo1 ≤ lo) (hst : st = As.reverse ++ rest) (hcat : (rest.map fun v => v.category).sum ≤ 8) (hd : decode cc pc = .ok (.invokestatic idx, 3)) (hf : x.bind k = some r) (kk : ∀ v, k v = some r → J (pc + 3) lv (rest) v) : J pc lv st σ := by
  obtain ⟨v, h1, h2⟩ := xr_bnd hf
  exact xr_runS B hmi hvi (hM v h1) hn hR hst hcat hd (kk v h2)
/-! SWITCHES: one entry after the other -/
theorem xr_tabO (B : xr_B l D ad ca cc own nL fr lo J) {dflt lo1 hi : Int} {offs : Array Int} {len tgt : Nat} {x : Int32} (hd : decode cc pc = .ok (.tableswitch dflt lo1 hi offs, len)) (h : x.toInt < lo1 ∨ hi < x.toInt) (ht : (pc : Int) + dflt = (tgt : Int)) (kk : J tgt lv st σ) : J pc lv (.int x :: st) σ := by
  obtain ⟨p, e, R, s, m, args, below, meth, kc, A, Q, cells, slots, hx, hb, hml, hown, hts, hK, hD, hA, hfr, hlo, hcl, hsl, rfl⟩ := B
  intro H locs ls hP hS hl
  exact lv_tableOut hx hb hd h ht (kk H locs ls hP hS hl)
theorem xr_tabI (B : xr_B l D ad ca cc own nL fr lo J) {dflt lo1 hi off : Int} {offs : Array Int} {len tgt : Nat} {x : Int32} (hd : decode cc pc = .ok (.tableswitch dflt lo1 hi offs, len)) (h1 : ¬ x.toInt < lo1) (h2 : ¬ hi < x.toInt) (ho : offs[(x.toInt - lo1).toNat]? = some off) (ht : (pc : Int) + off = (tgt : Int)) (kk : J tgt lv st σ) : J pc lv (.int x :: st) σ := by
  obtain ⟨p, e, R, s, m, args, below, meth, kc, A, Q, cells, slots, hx, hb, hml, hown, hts, hK, hD, hA, hfr, hlo, hcl, hsl, rfl⟩ := B
  intro H locs ls hP hS hl
  exact lv_tableIn hx hb hd h1 h2 ho ht (kk H locs ls hP hS hl)
theorem xr_look (B : xr_B l D ad ca cc own nL fr lo J) {dflt off : Int} {ps : Array (Int × Int)} {len tgt : Nat} {x : Int32} (hd : decode cc pc = .ok (.lookupswitch dflt ps, len)) (hp : (ps.toList.zip (ps.toList.drop 1)).all (fun (a, next) => a.1 < next.1) = true) (ho : Op.lookupswitch.offset ps.toList dflt x.toInt = off) (ht : (pc : Int) + off = (tgt : Int)) (kk : J tgt lv st σ) : J pc lv (.int x :: st) σ := by
  obtain ⟨p, e, R, s, m, args, below, meth, kc, A, Q, cells, slots, hx, hb, hml, hown, hts, hK, hD, hA, hfr, hlo, hcl, hsl, rfl⟩ := B
  intro H locs ls hP hS hl
  exact lv_lookup hx hb hd hp ho ht (kk H locs ls hP hS hl)
/-! THE END of a method, and its beginning -/
def xr_Ri (b : ByteArray) (rv : Option Value) (ρ : xr_S) (J : Nat → List (Option Value) → List Value → xr_S → Prop) : Prop := ∀ (pc : Nat) (lv : List (Option Value)) (v : Int32), decode b pc = .ok (.ireturn, 1) → rv = some (.int v) → J pc lv [.int v] ρ
def xr_Rz (b : ByteArray) (rv : Option Value) (ρ : xr_S) (J : Nat → List (Option Value) → List Value → xr_S → Prop) : Prop := ∀ (pc : Nat) (lv : List (Option Value)) (v : Int32), v = 0 ∨ v = 1 → decode b pc = .ok (.ireturn, 1) → rv = some (.int v) → J pc lv [.int v] ρ
def xr_Rl (b : ByteArray) (rv : Option Value) (ρ : xr_S) (J : Nat → List (Option Value) → List Value → xr_S → Prop) : Prop := ∀ (pc : Nat) (lv : List (Option Value)) (v : Int64), decode b pc = .ok (.lreturn, 1) → rv = some (.long v) → J pc lv [.long v] ρ
def xr_Rv (b : ByteArray) (rv : Option Value) (ρ : xr_S) (J : Nat → List (Option Value) → List Value → xr_S → Prop) : Prop := ∀ (pc : Nat) (lv : List (Option Value)), decode b pc = .ok (.return_, 1) → rv = none → J pc lv [] ρ
end XR
theorem xr_openI {l : Launch} {D : va_G} {ad : Nat → Nat} {ca : Nat → ClassId} {y : MethodName} {b : ByteArray} {n np fr lo : Nat} {As : List Value} {σ ρ : xr_S} {rv : Option Value} (lv0 : List (Option Value)) (hmi : xr_mi y b n (some .int) np) (hn : (lg_sl As).length ≤ n) (h0 : xr_as 0 lv0 = lv_args 0 As) (k : ∀ J, xr_B l D ad ca b y.cls n fr lo J → xr_Ri b rv ρ J → J 0 lv0 [] σ) : xr_M l D ad ca y b n (some .int) fr lo As σ rv ρ := by
  refine Met.ofW (cc := b) (maxL := n) (ret := some .int) hmi.2.2.1 rfl ?_
  intro p e s m args below meth c s₁ B hml hv
  obtain ⟨rfl, hP, hK, hD⟩ := hv
  have hts0 := atoms_spec (ws := Cond.code y b n (some .int) :: xr_tb) B.pre
  have hts : ∀ w ∈ xr_tb, w.before As.toArray s = true := fun w hw => hts0 w (List.mem_cons_of_mem _ hw)
  have hown : s.vm.findClass y.cls = some m.cls := findClass_of_methodNamed B.named
  have hlocks := B.notSynchronized
  have hl := lv_entry As (n := n) hn
  rw [lg_entry_eq]
  have hb := B.bytes
  have hx := B.exec
  have hr := B.returns
  refine k (fun pc lv st σ => ∀ (H : Heap) (locs : List Loc) (ls : Array Slot), va_P D vwCl (xr_w ad ca σ) H → va_S (xr_A ad) s.heap H locs → xr_lv ls n lv → W p l e _ s m As.toArray below meth c H locs 0 0 (MQ below (xr_Q D ad ca rv ρ) As.toArray s 0 0 (xr_A ad)) (F0 m pc ls st)) ?_ ?_ s.heap [] _ hP va_S.rf ?_
  · exact ⟨p, e, _, s, m, As.toArray, below, meth, c, xr_A ad, _, 0, 0, hx, hb, hml, hown, hts, hK, hD, fun i hi => ⟨i, hi, rfl⟩, Nat.le_refl _, Nat.le_refl _, Nat.zero_le _, Nat.zero_le _, rfl⟩
  · intro pc lv v hd hrv H locs ls hP hS hl
    subst hrv
    exact W.iret hx hb hr (fun t ht _ => ⟨rfl, by rw [ht]; exact hP, hS.F ht⟩) (fun q hq => hS.2.2 q hq) hd hlocks
  · show lv_has _ n (xr_as 0 lv0)
    rw [h0]
    exact hl
theorem xr_openZ {l : Launch} {D : va_G} {ad : Nat → Nat} {ca : Nat → ClassId} {y : MethodName} {b : ByteArray} {n np fr lo : Nat} {As : List Value} {σ ρ : xr_S} {rv : Option Value} (lv0 : List (Option Value)) (hmi : xr_mi y b n (some .boolean) np) (hn : (lg_sl As).length ≤ n) (h0 : xr_as 0 lv0 = lv_args 0 As) (k : ∀ J, xr_B l D ad ca b y.cls n fr lo J → xr_Rz b rv ρ J → J 0 lv0 [] σ) : xr_M l D ad ca y b n (some .boolean) fr lo As σ rv ρ := by
  refine Met.ofW (cc := b) (maxL := n) (ret := some .boolean) hmi.2.2.1 rfl ?_
  intro p e s m args below meth c s₁ B hml hv
  obtain ⟨rfl, hP, hK, hD⟩ := hv
  have hts0 := atoms_spec (ws := Cond.code y b n (some .boolean) :: xr_tb) B.pre
  have hts : ∀ w ∈ xr_tb, w.before As.toArray s = true := fun w hw => hts0 w (List.mem_cons_of_mem _ hw)
  have hown : s.vm.findClass y.cls = some m.cls := findClass_of_methodNamed B.named
  have hlocks := B.notSynchronized
  have hl := lv_entry As (n := n) hn
  rw [lg_entry_eq]
  have hb := B.bytes
  have hx := B.exec
  have hr := B.returns
  refine k (fun pc lv st σ => ∀ (H : Heap) (locs : List Loc) (ls : Array Slot), va_P D vwCl (xr_w ad ca σ) H → va_S (xr_A ad) s.heap H locs → xr_lv ls n lv → W p l e _ s m As.toArray below meth c H locs 0 0 (MQ below (xr_Q D ad ca rv ρ) As.toArray s 0 0 (xr_A ad)) (F0 m pc ls st)) ?_ ?_ s.heap [] _ hP va_S.rf ?_
  · exact ⟨p, e, _, s, m, As.toArray, below, meth, c, xr_A ad, _, 0, 0, hx, hb, hml, hown, hts, hK, hD, fun i hi => ⟨i, hi, rfl⟩, Nat.le_refl _, Nat.le_refl _, Nat.zero_le _, Nat.zero_le _, rfl⟩
  · intro pc lv v hv hd hrv H locs ls hP hS hl
    subst hrv
    exact W.zret hx hb hr (by rcases hv with rfl | rfl <;> rfl) (fun t ht _ => ⟨rfl, by rw [ht]; exact hP, hS.F ht⟩) (fun q hq => hS.2.2 q hq) hd hlocks
  · show lv_has _ n (xr_as 0 lv0)
    rw [h0]
    exact hl
theorem xr_openL {l : Launch} {D : va_G} {ad : Nat → Nat} {ca : Nat → ClassId} {y : MethodName} {b : ByteArray} {n np fr lo : Nat} {As : List Value} {σ ρ : xr_S} {rv : Option Value} (lv0 : List (Option Value)) (hmi : xr_mi y b n (some .long) np) (hn : (lg_sl As).length ≤ n) (h0 : xr_as 0 lv0 = lv_args 0 As) (k : ∀ J, xr_B l D ad ca b y.cls n fr lo J → xr_Rl b rv ρ J → J 0 lv0 [] σ) : xr_M l D ad ca y b n (some .long) fr lo As σ rv ρ := by
  refine Met.ofW (cc := b) (maxL := n) (ret := some .long) hmi.2.2.1 rfl ?_
  intro p e s m args below meth c s₁ B hml hv
  obtain ⟨rfl, hP, hK, hD⟩ := hv
  have hts0 := atoms_spec (ws := Cond.code y b n (some .long) :: xr_tb) B.pre
  have hts : ∀ w ∈ xr_tb, w.before As.toArray s = true := fun w hw => hts0 w (List.mem_cons_of_mem _ hw)
  have hown : s.vm.findClass y.cls = some m.cls := findClass_of_methodNamed B.named
  have hlocks := B.notSynchronized
  have hl := lv_entry As (n := n) hn
  rw [lg_entry_eq]
  have hb := B.bytes
  have hx := B.exec
  have hr := B.returns
  refine k (fun pc lv st σ => ∀ (H : Heap) (locs : List Loc) (ls : Array Slot), va_P D vwCl (xr_w ad ca σ) H → va_S (xr_A ad) s.heap H locs → xr_lv ls n lv → W p l e _ s m As.toArray below meth c H locs 0 0 (MQ below (xr_Q D ad ca rv ρ) As.toArray s 0 0 (xr_A ad)) (F0 m pc ls st)) ?_ ?_ s.heap [] _ hP va_S.rf ?_
  · exact ⟨p, e, _, s, m, As.toArray, below, meth, c, xr_A ad, _, 0, 0, hx, hb, hml, hown, hts, hK, hD, fun i hi => ⟨i, hi, rfl⟩, Nat.le_refl _, Nat.le_refl _, Nat.zero_le _, Nat.zero_le _, rfl⟩
  · intro pc lv v hd hrv H locs ls hP hS hl
    subst hrv
    exact W.lret hx hb hr (fun t ht _ => ⟨rfl, by rw [ht]; exact hP, hS.F ht⟩) (fun q hq => hS.2.2 q hq) hd hlocks
  · show lv_has _ n (xr_as 0 lv0)
    rw [h0]
    exact hl
theorem xr_openV {l : Launch} {D : va_G} {ad : Nat → Nat} {ca : Nat → ClassId} {y : MethodName} {b : ByteArray} {n np fr lo : Nat} {As : List Value} {σ ρ : xr_S} {rv : Option Value} (lv0 : List (Option Value)) (hmi : xr_mi y b n (none) np) (hn : (lg_sl As).length ≤ n) (h0 : xr_as 0 lv0 = lv_args 0 As) (k : ∀ J, xr_B l D ad ca b y.cls n fr lo J → xr_Rv b rv ρ J → J 0 lv0 [] σ) : xr_M l D ad ca y b n (none) fr lo As σ rv ρ := by
  refine Met.ofW (cc := b) (maxL := n) (ret := none) hmi.2.2.1 rfl ?_
  intro p e s m args below meth c s₁ B hml hv
  obtain ⟨rfl, hP, hK, hD⟩ := hv
  have hts0 := atoms_spec (ws := Cond.code y b n (none) :: xr_tb) B.pre
  have hts : ∀ w ∈ xr_tb, w.before As.toArray s = true := fun w hw => hts0 w (List.mem_cons_of_mem _ hw)
  have hown : s.vm.findClass y.cls = some m.cls := findClass_of_methodNamed B.named
  have hlocks := B.notSynchronized
  have hl := lv_entry As (n := n) hn
  rw [lg_entry_eq]
  have hb := B.bytes
  have hx := B.exec
  have hr := B.returns
  refine k (fun pc lv st σ => ∀ (H : Heap) (locs : List Loc) (ls : Array Slot), va_P D vwCl (xr_w ad ca σ) H → va_S (xr_A ad) s.heap H locs → xr_lv ls n lv → W p l e _ s m As.toArray below meth c H locs 0 0 (MQ below (xr_Q D ad ca rv ρ) As.toArray s 0 0 (xr_A ad)) (F0 m pc ls st)) ?_ ?_ s.heap [] _ hP va_S.rf ?_
  · exact ⟨p, e, _, s, m, As.toArray, below, meth, c, xr_A ad, _, 0, 0, hx, hb, hml, hown, hts, hK, hD, fun i hi => ⟨i, hi, rfl⟩, Nat.le_refl _, Nat.le_refl _, Nat.zero_le _, Nat.zero_le _, rfl⟩
  · intro pc lv hd hrv H locs ls hP hS hl
    subst hrv
    exact W.vret hx hb hr (fun t ht _ => ⟨rfl, by rw [ht]; exact hP, hS.F ht⟩) (fun q hq => hS.2.2 q hq) hd hlocks
  · show lv_has _ n (xr_as 0 lv0)
    rw [h0]
    exact hl
