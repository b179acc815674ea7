/-- the whole world at its beginning, before the reference's begins() -/
def xk_i11 : xr_S := (fun c => if c < 49 then xk_i10.1 c else if c = 49 then (fun k => if k = 16 then -1 else 0) else (fun _ => 0), fun _ => 0)
def xk_d11 : List Value := [.null, .null, .int 0, .int 0, .int 0, .int 0, .int 0, .null, .null, .null, .null, .int 0, .int 0, .int 0, .int 0, .int 0, .int 0, .int 0, .int 0, .int 0, .int 0, .int 0, .int 0, .null, .null, .null, .null, .null, .int 0, .null, .null, .null, .null, .int 0, .null, .null, .null]
def xk_F (ad : Nat → Nat) (ca : Nat → ClassId) : va_W := xr_wl ad ca xk_i10 0 xk_s10
theorem xk_rot {A : Nat → Prop} {ws : va_W} {x : Nat × va_E} (hD : va_D A (ws ++ [x])) : va_D A (x :: ws) := by
  have h1 : va_D A ws := hD.sub (List.range ws.length) (xk_nd _) (xk_range ws [x])
  have h2 : va_D A [x] := hD.sub [ws.length] (by rfl) (by simp)
  refine va_D.app (w1 := [x]) h2 h1 (fun i j p q hp hq hpq => ?_)
  have hj : j < ws.length := (List.getElem?_eq_some_iff.mp hq).1
  cases i with
  | zero =>
    cases hp
    have := hD.1 ws.length j _ q (by simp) (by rw [List.getElem?_append_left hj]; exact hq) hpq
    omega
  | succ i => simp at hp
theorem xk_rotP {D : va_G} {cl : List vw_C} {ws : va_W} {x : Nat × va_E} {H : Heap} (hP : va_P D cl (ws ++ [x]) H) : va_P D cl (x :: ws) H := by
  have h1 : va_P D cl ws H := xk_psub hP (is := List.range ws.length) (xk_range ws [x])
  have h2 : va_P D cl [x] H := xk_psub hP (is := [ws.length]) (by simp)
  exact va_P.app (w1 := [x]) h2 h1
def xk_preM (D : va_G) (ad1 : Nat → Nat) (ca1 : Nat → ClassId) (h0 sz : Nat) (U : State) : Prop := U.heap.size = sz ∧ va_P D vwCl (xk_F ad1 ca1 ++ [(h0, .inr (11, xk_d11))]) U.heap ∧ va_D (fun _ => True) (xk_F ad1 ca1 ++ [(h0, .inr (11, xk_d11))]) ∧ (∀ c k n : Nat, xk_s10[c]? = some (.inl (k, n)) → ArrOfT U (ca1 c) (xr_ty k) ∧ va_RA U (ca1 c) (xr_ty k)) ∧ va_K D vwCl [] U ∧ xk_N U
def xk_postM (D : va_G) (ρ : xr_S) (ad1 : Nat → Nat) (ca1 : Nat → ClassId) (h0 sz : Nat) : Array Value → State → Outcome → State → Prop := fun _ st oc t => oc = .returned none ∧ (∃ (ad : Nat → Nat) (ca : Nat → ClassId), ad 49 = h0 ∧ ad 0 = ad1 0 ∧ va_P D vwCl (xr_w ad ca ρ) t.heap ∧ va_D (va_A (xk_F ad1 ca1 ++ [(h0, .inr (11, xk_d11))]) sz) (xr_w ad ca ρ) ∧ ∀ c k n : Nat, xr_sh[c]? = some (.inl (k, n)) → ArrOfT t (ca c) (xr_ty k) ∧ va_RA t (ca c) (xr_ty k)) ∧ va_F (va_A (xk_F ad1 ca1 ++ [(h0, .inr (11, xk_d11))]) sz) st t
def xk_RM (b : ByteArray) (ρ : xr_S) (h0 a0 mc ms : Nat) (KA : ClassId → FieldType → Prop) (J : xk_Ty) : Prop := ∀ (pc : Nat) (lv : List (Option Value)) (ad : Nat → Nat) (ca : Nat → ClassId), decode b pc = .ok (.return_, 1) → ad 49 = h0 → ad 0 = a0 → (∀ c k n : Nat, xr_sh[c]? = some (.inl (k, n)) → KA (ca c) (xr_ty k)) → J pc lv [] (xr_w ad ca ρ) mc ms
theorem xk_openM {l : Launch} {D : va_G} {y : MethodName} {b : ByteArray} {fr lo mc ms : Nat} {ρ : xr_S} (hmi : xr_mi y b 1 none 0) (hin : y.name = "<init>") (ad1 : Nat → Nat) (ca1 : Nat → ClassId) (h0 sz : Nat) (k : ∀ (KA : ClassId → FieldType → Prop) (J : xk_Ty), xk_B l D b y.cls 1 fr lo mc ms true KA J → (∀ c k n : Nat, xk_s10[c]? = some (.inl (k, n)) → KA (ca1 c) (xr_ty k)) → xk_RM b ρ h0 (ad1 0) mc ms KA J → J 0 [some (.ref h0)] [] ((h0, .inr (11, xk_d11)) :: xk_F ad1 ca1) 0 0) : Met l y (Cond.code y b 1 none :: xr_tb) ({ frames := fr, cells := mc, slots := ms, locals := lo } : Room) (va_Pc [.ref h0] (xk_preM D ad1 ca1 h0 sz)) (xk_postM D ρ ad1 ca1 h0 sz) mc ms (va_A (xk_F ad1 ca1 ++ [(h0, .inr (11, xk_d11))]) sz) := by
  refine Met.ofW (cc := b) (maxL := 1) (ret := none) hmi.2.2.1 rfl ?_
  intro p e s m args below meth c s₁ B hml hv
  obtain ⟨rfl, hsz, hP, hD0, hKA, hK, hN⟩ := hv
  subst hsz
  have hts0 := atoms_spec (ws := Cond.code y b 1 none :: xr_tb) B.pre
  have hts : ∀ w ∈ xr_tb, w.before ([Value.ref h0] : List Value).toArray s = true := fun w hw => hts0 w (List.mem_cons_of_mem _ hw)
  have hown : s.vm.findClass y.cls = some m.cls := findClass_of_methodNamed B.named
  have hlocks := B.notSynchronized
  have hname : meth.name = "<init>" := (name_of_methodNamed B.named B.method).1.trans hin
  have hl := lv_entry ([.ref h0]) (n := 1) (Nat.le_of_ble_eq_true rfl)
  rw [lg_entry_eq]
  have hb := B.bytes
  have hx := B.exec
  have hr := B.returns
  have hD : va_D (va_A (xk_F ad1 ca1 ++ [(h0, .inr (11, xk_d11))]) s.heap.size) (xk_F ad1 ca1 ++ [(h0, .inr (11, xk_d11))]) := hD0.self
  generalize hAe : va_A (xk_F ad1 ca1 ++ [(h0, .inr (11, xk_d11))]) s.heap.size = A at hD ⊢
  have hA : ∀ q : Nat, s.heap.size ≤ q → A q := fun q h => by rw [← hAe]; exact Or.inr h
  refine k (fun cA ty => ArrOfT s cA ty ∧ va_RA s cA ty) (fun pc lv st ws cells slots => ∀ (H : Heap) (locs : List Loc) (ls : Array Slot), va_P D vwCl ws H → va_D A ws → va_S A s.heap H locs → xr_lv ls 1 lv → W p l e _ s m ([Value.ref h0] : List Value).toArray below meth c H locs cells slots (MQ below (xk_postM D ρ ad1 ca1 h0 s.heap.size) ([Value.ref h0] : List Value).toArray s mc ms A) (F0 m pc ls st)) ?_ hKA ?_ s.heap [] _ (xk_rotP hP) (xk_rot hD) va_S.rf ?_
  · exact ⟨p, e, _, s, m, _, below, meth, c, A, _, hx, hb, hml, hown, hts, hK, hN, hA, fun _ => hname, Nat.le_refl _, Nat.le_refl _, Nat.le_refl _, Nat.le_refl _, rfl, rfl⟩
  · intro pc lv ad ca hd h1 h2 h4 H locs ls hP hD hS hl
    refine W.vret hx hb hr (fun t ht hW => ⟨rfl, ⟨ad, ca, h1, h2, by rw [ht]; exact hP, by rw [hAe]; exact hD, fun c k n hc => ⟨arrOfT_moved hW.alike (h4 c k n hc).1, (h4 c k n hc).2.moved hW.alike⟩⟩, by rw [hAe]; exact hS.F ht⟩) (fun q hq => hS.2.2 q hq) hd hlocks
  · exact hl
theorem xk_inj {A : Nat → Prop} {ad : Nat → Nat} {ca : Nat → ClassId} {σ : xr_S} (hD : va_D A (xr_w ad ca σ)) : xr_D ad ∧ ∀ i, i < 68 → A (ad i) := by
  have key : ∀ i, i < 68 → ∃ e, (xr_w ad ca σ)[i]? = some (ad i, e) := by
    intro i hi
    have hl : i < xr_sh.length := hi
    exact ⟨_, xr_w_is (List.getElem?_eq_getElem hl)⟩
  refine ⟨fun i j hi hj he => ?_, fun i hi => ?_⟩
  · obtain ⟨e1, h1⟩ := key i hi
    obtain ⟨e2, h2⟩ := key j hj
    exact hD.1 i j _ _ h1 h2 he
  · obtain ⟨e1, h1⟩ := key i hi
    exact hD.2 i _ h1
theorem xk_pw {ws w1 : va_W} {is : List Nat} (hl : is.length = w1.length) (h : ∀ i, i < is.length → (is[i]?).bind (fun j => ws[j]?) = w1[i]?) : is.map (fun i => ws[i]?) = w1.map some := by
  apply List.ext_getElem?
  intro i
  rw [List.getElem?_map, List.getElem?_map]
  by_cases hi : i < is.length
  · have h1 := h i hi
    rw [List.getElem?_eq_getElem hi] at h1 ⊢
    have hi2 : i < w1.length := hl ▸ hi
    rw [List.getElem?_eq_getElem hi2] at h1 ⊢
    exact congrArg some h1
  · rw [List.getElem?_eq_none (Nat.not_lt.mp hi), List.getElem?_eq_none (hl ▸ Nat.not_lt.mp hi)]
    rfl
theorem xk_callX {l : Launch} {D : va_G} {cc : ByteArray} {own : String} {nL fr lo mcR msR : Nat} {ini : Bool} {KA : ClassId → FieldType → Prop} {J : xk_Ty} {pc cells slots : Nat} {lv : List (Option Value)} {ws : va_W} (B : xk_B l D cc own nL fr lo mcR msR ini KA J) {idx n fr1 lo1 h0 : Nat} {y : MethodName} {b : ByteArray} {ρ σ : xr_S} (ad : Nat → Nat) (ca : Nat → ClassId) (h49 : ad 49 = h0) (hmi : xr_mi y b n none 0) (hvi : xr_vi own idx y) (hM : xr_M l D ad ca y b n none fr1 lo1 [.ref (ad 49)] σ none ρ) (hpp : ∀ H : Heap, va_P D vwCl ws H → va_P D vwCl (xr_w ad ca σ) H) (hdd : ∀ A : Nat → Prop, va_D A ws → va_D A (xr_w ad ca σ)) (hka : ∀ c k n : Nat, xr_sh[c]? = some (.inl (k, n)) → KA (ca c) (xr_ty k)) (hC : y.cls = RX11) (hR : fr1 + 1 ≤ fr ∧ 8 + (n + 11) + lo1 ≤ lo) (hc1 : cells ≤ mcR) (hs1 : slots ≤ msR) (hd : decode cc pc = .ok (.invokevirtual idx, 3)) (kk : J (pc + 3) lv [] (xr_w ad ca ρ) cells slots) : J pc lv [.ref h0] ws cells slots := by
  subst h49
  obtain ⟨p, e, R, s, m, args, below, meth, kc, A, Q, hx, hb, hml, hown, hts, hK, hN, hA, hini, hfr, hlo, hcl, hsl, rfl, rfl⟩ := B
  intro H locs ls hP hD hS hl
  have hPx : va_P D vwCl (xr_w ad ca σ) H := hpp H hP
  have hDx : va_D A (xr_w ad ca σ) := hdd A hD
  obtain ⟨hinj, hAi⟩ := xk_inj hDx
  have hKx : xr_K D ca s := ⟨hK, hka⟩
  have cb : CallB R s args own idx y b n none (Cond.code y b n none :: xr_tb) ({ frames := fr1, cells := 0, slots := 0, locals := lo1 } : Room) 0 0 0 := callB_of 0 hts (xr_good hmi) rfl rfl rfl (hts _ hmi.2.1) (hts _ hvi.1) ⟨hmi.2.2.2.1, hmi.2.2.2.2.1, hmi.2.2.2.2.2⟩ ⟨Nat.le_trans hR.1 hfr, Nat.le_trans hR.2 hlo⟩
  have cw : CallW R s args own y.cls idx y b n none (Cond.code y b n none :: xr_tb) ({ frames := fr1, cells := 0, slots := 0, locals := lo1 } : Room) 0 0 0 := ⟨cb, hts _ hvi.2.1, hts _ hvi.2.2⟩
  have hrec : ∃ cell : Cell, H[ad 49]? = some cell ∧ cell.vm.isStatics = false ∧ s.vm.findClass y.cls = some cell.cls := by
    have := va_recv hK hPx (ci := 11) (q0 := 49) (q := (RX11, TX11, 37)) rfl (xr_w_is xh_49)
    rw [hC]; exact this
  have hrun := va_runV (C := y.cls) (As := []) (rest := []) (H := H) (locs := locs) (cells := cells) (slots := slots) (l := l) (e := e) (below := below) (meth := meth) (g := F0 m pc ls [.ref (ad 49)]) ⟨hx, hb, hml, hown, hts⟩ hM cw ⟨xr_blind, hrec, fun U hU hW => ⟨rfl, by rw [hU]; exact hPx, xr_K.moved hW.alike hKx, hinj⟩⟩ rfl rfl hl.1 rfl (lv_room (Nat.le_of_ble_eq_true rfl)) hd ⟨Nat.le_trans hc1 hcl, Nat.le_trans hs1 hsl⟩
  exact xr_back hrun hS hAi (fun H1 locs1 hP1 hS1 => kk H1 locs1 ls hP1 (xr_vD ρ hinj hAi) hS1 hl)

theorem xk_newL {l : Launch} {D : va_G} {cc : ByteArray} {own : String} {nL fr lo mcR msR : Nat} {ini : Bool} {KA : ClassId → FieldType → Prop} {J : xk_Ty} {pc cells slots : Nat} {lv : List (Option Value)} {st : List Value} {x : Nat × va_E} {rs : va_W} (B : xk_B l D cc own nL fr lo mcR msR ini KA J) {at0 : ArrayType} {ty : FieldType} {n : Int32} {N cells2 slots2 : Nat} {a0 : vp_A} (h1 : Cond.arrayClass (newarray.typeOf at0) ∈ xr_tb) (hty : newarray.typeOf at0 = ty) (ha : ∀ cA : ClassId, vp_cell cA a0 = arrV cA N (fun _ => defaultValue ty)) (hn : ¬ n < 0) (hN' : n.toNatClampNeg = N) (hbytes : N * componentBytes ty ≤ 536870912) (hc1 : cells + 1 = cells2 ∧ cells2 ≤ mcR) (hs1 : slots + N = slots2 ∧ slots2 ≤ msR) (hd : decode cc pc = .ok (.newarray at0, 2)) (kk : ∀ (q : Nat) (cA : ClassId) (r2 : va_W), KA cA ty → r2 = rs ++ [(q, .inl (cA, a0))] → J (pc + 2) lv (.ref q :: st) (x :: r2) cells2 slots2) : J pc lv (.int n :: st) (x :: rs) cells slots := by
  obtain ⟨rfl, hc2⟩ := hc1
  obtain ⟨rfl, hs2⟩ := hs1
  exact xk_newa B h1 hty ha hn hN' hbytes hc2 hs2 hd (fun q cA g => kk q cA _ g rfl)
theorem xk_putL {l : Launch} {D : va_G} {cc : ByteArray} {own : String} {nL fr lo mcR msR : Nat} {KA : ClassId → FieldType → Prop} {J : xk_Ty} {pc cells slots : Nat} {lv : List (Option Value)} {st : List Value} {rs : va_W} (B : xk_B l D cc own nL fr lo mcR msR true KA J) {idx k a : Nat} {fs : List Value} {v : Value} (hk : k < 37) (h1 : Cond.fieldLink own idx (TX11 k).1 (TX11 k).2.1 (TX11 k).2.2.1 ∈ xr_tb) (hfin : (TX11 k).2.2.2 = true) (hdecl : (TX11 k).1 = own) (hn : narrow (tyX11 k) v = v) (hfit : fits (tyX11 k) v = true) (hlen : fs.length = 37) (hd : decode cc pc = .ok (.putfield idx, 3)) (kk : ∀ f2 : List Value, f2 = fs.set k v → f2.length = 37 → J (pc + 3) lv st ((a, .inr (11, f2)) :: rs) cells slots) : J pc lv (v :: .ref a :: st) ((a, .inr (11, fs)) :: rs) cells slots :=
  xk_putR B (ty := tyX11) xw_f11 tyX11_ok nmX11 rfl hk h1 hfin hdecl hn hfit (hlen ▸ hk) hd (kk _ rfl (by rw [List.length_set]; exact hlen))
theorem xk_putLI {l : Launch} {D : va_G} {cc : ByteArray} {own : String} {nL fr lo mcR msR : Nat} {ini : Bool} {KA : ClassId → FieldType → Prop} {J : xk_Ty} {pc cells slots : Nat} {lv : List (Option Value)} {st : List Value} {rs : va_W} (B : xk_B l D cc own nL fr lo mcR msR ini KA J) {idx k a : Nat} {fs : List Value} {v : Value} (hk : k < 37) (h1 : Cond.fieldLink own idx (TX11 k).1 (TX11 k).2.1 (TX11 k).2.2.1 ∈ xr_tb) (hfin : (TX11 k).2.2.2 = false) (hn : narrow (tyX11 k) v = v) (hfit : fits (tyX11 k) v = true) (hlen : fs.length = 37) (hd : decode cc pc = .ok (.putfield idx, 3)) (kk : ∀ f2 : List Value, f2 = fs.set k v → f2.length = 37 → J (pc + 3) lv st ((a, .inr (11, f2)) :: rs) cells slots) : J pc lv (v :: .ref a :: st) ((a, .inr (11, fs)) :: rs) cells slots :=
  xk_putI B (ty := tyX11) xw_f11 tyX11_ok nmX11 rfl hk h1 hfin hn hfit (hlen ▸ hk) hd (kk _ rfl (by rw [List.length_set]; exact hlen))
theorem xr_wl_app {ad : Nat → Nat} {ca : Nat → ClassId} {σ : xr_S} (h2 : List xr_Sh) : ∀ (h1 : List xr_Sh) (c : Nat), xr_wl ad ca σ c (h1 ++ h2) = xr_wl ad ca σ c h1 ++ xr_wl ad ca σ (c + h1.length) h2 := by
  intro h1
  induction h1 with
  | nil => intro c; simp [xr_wl]
  | cons x t ih => intro c; simp only [List.cons_append, xr_wl, List.length_cons, ih]; rw [show c + 1 + t.length = c + (t.length + 1) by omega]
def xk_refs (h : xr_Sh) : Bool := match h with
  | .inl _ => true
  | .inr (_, fl) => fl.all (fun o => match o with | none => true | some q => decide (q < 49))
theorem xk_agF {ad ad1 : Nat → Nat} {σ σ1 : xr_S} {c : Nat} (h1 : ∀ q, q < 49 → ad q = ad1 q) (h3 : σ.1 c = σ1.1 c) : ∀ (fl : List (Option Nat)) (k : Nat), (fl.all (fun o => match o with | none => true | some q => decide (q < 49))) = true → xr_fs ad σ c k fl = xr_fs ad1 σ1 c k fl := by
  intro fl
  induction fl with
  | nil => intro k _; rfl
  | cons o t ih =>
    intro k h
    rw [List.all_cons, Bool.and_eq_true] at h
    simp only [xr_fs, ih (k + 1) h.2]
    congr 1
    cases o with
    | none => simp [xr_fv, h3]
    | some q => simp only [xr_fv]; rw [h1 q (by simpa using h.1)]
theorem xk_agE {ad ad1 : Nat → Nat} {ca ca1 : Nat → ClassId} {σ σ1 : xr_S} {c : Nat} (h1 : ∀ q, q < 49 → ad q = ad1 q) (h2 : ca c = ca1 c) (h3 : σ.1 c = σ1.1 c) (h4 : σ.2 = σ1.2) (h : xr_Sh) (hr : xk_refs h = true) : xr_en ad ca σ c h = xr_en ad1 ca1 σ1 c h := by
  rcases h with ⟨k, n⟩ | ⟨ci, fl⟩
  · match k with
    | 0 => simp [xr_en, h2, h3]
    | 1 => simp [xr_en, h2, h3]
    | 2 => simp [xr_en, h2, h4]
    | k + 3 =>
      have hi : ∀ j, ad (xr_img j) = ad1 (xr_img j) := fun j => h1 _ (by unfold xr_img; split <;> decide)
      simp [xr_en, h2, hi]
  · simp only [xr_en, xk_agF h1 h3 fl 0 hr]
theorem xk_agW {ad ad1 : Nat → Nat} {ca ca1 : Nat → ClassId} {σ σ1 : xr_S} (h1 : ∀ q, q < 49 → ad q = ad1 q) (h2 : ∀ q, q < 49 → ca q = ca1 q) (h3 : ∀ q, q < 49 → σ.1 q = σ1.1 q) (h4 : σ.2 = σ1.2) : ∀ (hs : List xr_Sh) (c : Nat), c + hs.length ≤ 49 → hs.all xk_refs = true → xr_wl ad ca σ c hs = xr_wl ad1 ca1 σ1 c hs := by
  intro hs
  induction hs with
  | nil => intro c _ _; rfl
  | cons h t ih =>
    intro c hc hr
    rw [List.all_cons, Bool.and_eq_true] at hr
    simp only [List.length_cons] at hc
    simp only [xr_wl]
    rw [ih (c + 1) (by omega) hr.2, h1 c (by omega), xk_agE h1 (h2 c (by omega)) (h3 c (by omega)) h4 h hr.1]
theorem xk_mid {A : Nat → Prop} {F G : va_W} {x : Nat × va_E} (hD : va_D A (x :: (F ++ G))) : va_D A (F ++ x :: G) := by
  have key : ∀ (k : Nat) (q : Nat × va_E), (F ++ x :: G)[k]? = some q → ∃ i, (x :: (F ++ G))[i]? = some q ∧ i = (if k < F.length then k + 1 else if k = F.length then 0 else k) := by
    intro k q hk
    by_cases h1 : k < F.length
    · refine ⟨k + 1, ?_, by rw [if_pos h1]⟩
      rw [List.getElem?_append_left h1] at hk
      rw [List.getElem?_cons_succ, List.getElem?_append_left h1]; exact hk
    · by_cases h2 : k = F.length
      · refine ⟨0, ?_, by rw [if_neg h1, if_pos h2]⟩
        rw [List.getElem?_append_right (by omega), h2, Nat.sub_self] at hk
        simpa using hk
      · refine ⟨k, ?_, by rw [if_neg h1, if_neg h2]⟩
        rw [List.getElem?_append_right (by omega)] at hk
        obtain ⟨j, hj⟩ : ∃ j, k = F.length + 1 + j := ⟨k - (F.length + 1), by omega⟩
        subst hj
        rw [show F.length + 1 + j - F.length = j + 1 by omega, List.getElem?_cons_succ] at hk
        rw [show F.length + 1 + j = (F.length + j) + 1 by omega, List.getElem?_cons_succ, List.getElem?_append_right (by omega), show F.length + j - F.length = j by omega]
        exact hk
  refine ⟨fun i j p q hi hj hpq => ?_, fun k q hk => ?_⟩
  · obtain ⟨a, ha, ea⟩ := key i p hi
    obtain ⟨b, hb, eb⟩ := key j q hj
    have hab := hD.1 a b p q ha hb hpq
    have hab2 := ea.symm.trans (hab.trans eb)
    split at hab2 <;> split at hab2 <;> (try split at hab2) <;> (try split at hab2) <;> omega
  · obtain ⟨a, ha, -⟩ := key k q hk
    exact hD.2 a q ha
theorem xk_midP {D : va_G} {cl : List vw_C} {F G : va_W} {x : Nat × va_E} {H : Heap} (hP : va_P D cl (x :: (F ++ G)) H) : va_P D cl (F ++ x :: G) H := by
  intro k q hk
  have hm : q ∈ x :: (F ++ G) := by
    have := List.mem_of_getElem? hk
    simp only [List.mem_append, List.mem_cons] at this ⊢
    rcases this with h | h | h
    · exact Or.inr (Or.inl h)
    · exact Or.inl h
    · exact Or.inr (Or.inr h)
  obtain ⟨i, hi⟩ := List.getElem?_of_mem hm
  exact hP i q hi
def xk_s11 : List xr_Sh := xr_sh.drop 49
theorem xk_i1110 (q : Nat) (hq : q < 49) : xk_i11.1 q = xk_i10.1 q := by
  show (if q < 49 then xk_i10.1 q else if q = 49 then (fun k => if k = 16 then -1 else 0) else (fun _ => 0)) = xk_i10.1 q
  rw [if_pos hq]
theorem xk_Feq {ad ad1 : Nat → Nat} {ca ca1 : Nat → ClassId} (h1 : ∀ q, q < 49 → ad q = ad1 q) (h2 : ∀ q, q < 49 → ca q = ca1 q) : xr_wl ad ca xk_i11 0 xk_s10 = xk_F ad1 ca1 := by
  unfold xk_F
  exact xk_agW h1 h2 xk_i1110 rfl xk_s10 0 (by decide) (by decide)
theorem xk_split {ad : Nat → Nat} {ca : Nat → ClassId} : xr_w ad ca xk_i11 = xr_wl ad ca xk_i11 0 xk_s10 ++ xr_wl ad ca xk_i11 49 xk_s11 := by
  have h1 : xr_sh = xk_s10 ++ xk_s11 := rfl
  unfold xr_w
  rw [h1, xr_wl_app]
  rfl

theorem xk_ka11 {KA : ClassId → FieldType → Prop} {ca1 : Nat → ClassId} {z1 z2 z3 z4 z5 z6 z7 z8 z9 z10 z11 z12 z13 z14 z15 z16 z17 z18 : ClassId} (g0 : ∀ c k n : Nat, xk_s10[c]? = some (.inl (k, n)) → KA (ca1 c) (xr_ty k)) (h : KA z1 .int ∧ KA z2 .boolean ∧ KA z3 .int ∧ KA z4 .int ∧ KA z5 .int ∧ KA z6 .int ∧ KA z7 .int ∧ KA z8 .int ∧ KA z9 .int ∧ KA z10 .int ∧ KA z11 .int ∧ KA z12 .int ∧ KA z13 .int ∧ KA z14 .int ∧ KA z15 .long ∧ KA z16 .int ∧ KA z17 .int ∧ KA z18 .int) {c k n : Nat} (hc : xr_sh[c]? = some (.inl (k, n))) : KA ((fun c => if c < 49 then ca1 c else ([z1, z1, z2, z3, z4, z5, z6, z7, z8, z9, z10, z11, z12, z13, z14, z15, z16, z17, z18] : List ClassId).getD (c - 49) 0) c) (xr_ty k) := by
  obtain ⟨g1, g2, g3, g4, g5, g6, g7, g8, g9, g10, g11, g12, g13, g14, g15, g16, g17, g18⟩ := h
  by_cases h49 : c < 49
  · have h1 : xk_s10[c]? = some (.inl (k, n)) := by
      rw [show xr_sh = xk_s10 ++ xk_s11 from rfl, List.getElem?_append_left (show c < xk_s10.length from h49)] at hc
      exact hc
    show KA (if c < 49 then ca1 c else ([z1, z1, z2, z3, z4, z5, z6, z7, z8, z9, z10, z11, z12, z13, z14, z15, z16, z17, z18] : List ClassId).getD (c - 49) 0) (xr_ty k)
    rw [if_pos h49]
    exact g0 c k n h1
  · obtain ⟨j, rfl⟩ : ∃ j, c = 49 + j := ⟨c - 49, by omega⟩
    rw [show xr_sh = xk_s10 ++ xk_s11 from rfl, List.getElem?_append_right (show xk_s10.length ≤ 49 + j from Nat.le_add_right 49 j), show 49 + j - xk_s10.length = j from Nat.add_sub_cancel_left 49 j] at hc
    show KA (if 49 + j < 49 then ca1 (49 + j) else ([z1, z1, z2, z3, z4, z5, z6, z7, z8, z9, z10, z11, z12, z13, z14, z15, z16, z17, z18] : List ClassId).getD (49 + j - 49) 0) (xr_ty k)
    rw [if_neg (by omega), Nat.add_sub_cancel_left]
    match j, hc with
    | 0, hc => cases hc
    | 1, hc => cases hc; exact g1
    | 2, hc => cases hc; exact g2
    | 3, hc => cases hc; exact g3
    | 4, hc => cases hc; exact g4
    | 5, hc => cases hc; exact g5
    | 6, hc => cases hc; exact g6
    | 7, hc => cases hc; exact g7
    | 8, hc => cases hc; exact g8
    | 9, hc => cases hc; exact g9
    | 10, hc => cases hc; exact g10
    | 11, hc => cases hc; exact g11
    | 12, hc => cases hc; exact g12
    | 13, hc => cases hc; exact g13
    | 14, hc => cases hc; exact g14
    | 15, hc => cases hc; exact g15
    | 16, hc => cases hc; exact g16
    | 17, hc => cases hc; exact g17
    | 18, hc => cases hc; exact g18
    | j + 19, hc => simp [xk_s11, xr_sh] at hc
set_option maxRecDepth 100000 in
set_option maxHeartbeats 4000000 in
theorem xk_c11 (l : Launch) (D : va_G) (ρ : xr_S) (hρ : xf_X11_begins xk_i11 = some ρ) (ad1 : Nat → Nat) (ca1 : Nat → ClassId) (h0 sz : Nat) : Met l yX11_init (Cond.code yX11_init cX11_init 1 none :: xr_tb) ({ frames := 1, cells := 18, slots := 1135, locals := 22 } : Room) (va_Pc [.ref h0] (xk_preM D ad1 ca1 h0 sz)) (xk_postM D ρ ad1 ca1 h0 sz) 18 1135 (va_A (xk_F ad1 ca1 ++ [(h0, .inr (11, xk_d11))]) sz) := by
  refine xk_openM xm_X11_init rfl ad1 ca1 h0 sz (fun KA J B g0 RR => ?_)
  have l0 : xk_d11.length = 37 := rfl
  obtain ⟨f0, e0⟩ : ∃ f, f = xk_d11 := ⟨_, rfl⟩
  obtain ⟨r0, p0⟩ : ∃ r, r = xk_F ad1 ca1 := ⟨_, rfl⟩
  rw [← e0, ← p0]
  rw [← e0] at l0
  refine xk_aload_n B dX11_init_0 rfl rfl ?_
  refine xk_objInit B xo_X11_1 (by decide) (by decide) (Nat.le_of_ble_eq_true rfl) dX11_init_1 ?_
  refine xk_aload_n B dX11_init_4 rfl rfl ?_
  refine xk_sipush B (v := 220) dX11_init_5 (by decide) ?_
  refine xk_newL B (at0 := .int) (a0 := (220, .inl (fun _ => 0))) (cells2 := 1) (slots2 := 220) xt_int rfl (fun _ => rfl) (by decide) (by decide) (by decide) (by decide) (by decide) dX11_init_8 (fun q1 z1 r1 g1 p1 => ?_)
  refine xk_putL B (k := 0) (by decide) (xr_in 843 (by decide +kernel) rfl) rfl rfl rfl rfl l0 dX11_init_10 (fun f1 e1 l1 => ?_)
  refine xk_aload_n B dX11_init_13 rfl rfl ?_
  refine xk_iconst B (v := 2) dX11_init_14 (by decide) ?_
  refine xk_newL B (at0 := .boolean) (a0 := (2, .inl (fun _ => 0))) (cells2 := 2) (slots2 := 222) xt_boolean rfl (fun _ => rfl) (by decide) (by decide) (by decide) (by decide) (by decide) dX11_init_15 (fun q2 z2 r2 g2 p2 => ?_)
  refine xk_putL B (k := 1) (by decide) (xr_in 844 (by decide +kernel) rfl) rfl rfl rfl rfl l1 dX11_init_17 (fun f2 e2 l2 => ?_)
  refine xk_aload_n B dX11_init_20 rfl rfl ?_
  refine xk_bipush B (v := 7) dX11_init_21 (by decide) ?_
  refine xk_newL B (at0 := .int) (a0 := (7, .inl (fun _ => 0))) (cells2 := 3) (slots2 := 229) xt_int rfl (fun _ => rfl) (by decide) (by decide) (by decide) (by decide) (by decide) dX11_init_23 (fun q3 z3 r3 g3 p3 => ?_)
  refine xk_putL B (k := 7) (by decide) (xr_in 850 (by decide +kernel) rfl) rfl rfl rfl rfl l2 dX11_init_25 (fun f3 e3 l3 => ?_)
  refine xk_aload_n B dX11_init_28 rfl rfl ?_
  refine xk_bipush B (v := 7) dX11_init_29 (by decide) ?_
  refine xk_newL B (at0 := .int) (a0 := (7, .inl (fun _ => 0))) (cells2 := 4) (slots2 := 236) xt_int rfl (fun _ => rfl) (by decide) (by decide) (by decide) (by decide) (by decide) dX11_init_31 (fun q4 z4 r4 g4 p4 => ?_)
  refine xk_putL B (k := 8) (by decide) (xr_in 851 (by decide +kernel) rfl) rfl rfl rfl rfl l3 dX11_init_33 (fun f4 e4 l4 => ?_)
  refine xk_aload_n B dX11_init_36 rfl rfl ?_
  refine xk_bipush B (v := 7) dX11_init_37 (by decide) ?_
  refine xk_newL B (at0 := .int) (a0 := (7, .inl (fun _ => 0))) (cells2 := 5) (slots2 := 243) xt_int rfl (fun _ => rfl) (by decide) (by decide) (by decide) (by decide) (by decide) dX11_init_39 (fun q5 z5 r5 g5 p5 => ?_)
  refine xk_putL B (k := 9) (by decide) (xr_in 852 (by decide +kernel) rfl) rfl rfl rfl rfl l4 dX11_init_41 (fun f5 e5 l5 => ?_)
  refine xk_aload_n B dX11_init_44 rfl rfl ?_
  refine xk_sipush B (v := 240) dX11_init_45 (by decide) ?_
  refine xk_newL B (at0 := .int) (a0 := (240, .inl (fun _ => 0))) (cells2 := 6) (slots2 := 483) xt_int rfl (fun _ => rfl) (by decide) (by decide) (by decide) (by decide) (by decide) dX11_init_48 (fun q6 z6 r6 g6 p6 => ?_)
  refine xk_putL B (k := 10) (by decide) (xr_in 853 (by decide +kernel) rfl) rfl rfl rfl rfl l5 dX11_init_50 (fun f6 e6 l6 => ?_)
  refine xk_aload_n B dX11_init_53 rfl rfl ?_
  refine xk_iconst B (v := (-1)) dX11_init_54 (by decide) ?_
  refine xk_putLI B (k := 16) (by decide) (xr_in 859 (by decide +kernel) rfl) rfl rfl rfl l6 dX11_init_55 (fun f7 e7 l7 => ?_)
  refine xk_aload_n B dX11_init_58 rfl rfl ?_
  refine xk_bipush B (v := 30) dX11_init_59 (by decide) ?_
  refine xk_newL B (at0 := .int) (a0 := (30, .inl (fun _ => 0))) (cells2 := 7) (slots2 := 513) xt_int rfl (fun _ => rfl) (by decide) (by decide) (by decide) (by decide) (by decide) dX11_init_61 (fun q7 z7 r7 g7 p7 => ?_)
  refine xk_putL B (k := 23) (by decide) (xr_in 866 (by decide +kernel) rfl) rfl rfl rfl rfl l7 dX11_init_63 (fun f8 e8 l8 => ?_)
  refine xk_aload_n B dX11_init_66 rfl rfl ?_
  refine xk_bipush B (v := 21) dX11_init_67 (by decide) ?_
  refine xk_newL B (at0 := .int) (a0 := (21, .inl (fun _ => 0))) (cells2 := 8) (slots2 := 534) xt_int rfl (fun _ => rfl) (by decide) (by decide) (by decide) (by decide) (by decide) dX11_init_69 (fun q8 z8 r8 g8 p8 => ?_)
  refine xk_putL B (k := 24) (by decide) (xr_in 867 (by decide +kernel) rfl) rfl rfl rfl rfl l8 dX11_init_71 (fun f9 e9 l9 => ?_)
  refine xk_aload_n B dX11_init_74 rfl rfl ?_
  refine xk_sipush B (v := 512) dX11_init_75 (by decide) ?_
  refine xk_newL B (at0 := .int) (a0 := (512, .inl (fun _ => 0))) (cells2 := 9) (slots2 := 1046) xt_int rfl (fun _ => rfl) (by decide) (by decide) (by decide) (by decide) (by decide) dX11_init_78 (fun q9 z9 r9 g9 p9 => ?_)
  refine xk_putL B (k := 25) (by decide) (xr_in 868 (by decide +kernel) rfl) rfl rfl rfl rfl l9 dX11_init_80 (fun f10 e10 l10 => ?_)
  refine xk_aload_n B dX11_init_83 rfl rfl ?_
  refine xk_bipush B (v := 7) dX11_init_84 (by decide) ?_
  refine xk_newL B (at0 := .int) (a0 := (7, .inl (fun _ => 0))) (cells2 := 10) (slots2 := 1053) xt_int rfl (fun _ => rfl) (by decide) (by decide) (by decide) (by decide) (by decide) dX11_init_86 (fun q10 z10 r10 g10 p10 => ?_)
  refine xk_putL B (k := 26) (by decide) (xr_in 869 (by decide +kernel) rfl) rfl rfl rfl rfl l10 dX11_init_88 (fun f11 e11 l11 => ?_)
  refine xk_aload_n B dX11_init_91 rfl rfl ?_
  refine xk_bipush B (v := 7) dX11_init_92 (by decide) ?_
  refine xk_newL B (at0 := .int) (a0 := (7, .inl (fun _ => 0))) (cells2 := 11) (slots2 := 1060) xt_int rfl (fun _ => rfl) (by decide) (by decide) (by decide) (by decide) (by decide) dX11_init_94 (fun q11 z11 r11 g11 p11 => ?_)
  refine xk_putL B (k := 27) (by decide) (xr_in 870 (by decide +kernel) rfl) rfl rfl rfl rfl l11 dX11_init_96 (fun f12 e12 l12 => ?_)
  refine xk_aload_n B dX11_init_99 rfl rfl ?_
  refine xk_bipush B (v := 8) dX11_init_100 (by decide) ?_
  refine xk_newL B (at0 := .int) (a0 := (8, .inl (fun _ => 0))) (cells2 := 12) (slots2 := 1068) xt_int rfl (fun _ => rfl) (by decide) (by decide) (by decide) (by decide) (by decide) dX11_init_102 (fun q12 z12 r12 g12 p12 => ?_)
  refine xk_putL B (k := 29) (by decide) (xr_in 872 (by decide +kernel) rfl) rfl rfl rfl rfl l12 dX11_init_104 (fun f13 e13 l13 => ?_)
  refine xk_aload_n B dX11_init_107 rfl rfl ?_
  refine xk_bipush B (v := 7) dX11_init_108 (by decide) ?_
  refine xk_newL B (at0 := .int) (a0 := (7, .inl (fun _ => 0))) (cells2 := 13) (slots2 := 1075) xt_int rfl (fun _ => rfl) (by decide) (by decide) (by decide) (by decide) (by decide) dX11_init_110 (fun q13 z13 r13 g13 p13 => ?_)
  refine xk_putL B (k := 30) (by decide) (xr_in 873 (by decide +kernel) rfl) rfl rfl rfl rfl l13 dX11_init_112 (fun f14 e14 l14 => ?_)
  refine xk_aload_n B dX11_init_115 rfl rfl ?_
  refine xk_bipush B (v := 7) dX11_init_116 (by decide) ?_
  refine xk_newL B (at0 := .int) (a0 := (7, .inl (fun _ => 0))) (cells2 := 14) (slots2 := 1082) xt_int rfl (fun _ => rfl) (by decide) (by decide) (by decide) (by decide) (by decide) dX11_init_118 (fun q14 z14 r14 g14 p14 => ?_)
  refine xk_putL B (k := 31) (by decide) (xr_in 874 (by decide +kernel) rfl) rfl rfl rfl rfl l14 dX11_init_120 (fun f15 e15 l15 => ?_)
  refine xk_aload_n B dX11_init_123 rfl rfl ?_
  refine xk_bipush B (v := 8) dX11_init_124 (by decide) ?_
  refine xk_newL B (at0 := .long) (a0 := (8, .inr (.inl (fun _ => 0)))) (cells2 := 15) (slots2 := 1090) xt_long rfl (fun _ => rfl) (by decide) (by decide) (by decide) (by decide) (by decide) dX11_init_126 (fun q15 z15 r15 g15 p15 => ?_)
  refine xk_putL B (k := 32) (by decide) (xr_in 875 (by decide +kernel) rfl) rfl rfl rfl rfl l15 dX11_init_128 (fun f16 e16 l16 => ?_)
  refine xk_aload_n B dX11_init_131 rfl rfl ?_
  refine xk_bipush B (v := 15) dX11_init_132 (by decide) ?_
  refine xk_newL B (at0 := .int) (a0 := (15, .inl (fun _ => 0))) (cells2 := 16) (slots2 := 1105) xt_int rfl (fun _ => rfl) (by decide) (by decide) (by decide) (by decide) (by decide) dX11_init_134 (fun q16 z16 r16 g16 p16 => ?_)
  refine xk_putL B (k := 34) (by decide) (xr_in 877 (by decide +kernel) rfl) rfl rfl rfl rfl l16 dX11_init_136 (fun f17 e17 l17 => ?_)
  refine xk_aload_n B dX11_init_139 rfl rfl ?_
  refine xk_bipush B (v := 15) dX11_init_140 (by decide) ?_
  refine xk_newL B (at0 := .int) (a0 := (15, .inl (fun _ => 0))) (cells2 := 17) (slots2 := 1120) xt_int rfl (fun _ => rfl) (by decide) (by decide) (by decide) (by decide) (by decide) dX11_init_142 (fun q17 z17 r17 g17 p17 => ?_)
  refine xk_putL B (k := 35) (by decide) (xr_in 878 (by decide +kernel) rfl) rfl rfl rfl rfl l17 dX11_init_144 (fun f18 e18 l18 => ?_)
  refine xk_aload_n B dX11_init_147 rfl rfl ?_
  refine xk_bipush B (v := 15) dX11_init_148 (by decide) ?_
  refine xk_newL B (at0 := .int) (a0 := (15, .inl (fun _ => 0))) (cells2 := 18) (slots2 := 1135) xt_int rfl (fun _ => rfl) (by decide) (by decide) (by decide) (by decide) (by decide) dX11_init_150 (fun q18 z18 r18 g18 p18 => ?_)
  refine xk_putL B (k := 36) (by decide) (xr_in 879 (by decide +kernel) rfl) rfl rfl rfl rfl l18 dX11_init_152 (fun f19 e19 l19 => ?_)
  refine xk_aload_n B dX11_init_155 rfl rfl ?_
  have hr : r18 = xk_F ad1 ca1 ++ [(q1, .inl (z1, (220, .inl (fun _ => 0)))), (q2, .inl (z2, (2, .inl (fun _ => 0)))), (q3, .inl (z3, (7, .inl (fun _ => 0)))), (q4, .inl (z4, (7, .inl (fun _ => 0)))), (q5, .inl (z5, (7, .inl (fun _ => 0)))), (q6, .inl (z6, (240, .inl (fun _ => 0)))), (q7, .inl (z7, (30, .inl (fun _ => 0)))), (q8, .inl (z8, (21, .inl (fun _ => 0)))), (q9, .inl (z9, (512, .inl (fun _ => 0)))), (q10, .inl (z10, (7, .inl (fun _ => 0)))), (q11, .inl (z11, (7, .inl (fun _ => 0)))), (q12, .inl (z12, (8, .inl (fun _ => 0)))), (q13, .inl (z13, (7, .inl (fun _ => 0)))), (q14, .inl (z14, (7, .inl (fun _ => 0)))), (q15, .inl (z15, (8, .inr (.inl (fun _ => 0))))), (q16, .inl (z16, (15, .inl (fun _ => 0)))), (q17, .inl (z17, (15, .inl (fun _ => 0)))), (q18, .inl (z18, (15, .inl (fun _ => 0))))] := by
    rw [p18, p17, p16, p15, p14, p13, p12, p11, p10, p9, p8, p7, p6, p5, p4, p3, p2, p1, p0]
    simp only [List.append_assoc, List.cons_append, List.nil_append]
  have hf : f19 = [.ref q1, .ref q2, .int 0, .int 0, .int 0, .int 0, .int 0, .ref q3, .ref q4, .ref q5, .ref q6, .int 0, .int 0, .int 0, .int 0, .int 0, .int (-1), .int 0, .int 0, .int 0, .int 0, .int 0, .int 0, .ref q7, .ref q8, .ref q9, .ref q10, .ref q11, .int 0, .ref q12, .ref q13, .ref q14, .ref q15, .int 0, .ref q16, .ref q17, .ref q18] := by
    rw [e19, e18, e17, e16, e15, e14, e13, e12, e11, e10, e9, e8, e7, e6, e5, e4, e3, e2, e1, e0]
    rfl
  have hag : xr_w (fun c => if c < 49 then ad1 c else ([h0, q1, q2, q3, q4, q5, q6, q7, q8, q9, q10, q11, q12, q13, q14, q15, q16, q17, q18] : List Nat).getD (c - 49) 0) (fun c => if c < 49 then ca1 c else ([z1, z1, z2, z3, z4, z5, z6, z7, z8, z9, z10, z11, z12, z13, z14, z15, z16, z17, z18] : List ClassId).getD (c - 49) 0) xk_i11 = xk_F ad1 ca1 ++ (h0, .inr (11, f19)) :: [(q1, .inl (z1, (220, .inl (fun _ => 0)))), (q2, .inl (z2, (2, .inl (fun _ => 0)))), (q3, .inl (z3, (7, .inl (fun _ => 0)))), (q4, .inl (z4, (7, .inl (fun _ => 0)))), (q5, .inl (z5, (7, .inl (fun _ => 0)))), (q6, .inl (z6, (240, .inl (fun _ => 0)))), (q7, .inl (z7, (30, .inl (fun _ => 0)))), (q8, .inl (z8, (21, .inl (fun _ => 0)))), (q9, .inl (z9, (512, .inl (fun _ => 0)))), (q10, .inl (z10, (7, .inl (fun _ => 0)))), (q11, .inl (z11, (7, .inl (fun _ => 0)))), (q12, .inl (z12, (8, .inl (fun _ => 0)))), (q13, .inl (z13, (7, .inl (fun _ => 0)))), (q14, .inl (z14, (7, .inl (fun _ => 0)))), (q15, .inl (z15, (8, .inr (.inl (fun _ => 0))))), (q16, .inl (z16, (15, .inl (fun _ => 0)))), (q17, .inl (z17, (15, .inl (fun _ => 0)))), (q18, .inl (z18, (15, .inl (fun _ => 0))))] := by
    rw [hf]
    rw [xk_split]
    rw [xk_Feq (ad1 := ad1) (ca1 := ca1) (fun q hq => if_pos hq) (fun q hq => if_pos hq)]
    rfl
  refine xk_callX B (h0 := h0) (fun c => if c < 49 then ad1 c else ([h0, q1, q2, q3, q4, q5, q6, q7, q8, q9, q10, q11, q12, q13, q14, q15, q16, q17, q18] : List Nat).getD (c - 49) 0) (fun c => if c < 49 then ca1 c else ([z1, z1, z2, z3, z4, z5, z6, z7, z8, z9, z10, z11, z12, z13, z14, z15, z16, z17, z18] : List ClassId).getD (c - 49) 0) rfl xm_X11_begins xv_X11_70 (xc_X11_begins l D _ _ xk_i11 ρ hρ) (fun H hP => ?_) (fun A hD => ?_) (fun c k n hc => ?_) rfl (by decide) (by decide) (by decide) dX11_init_156 ?_
  · rw [hag]; rw [hr] at hP; exact xk_midP hP
  · rw [hag]; rw [hr] at hD; exact xk_mid hD
  · exact xk_ka11 g0 (by exact ⟨g1, g2, g3, g4, g5, g6, g7, g8, g9, g10, g11, g12, g13, g14, g15, g16, g17, g18⟩) hc
  exact RR _ _ _ _ dX11_init_159 rfl rfl (fun c k n hc => xk_ka11 g0 (by exact ⟨g1, g2, g3, g4, g5, g6, g7, g8, g9, g10, g11, g12, g13, g14, g15, g16, g17, g18⟩) hc)
