theorem xk_wAO : Cond.arrayOver (.object "SleptBread$State") ∈ lw_tbl := List.mem_of_getElem? (i := 250) (by decide +kernel)
theorem xk_istore_n {l : Launch} {D : va_G} {cc : ByteArray} {own : String} {nL fr lo mcR msR : Nat} {ini : Bool} {KA : ClassId → FieldType → Prop} {J : xk_Ty} {pc cells slots : Nat} {lv : List (Option Value)} {st : List Value} {ws : va_W} (B : xk_B l D cc own nL fr lo mcR msR ini KA J) {k : Fin 4} {i : Nat} {x : Int32} {lv2 : List (Option Value)} (hd : decode cc pc = .ok (.istore_n k, 1)) (hi : (k : Nat) = i) (hn : i < nL) (hv : xr_s1 lv i (.int x) = lv2) (kk : J (pc + 1) lv2 st ws cells slots) : J pc lv (.int x :: st) ws cells slots := by
  obtain ⟨p, e, R, s, m, args, below, meth, kc, A, Q, hx, hb, hml, hown, hts, hK, hN, hA, hini, hfr, hlo, hcl, hsl, rfl, rfl⟩ := B
  intro H locs ls hP hD hS hl
  exact lv_istore_n hx hb hd hi hl hn rfl (fun ls hl => kk H locs ls hP hD hS (hv ▸ xr_lv.s1 hl))
def R_law : String := "SleptBreadLaw"
def lw_P (b : Addr) (xs : List Int32) (args : Array Value) (s : State) : Prop := args = #[.ref b] ∧ s.IntsAt b xs ∧ xs.length ≤ 256 ∧ (Jvm.Cond.and given_1 narrow_1).before args s = true
def lw_Q (_ : Array Value) (s : State) (o : Outcome) (t : State) : Prop := o = .returned (some (.int 1)) ∧ Framed s o t [] 68 2418
def lw_Z (below : List Frame) (a : Array Value) (s : State) : State → Prop := fun t => ∃ o, t.status = .running ∧ Ended t below o ∧ lw_Q a s o t
/-- the law's own end, with 1 on the stack, nothing written that was there before, its room as the claim has it -/
theorem lw_ret {p : Program} {l : Launch} {e : Env} {s : State} {m : MethodId} {below : List Frame} {meth : Method} {c : Code} {b : Nat} (hx : p.tables.exec = Jvm.exec) (hb : c.code = code) (hr : meth.sig.returnType = ret) (hlocks : meth.locks = false) {pc : Nat} {H : Heap} {ls : Array Slot} (hdg : decode code pc = .ok (.ireturn, 1)) : W p l e room_1 s m #[Value.ref b] below meth c H [] 68 2418 (lw_Z below #[Value.ref b] s) (F0 m pc ls [.int 1]) := by
  intro T hT X
  obtain ⟨fs, hret, hrun, hended, hW, hframe⟩ := X.leave (v := some (.int 1)) (hlocks := hlocks) (fun h => by rw [hr] at h; cases h)
  have hmeth' : T.vm.method? m = some meth := X.method'
  refine ⟨T.setFrames fs, ?_, .returned (some (.int 1)), hrun, hended, rfl, ⟨_, rfl⟩, hW, hframe⟩
  jvm_step X.here [X.here.top, hx, hb, hdg, hmeth', hr, ret, narrow_b1]
  (try refine ⟨rfl, ?_⟩); (try refine ⟨rfl, ?_⟩)
  first | (intro acts; rw [hret _ acts rfl rfl rfl]) | rw [hret _ _ rfl rfl rfl]
  exact Steps.refl _
/-- what holds at the law's entry: the machine, the code, the tables' words (any of lw_tbl by 'hts w (by decide +kernel)'), the script of L ints xs at the cell b, what the Statement gives of the start (any of its parts by flat_of_before) -/
def lw_At (p : Program) (s : State) (m : MethodId) (meth : Method) (c : Code) (b L : Nat) (xs : Nat → Int32) : Prop :=
  p.tables.exec = Jvm.exec ∧ c.code = code ∧ meth.sig.returnType = ret ∧ c.maxLocals = 4 ∧ s.vm.findClass R_law = some m.cls ∧ (∀ w ∈ lw_tbl, w.before #[Value.ref b] s = true) ∧ va_X b L xs s s.heap ∧ b < s.heap.size ∧ meth.locks = false ∧ (Jvm.Cond.and given_1 narrow_1).before #[Value.ref b] s = true

/-- the call of the reference's constructor: behind it the whole world stands -/
theorem xk_ctorM {l : Launch} {D : va_G} {cc : ByteArray} {own : String} {nL fr lo mcR msR : Nat} {ini : Bool} {KA : ClassId → FieldType → Prop} {J : xk_Ty} {pc cells slots : Nat} {lv : List (Option Value)} {st : List Value} (B : xk_B l D cc own nL fr lo mcR msR ini KA J) {idx fr1 lo1 mc ms q : Nat} {ρ : xr_S} (ad1 : Nat → Nat) (ca1 : Nat → ClassId) (hka : ∀ c k n : Nat, xk_s10[c]? = some (.inl (k, n)) → KA (ca1 c) (xr_ty k)) (hlk : Cond.methodLink own idx yX11_init ∈ xr_tb) (hM : ∀ h0 sz : Nat, Met l yX11_init (Cond.code yX11_init cX11_init 1 none :: xr_tb) ({ frames := fr1, cells := mc, slots := ms, locals := lo1 } : Room) (va_Pc [.ref h0] (xk_preM D ad1 ca1 h0 sz)) (xk_postM D ρ ad1 ca1 h0 sz) mc ms (va_A (xk_F ad1 ca1 ++ [(h0, .inr (11, xk_d11))]) sz)) (hR : fr1 + 1 ≤ fr ∧ 8 + (1 + 11) + lo1 ≤ lo) (hc1 : cells + mc ≤ mcR) (hs1 : slots + ms ≤ msR) (hcat : (st.map fun v => v.category).sum ≤ 8) (hd : decode cc pc = .ok (.invokespecial idx, 3)) (kk : ∀ (ad : Nat → Nat) (ca : Nat → ClassId), ad 49 = q → ad 0 = ad1 0 → (∀ c k n : Nat, xr_sh[c]? = some (.inl (k, n)) → KA (ca c) (xr_ty k)) → J (pc + 3) lv st (xr_w ad ca ρ) (cells + mc) (slots + ms)) : J pc lv (.ref q :: st) (xk_F ad1 ca1 ++ [(q, .inr (11, xk_d11))]) cells slots := by
  obtain ⟨p, e, R, s, m, args, below, meth, kc, A, Q, hx, hb, hml, hown, hts, hK, hN, hA, hini, hfr, hlo, hcl, hsl, rfl, rfl⟩ := B
  intro H locs ls hP hD hS hl
  have cb : CallB R s args own idx yX11_init cX11_init 1 none (Cond.code yX11_init cX11_init 1 none :: xr_tb) ({ frames := fr1, cells := mc, slots := ms, locals := lo1 } : Room) mc ms 0 := callB_of 0 hts (xr_good xm_X11_init) rfl rfl rfl (hts _ xm_X11_init.2.1) (hts _ hlk) ⟨xm_X11_init.2.2.2.1, xm_X11_init.2.2.2.2.1, xm_X11_init.2.2.2.2.2⟩ ⟨Nat.le_trans hR.1 hfr, Nat.le_trans hR.2 hlo⟩
  have hbl : FrameBlind (va_Pc [.ref q] (xk_preM D ad1 ca1 q H.size)) := fun a U g mk z => ⟨z.1, z.2.1, z.2.2.1, z.2.2.2.1, fun c k n hc => ⟨arrOfT_moved (u := U) (E := U.calling g mk a) (Vm.Alike.refl U.vm) (z.2.2.2.2.1 c k n hc).1, va_RA.moved (u := U) (U := U.calling g mk a) (Vm.Alike.refl U.vm) (z.2.2.2.2.1 c k n hc).2⟩, va_K.moved (u := U) (U := U.calling g mk a) (Vm.Alike.refl U.vm) z.2.2.2.2.2.1, xk_N.same (s := U) (U := U.calling g mk a) rfl z.2.2.2.2.2.2⟩
  have hrun := va_runI (As := []) (rest := st) (b := q) (H := H) (locs := locs) (cells := cells) (slots := slots) (l := l) (e := e) (below := below) (meth := meth) (g := F0 m pc ls (.ref q :: st)) ⟨hx, hb, hml, hown, hts⟩ (hM q H.size) ⟨cb, rfl, hts _ xy_11⟩ ⟨hbl, fun U hU hW => ⟨rfl, by rw [hU], by rw [hU]; exact hP, hD.weaken (fun _ _ _ _ => trivial), fun c k n hc => ⟨arrOfT_moved hW.alike (hka c k n hc).1, (hka c k n hc).2.moved hW.alike⟩, va_K.moved hW.alike hK, xk_N.warm hW hN⟩⟩ rfl rfl hl.1 rfl (lv_room hcat) hd ⟨Nat.le_trans hc1 hcl, Nat.le_trans hs1 hsl⟩
  intro T hT X
  obtain ⟨v, st₀, t, T', L, h0, X', hL, e1, e2, ⟨hv, ⟨ad, ca, a49, a0, hP1, hD1, hKA⟩, hz, hk⟩, hst⟩ := hrun T hT X
  cases hv
  rw [h0] at hz hk
  have hAA : ∀ x, va_A (xk_F ad1 ca1 ++ [(q, .inr (11, xk_d11))]) H.size x → A x := by
    intro x hx
    rcases hx with ⟨k, ee, hx⟩ | hx
    · exact hD.2 k (x, ee) hx
    · exact hA x (Nat.le_trans hS.1 hx)
  have hvm : s.vm.Alike t.vm := by rw [← e2]; exact X'.warmed.alike
  rw [← e1] at hP1 hk hz
  obtain ⟨t2, a1, b1⟩ := kk ad ca a49 a0 (fun c k n hc => ⟨arrOfT_moved hvm.symm (hKA c k n hc).1, (hKA c k n hc).2.moved hvm.symm⟩) T'.heap (locs ++ L) ls hP1 (hD1.weaken (fun _ z _ h => hAA z.1 h))
    ⟨Nat.le_trans hS.1 hz, fun x h1 h2 => by rw [hk x (Nat.lt_of_lt_of_le h1 hS.1) (fun z => h2 (hAA x z))]; exact hS.2.1 x h1 h2, fun x hx => by
      rcases List.mem_append.mp hx with h | h
      · exact hS.2.2 x h
      · exact hAA _ (hL x h)⟩ hl T' rfl X'
  exact ⟨t2, hst t2 a1, b1⟩
def xk_pure : Prop := ∀ (L : Nat) (xs : Nat → Int32), L ≤ 256 → ∃ ρ : xr_S, xf_X11_begins xk_i11 = some ρ ∧ xf_L_law L xs ρ = some 1
set_option maxRecDepth 100000 in
set_option maxHeartbeats 8000000 in
/-- THE LAW, from its entry, once the pure part stands -/
theorem whole_open (hpure : xk_pure) {p : Program} {e : Env} {s : State} {m : MethodId} {below : List Frame} {meth : Method} {c : Code} (l : Launch) {b L : Nat} {xs : Nat → Int32} (hL : L ≤ 256) (C0 : lw_At p s m meth c b L xs) : W p l e room_1 s m #[Value.ref b] below meth c s.heap [] 0 0 (lw_Z below #[Value.ref b] s) (entryFrame m ([Value.ref b] : List Value).toArray 4) := by
  obtain ⟨ρ, hρ, hlaw⟩ := hpure L xs hL
  obtain ⟨hx, hb, hr, hml, hown, hts0, hX, hbl, hlocks, hgv⟩ := id C0
  have hts : ∀ w ∈ xr_tb, w.before #[Value.ref b] s = true := fun w hw => hts0 w (List.mem_filter.mp hw).1
  have hbA : ¬ (fun q : Nat => s.heap.size ≤ q) b := Nat.not_le.mpr hbl

  obtain ⟨c0, iS0, hKn0⟩ := u_known (C := RX0) (T := TX0) (N := 5) (n := 5) hts xw_f0 (hts _ xi_0)
  obtain ⟨c1, iS1, hKn1⟩ := u_known (C := RX1) (T := TX1) (N := 2) (n := 2) hts xw_f1 (hts _ xi_1)
  obtain ⟨c2, iS2, hKn2⟩ := u_known (C := RX2) (T := TX2) (N := 4) (n := 4) hts xw_f2 (hts _ xi_2)
  obtain ⟨c3, iS3, hKn3⟩ := u_known (C := RX3) (T := TX3) (N := 1) (n := 1) hts xw_f3 (hts _ xi_3)
  obtain ⟨c4, iS4, hKn4⟩ := u_known (C := RX4) (T := TX4) (N := 2) (n := 2) hts xw_f4 (hts _ xi_4)
  obtain ⟨c5, iS5, hKn5⟩ := u_known (C := RX5) (T := TX5) (N := 8) (n := 8) hts xw_f5 (hts _ xi_5)
  obtain ⟨c6, iS6, hKn6⟩ := u_known (C := RX6) (T := TX6) (N := 8) (n := 8) hts xw_f6 (hts _ xi_6)
  obtain ⟨c7, iS7, hKn7⟩ := u_known (C := RX7) (T := TX7) (N := 9) (n := 9) hts xw_f7 (hts _ xi_7)
  obtain ⟨c8, iS8, hKn8⟩ := u_known (C := RX8) (T := TX8) (N := 1) (n := 1) hts xw_f8 (hts _ xi_8)
  obtain ⟨c9, iS9, hKn9⟩ := u_known (C := RX9) (T := TX9) (N := 1) (n := 1) hts xw_f9 (hts _ xi_9)
  obtain ⟨c10, iS10, hKn10⟩ := u_known (C := RX10) (T := TX10) (N := 12) (n := 12) hts xw_f10 (hts _ xi_10)
  obtain ⟨c11, iS11, hKn11⟩ := u_known (C := RX11) (T := TX11) (N := 37) (n := 37) hts xw_f11 (hts _ xi_11)
  obtain ⟨dC, dI, hKc⟩ : ∃ (dC : Nat → ClassId) (dI : Nat → Nat → Nat), ∀ (k : Nat) (q : vw_C), vwCl[k]? = some q → u_Kn s q.1 q.2.1 q.2.2 (dC k) (dI k) := by
    refine ⟨fun k => match k with | 0 => c0 | 1 => c1 | 2 => c2 | 3 => c3 | 4 => c4 | 5 => c5 | 6 => c6 | 7 => c7 | 8 => c8 | 9 => c9 | 10 => c10 | _ => c11, fun k => match k with | 0 => iS0 | 1 => iS1 | 2 => iS2 | 3 => iS3 | 4 => iS4 | 5 => iS5 | 6 => iS6 | 7 => iS7 | 8 => iS8 | 9 => iS9 | 10 => iS10 | _ => iS11, ?_⟩
    intro k q hq
    match k, hq with
    | 0, hq => cases hq; exact hKn0
    | 1, hq => cases hq; exact hKn1
    | 2, hq => cases hq; exact hKn2
    | 3, hq => cases hq; exact hKn3
    | 4, hq => cases hq; exact hKn4
    | 5, hq => cases hq; exact hKn5
    | 6, hq => cases hq; exact hKn6
    | 7, hq => cases hq; exact hKn7
    | 8, hq => cases hq; exact hKn8
    | 9, hq => cases hq; exact hKn9
    | 10, hq => cases hq; exact hKn10
    | 11, hq => cases hq; exact hKn11
    | k + 12, hq => simp [vwCl] at hq
  have hK : va_K (dC, dI) vwCl [] s := ⟨hKc, fun k q h => by simp at h⟩
  have hN : xk_N s := by
    refine ⟨fun w hw hn => ?_, va_AO.of (hts0 _ xk_wAO)⟩
    have h1 := hts0 w hw
    cases w <;> first | (simp [xk_isN] at hn; done) | exact va_Nw.of rfl h1
  have hl := lv_entry ([.ref b]) (n := 4) (Nat.le_of_ble_eq_true rfl)
  rw [lg_entry_eq]
  obtain ⟨J, hJ⟩ : ∃ J : xk_Ty, J = fun pc lv st ws cells slots => ∀ (H : Heap) (locs : List Loc) (ls : Array Slot), va_P (dC, dI) vwCl ws H → va_D (fun q : Nat => s.heap.size ≤ q) ws → va_S (fun q : Nat => s.heap.size ≤ q) s.heap H locs → xr_lv ls 4 lv → W p l e room_1 s m #[Value.ref b] below meth c H locs cells slots (lw_Z below #[Value.ref b] s) (F0 m pc ls st) := ⟨_, rfl⟩
  obtain ⟨KA, hKA⟩ : ∃ KA : ClassId → FieldType → Prop, KA = fun cA ty => ArrOfT s cA ty ∧ va_RA s cA ty := ⟨_, rfl⟩
  have B : xk_B l (dC, dI) cL_law RL 4 9 342 68 2418 false KA J := ⟨p, e, room_1, s, m, _, below, meth, c, _, _, hx, hb, hml, hown, hts, hK, hN, fun _ h => h, (fun h => absurd h (by decide)), Nat.le_refl _, Nat.le_refl _, Nat.le_refl _, Nat.le_refl _, hKA, hJ⟩
  have key : J 0 [some (.ref b), none, none, none] [] [] 0 0 := by
    refine xk_new B (ci := 10) (fs := [.null, .null, .null, .null, .null, .null, .null, .null, .null, .null, .int 0, .int 0]) xw_f10 tyX10_ok xj_L_7 xi_10 xz_10 rfl (fun j hj => ?_) (by decide) (by decide) dL_law_0 (fun q1 => ?_)
    · match j, hj with
      | 0, _ => rfl
      | 1, _ => rfl
      | 2, _ => rfl
      | 3, _ => rfl
      | 4, _ => rfl
      | 5, _ => rfl
      | 6, _ => rfl
      | 7, _ => rfl
      | 8, _ => rfl
      | 9, _ => rfl
      | 10, _ => rfl
      | 11, _ => rfl
      | j + 12, hj => exact absurd hj (by omega)
    refine xk_dup B dL_law_3 rfl ?_
    refine xk_ctor B (ws := []) xm_X10_init rfl xy_10 xo_L_9 (xk_c10 l (dC, dI)) (by decide) (by decide) (by decide) (Nat.le_of_ble_eq_true rfl) dL_law_4 (fun ad1 ca1 e1 g1 => ?_)
    subst e1
    show J 7 [some (.ref b), none, none, none] [.ref (ad1 0)] (xk_F ad1 ca1) 49 1246
    refine xk_astore_n B (lv2 := [some (.ref b), some (.ref (ad1 0)), none, none]) dL_law_7 rfl (by decide) rfl ?_
    refine xk_new B (ci := 11) (fs := xk_d11) xw_f11 tyX11_ok xj_L_10 xi_11 xz_11 rfl (fun j hj => ?_) (by decide) (by decide) dL_law_8 (fun q2 => ?_)
    · match j, hj with
      | 0, _ => rfl
      | 1, _ => rfl
      | 2, _ => rfl
      | 3, _ => rfl
      | 4, _ => rfl
      | 5, _ => rfl
      | 6, _ => rfl
      | 7, _ => rfl
      | 8, _ => rfl
      | 9, _ => rfl
      | 10, _ => rfl
      | 11, _ => rfl
      | 12, _ => rfl
      | 13, _ => rfl
      | 14, _ => rfl
      | 15, _ => rfl
      | 16, _ => rfl
      | 17, _ => rfl
      | 18, _ => rfl
      | 19, _ => rfl
      | 20, _ => rfl
      | 21, _ => rfl
      | 22, _ => rfl
      | 23, _ => rfl
      | 24, _ => rfl
      | 25, _ => rfl
      | 26, _ => rfl
      | 27, _ => rfl
      | 28, _ => rfl
      | 29, _ => rfl
      | 30, _ => rfl
      | 31, _ => rfl
      | 32, _ => rfl
      | 33, _ => rfl
      | 34, _ => rfl
      | 35, _ => rfl
      | 36, _ => rfl
      | j + 37, hj => exact absurd hj (by omega)
    refine xk_dup B dL_law_11 rfl ?_
    refine xk_ctorM B (ρ := ρ) ad1 ca1 g1 xo_L_12 (xk_c11 l (dC, dI) ρ hρ ad1 ca1) (by decide) (by decide) (by decide) (Nat.le_of_ble_eq_true rfl) dL_law_12 (fun ad ca e49 e0 g => ?_)
    subst e49
    rw [← e0]
    refine xk_astore_n B (lv2 := [some (.ref b), some (.ref (ad 0)), some (.ref (ad 49)), none]) dL_law_15 rfl (by decide) rfl ?_
    refine xk_iconst B (v := 0) dL_law_16 (by decide) ?_
    refine xk_istore_n B (lv2 := [some (.ref b), some (.ref (ad 0)), some (.ref (ad 49)), some (.int 0)]) dL_law_17 rfl (by decide) rfl ?_
    show J 18 [some (.ref b), some (.ref (ad 0)), some (.ref (ad 49)), some (.int 0)] [] (xr_w ad ca ρ) 68 2418
    rw [hJ]
    intro H locs ls hP hD hS hl
    obtain ⟨hinj, hAi⟩ := xk_inj hD
    have hKx : xr_K (dC, dI) ca s := ⟨hK, fun c k n hc => by have := g c k n hc; rw [hKA] at this; exact this⟩
    let Jx : Nat → List (Option Value) → List Value → xr_S → Prop := fun pc lv st σ => ∀ (H : Heap) (locs : List Loc) (ls : Array Slot), va_P (dC, dI) vwCl (xr_w ad ca σ) H → va_S (fun q : Nat => s.heap.size ≤ q) s.heap H locs → xr_lv ls 4 lv → W p l e room_1 s m #[Value.ref b] below meth c H locs 68 2418 (lw_Z below #[Value.ref b] s) (F0 m pc ls st)
    have Bx : xr_B l (dC, dI) ad ca cL_law RL 4 9 342 Jx := ⟨p, e, room_1, s, m, _, below, meth, c, _, _, 68, 2418, hx, hb, hml, hown, hts, hKx, hinj, hAi, Nat.le_refl _, Nat.le_refl _, Nat.le_refl _, Nat.le_refl _, rfl⟩
    have SC : xl_S L b xs Jx := by
      refine ⟨?_, ?_, ?_⟩
      · intro pc lv st σ i k hd hf kk H locs ls hP hS hl
        unfold xr_sc at hf
        obtain ⟨h1, h2⟩ := xr_inb hf
        exact va_sld hx hb hX hbl hbA hS h1 hd (kk _ h2 H locs ls hP hS hl)
      · intro pc lv st σ hd kk H locs ls hP hS hl
        exact va_slen hx hb hX hbl hbA hS hd (kk H locs ls hP hS hl)
      · intro pc lv σ hd H locs ls hP hS hl
        refine va_forget hS.2.2 ?_
        exact lw_ret hx hb hr hlocks hd
    exact xc_L_law (l := l) (D := (dC, dI)) (ad := ad) (ca := ca) (J := Jx) ρ Bx SC hlaw H locs ls hP hS hl
  rw [hJ] at key
  exact key s.heap [] _ (fun k q h => by simp at h) ⟨fun i j p q h => by simp at h, fun k q h => by simp at h⟩ va_S.rf hl
