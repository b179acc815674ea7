
theorem xk_arrE {cA : ClassId} {n : Nat} {f g : Nat → Int32} (h : ∀ j, j < n → f j = g j) : vp_cell cA (n, .inl f) = vp_cell cA (n, .inl g) := by
  rw [vp_cell_i, vp_cell_i]
  unfold arrV
  congr 1
  apply Array.ext
  · simp
  · intro i h1 h2
    simp at h1
    simp [h i h1]
def xk_fp (D : va_G) (a : Nat) (cA : ClassId) (n : Nat) (f : Nat → Int32) (U : State) : Prop := va_P D vwCl [(a, .inl (cA, n, .inl f))] U.heap ∧ va_K D vwCl [(cA, .int)] U
def xk_fA (a : Nat) : Nat → Prop := fun q => q = a
set_option maxRecDepth 100000 in
set_option maxHeartbeats 4000000 in
theorem xk_fill (l : Launch) (D : va_G) (a : Nat) (cA : ClassId) (n : Nat) (f : Nat → Int32) (v : Int32) (hn : n < 2 ^ 31) : Met l yJ7_fill_53178 (Cond.code yJ7_fill_53178 cJ7_fill_53178 4 none :: xr_tb) ({ frames := 0, cells := 0, slots := 0, locals := 0 } : Room) (va_Pc [.ref a, .int v] (xk_fp D a cA n f)) (fun _ st oc t => oc = .returned none ∧ va_P D vwCl [(a, .inl (cA, n, .inl (fun _ => v)))] t.heap ∧ va_F (xk_fA a) st t) 0 0 (xk_fA a) := by
  refine Met.ofW (cc := cJ7_fill_53178) (maxL := 4) (ret := none) xm_J7_fill_53178.2.2.1 rfl ?_
  intro p e s m args below meth c s₁ B hml hv
  obtain ⟨rfl, hP, hK⟩ := hv
  have hlocks := B.notSynchronized
  have hl : xr_lv _ 4 [some (.ref a), some (.int v), none, none] := lv_entry ([.ref a, .int v]) (n := 4) (Nat.le_of_ble_eq_true rfl)
  rw [lg_entry_eq]
  have hb := B.bytes
  have hx := B.exec
  have hr := B.returns
  generalize (lg_sl ([.ref a, .int v]) ++ List.replicate (4 - (lg_sl ([.ref a, .int v])).length) Slot.unset).toArray = ls at hl ⊢
  have hD : va_D (xk_fA a) [(a, .inl (cA, n, .inl f))] := ⟨fun i j p q hi hj _ => by cases i <;> cases j <;> simp_all, fun k q hk => by
    cases k with
    | zero => cases hk; rfl
    | succ k => simp at hk⟩
  refine lv_iconst (v := 0) hx hb dJ7_fill_53178_0 (by decide) ?_
  refine lv_istore_n hx hb dJ7_fill_53178_1 rfl hl (by decide) rfl (fun ls hl => ?_)
  have hl : xr_lv ls 4 [some (.ref a), some (.int v), some (.int 0), none] := xr_lv.s1 hl
  refine lv_aload_n hx hb dJ7_fill_53178_2 rfl (hl.at (i := 0) rfl) ?_
  refine va_alen hx hb hK hP 0 0 rfl rfl (v := nI n) rfl dJ7_fill_53178_3 ?_
  refine lv_istore_n hx hb dJ7_fill_53178_4 rfl hl (by decide) rfl (fun ls hl => ?_)
  have hl : xr_lv ls 4 [some (.ref a), some (.int v), some (.int 0), some (.int (nI n))] := xr_lv.s1 hl
  have key : ∀ (d k : Nat) (g : Nat → Int32) (x : Int32), k + d = n → x = nI k → (∀ j, j < k → g j = v) → ∀ (H : Heap) (locs : List Loc) (ls : Array Slot), va_P D vwCl [(a, .inl (cA, n, .inl g))] H → va_S (xk_fA a) s.heap H locs → xr_lv ls 4 [some (.ref a), some (.int v), some (.int x), some (.int (nI n))] → W p l e (headSpec (Cond.code yJ7_fill_53178 cJ7_fill_53178 4 none :: xr_tb) ({ frames := 0, cells := 0, slots := 0, locals := 0 } : Room)).room s m ([.ref a, .int v] : List Value).toArray below meth c H locs 0 0 (MQ below (fun _ st oc t => oc = .returned none ∧ va_P D vwCl [(a, .inl (cA, n, .inl (fun _ => v)))] t.heap ∧ va_F (xk_fA a) st t) ([.ref a, .int v] : List Value).toArray s 0 0 (xk_fA a)) (F0 m 5 ls []) := by
    intro d
    induction d with
    | zero =>
      intro k g x hk hxk hg H locs ls hP hS hl
      refine lv_iload_n hx hb dJ7_fill_53178_5 rfl (hl.at (i := 2) rfl) ?_
      refine lv_iload_n hx hb dJ7_fill_53178_6 rfl (hl.at (i := 3) rfl) ?_
      refine lv_icmp_ge (tgt := 20) hx hb dJ7_fill_53178_7 (by decide) (fun _ => ?_) (fun hc => ?_)
      · refine W.vret hx hb hr (fun t ht _ => ⟨rfl, ?_, hS.F ht⟩) (fun q hq => hS.2.2 q hq) dJ7_fill_53178_20 hlocks
        rw [ht]
        intro i q hq
        cases i with
        | zero =>
          cases hq
          have h1 := hP 0 _ rfl
          show H[a]? = some (vp_cell cA (n, .inl (fun _ => v)))
          rw [← xk_arrE (f := g) (fun j hj => hg j (by omega))]
          exact h1
        | succ i => simp at hq
      · exact absurd (by rw [hxk]; exact nI_le (by omega) (by omega)) hc
    | succ d ih =>
      intro k g x hk hxk hg H locs ls hP hS hl
      refine lv_iload_n hx hb dJ7_fill_53178_5 rfl (hl.at (i := 2) rfl) ?_
      refine lv_iload_n hx hb dJ7_fill_53178_6 rfl (hl.at (i := 3) rfl) ?_
      refine lv_icmp_ge (tgt := 20) hx hb dJ7_fill_53178_7 (by decide) (fun hc => ?_) (fun _ => ?_)
      · exact absurd hc (by rw [hxk]; exact nI_ge (by omega) (by omega))
      · refine lv_aload_n hx hb dJ7_fill_53178_10 rfl (hl.at (i := 0) rfl) ?_
        refine lv_iload_n hx hb dJ7_fill_53178_11 rfl (hl.at (i := 2) rfl) ?_
        refine lv_iload_n hx hb dJ7_fill_53178_12 rfl (hl.at (i := 1) rfl) ?_
        have hDg : va_D (xk_fA a) [(a, .inl (cA, n, .inl g))] := ⟨fun i j p q hi hj _ => by cases i <;> cases j <;> simp_all, fun k q hk => by
          cases k with
          | zero => cases hk; rfl
          | succ k => simp at hk⟩
        refine va_iast hx hb hK hP hDg hS 0 0 rfl rfl (by rw [hxk]; exact vp_in_nI (by omega) (by omega)) dJ7_fill_53178_13 (fun H1 locs1 hP1 _ hS1 => ?_)
        have hm : (2, Value.int x) ∈ xr_as 0 [some (.ref a), some (.int v), some (.int x), some (.int (nI n))] := (xr_as_mem _ 0 2 _).mpr ⟨Nat.zero_le _, rfl⟩
        obtain ⟨kk, hkk⟩ := List.getElem?_of_mem hm
        refine lv_iinc (v := x + 1) hx hb dJ7_fill_53178_14 hl hkk (congrArg (x + ·) (by decide : Int32.ofInt 1 = 1)) (by decide) rfl (fun ls hl => ?_)
        have hl : xr_lv ls 4 [some (.ref a), some (.int v), some (.int (x + 1)), some (.int (nI n))] := xr_lv.s1 hl
        refine lv_goto (tgt := 5) hx hb dJ7_fill_53178_17 (by decide) ?_
        refine ih (k + 1) (upd g x.toNatClampNeg v) (x + 1) (by omega) (by rw [hxk]; exact nI_1 k) (fun j hj => ?_) H1 locs1 ls hP1 hS1 hl
        have hcl : x.toNatClampNeg = k := by rw [hxk]; exact nI_clamp (by omega)
        rw [hcl]
        by_cases hjk : j = k
        · subst hjk; simp [upd]
        · simp only [upd, if_neg hjk]; exact hg j (by omega)
  exact key n 0 f 0 (by omega) nI_0.symm (fun j hj => absurd hj (by omega)) s.heap [] ls hP va_S.rf hl
theorem xk_pset {D : va_G} {cl : List vw_C} {A : Nat → Prop} {ws : va_W} {q0 a : Nat} {e0 e1 : va_E} {H H1 : Heap} (hP : va_P D cl ws H) (hD : va_D A ws) (ha : ws[q0]? = some (a, e0)) (he : va_at D cl (a, e1) H1) (hk : ∀ q : Nat, q < H.size → ¬ xk_fA a q → H1[q]? = H[q]?) : va_P D cl (ws.set q0 (a, e1)) H1 := by
  intro k q hq
  rw [List.getElem?_set] at hq
  by_cases h : q0 = k
  · subst h
    have hlt : q0 < ws.length := (List.getElem?_eq_some_iff.mp ha).1
    rw [if_pos rfl, if_pos hlt] at hq
    cases hq
    exact he
  · rw [if_neg h] at hq
    refine (hP k q hq).kept (hk q.1 (hP k q hq).lt (fun z => h ?_))
    exact hD.1 q0 k (a, e0) q ha hq (show a = q.1 from (show q.1 = a from z).symm)
theorem xk_ext {l : Launch} {D : va_G} {cc : ByteArray} {own : String} {nL fr lo mcR msR : Nat} {ini : Bool} {KA : ClassId → FieldType → Prop} {J : xk_Ty} {pc cells slots : Nat} {lv : List (Option Value)} {st : List Value} {ws ws2 : va_W} (B : xk_B l D cc own nL fr lo mcR msR ini KA J) (q0 : Nat) {a n : Nat} {cA : ClassId} {f g : Nat → Option Nat} (ha : ws[q0]? = some (a, .inl (cA, n, .inr (.inr (.inr (.inr f)))))) (hfg : ∀ j, j < n → f j = g j) (hw : ws.set q0 (a, .inl (cA, n, .inr (.inr (.inr (.inr g))))) = ws2) (kk : J pc lv st ws2 cells slots) : J pc lv st ws cells slots := by
  subst hw
  obtain ⟨p, e, R, s, m, args, below, meth, kc, A, Q, hx, hb, hml, hown, hts, hK, hN, hA, hini, hfr, hlo, hcl, hsl, rfl, rfl⟩ := B
  intro H locs ls hP hD hS hl
  have hc : vp_cell cA (n, .inr (.inr (.inr (.inr f)))) = vp_cell cA (n, .inr (.inr (.inr (.inr g)))) := by
    rw [vp_cell_q, vp_cell_q]
    unfold arrV
    congr 1
    apply Array.ext
    · simp
    · intro i h1 h2
      simp at h1
      simp [hfg i h1]
  refine kk H locs ls (xk_pset hP hD ha ?_ (fun _ _ _ => rfl)) (hD.set ha) hS hl
  have h1 : H[a]? = some (vp_cell cA (n, .inr (.inr (.inr (.inr f))))) := hP q0 _ ha
  show H[a]? = some (vp_cell cA (n, .inr (.inr (.inr (.inr g)))))
  rw [← hc]; exact h1
theorem xk_fillC {l : Launch} {D : va_G} {cc : ByteArray} {own : String} {nL fr lo mcR msR : Nat} {ini : Bool} {KA : ClassId → FieldType → Prop} {J : xk_Ty} {pc cells slots : Nat} {lv : List (Option Value)} {ws ws2 : va_W} (B : xk_B l D cc own nL fr lo mcR msR ini KA J) (q0 : Nat) {idx a : Nat} {cA : ClassId} {f : Nat → Int32} {v : Int32} (hKA : KA cA .int) (ha : ws[q0]? = some (a, .inl (cA, 7, .inl f))) (hsi : xr_si own idx yJ7_fill_53178) (hR : 1 ≤ fr ∧ 23 ≤ lo) (hc1 : cells ≤ mcR) (hs1 : slots ≤ msR) (hw : ws.set q0 (a, .inl (cA, 7, .inl (fun _ => v))) = ws2) (hd : decode cc pc = .ok (.invokestatic idx, 3)) (kk : J (pc + 3) lv [] ws2 cells slots) : J pc lv [.int v, .ref a] ws cells slots := by
  subst hw
  obtain ⟨p, e, R, s, m, args, below, meth, kc, A, Q, hx, hb, hml, hown, hts, hK, hN, hA, hini, hfr, hlo, hcl, hsl, rfl, rfl⟩ := B
  intro H locs ls hP hD hS hl
  have hK1 : va_K D vwCl [(cA, .int)] s := ⟨hK.1, fun k q h => by
    cases k with
    | zero => cases h; exact hKA
    | succ k => simp at h⟩
  have cb : CallB R s args own idx yJ7_fill_53178 cJ7_fill_53178 4 none (Cond.code yJ7_fill_53178 cJ7_fill_53178 4 none :: xr_tb) ({ frames := 0, cells := 0, slots := 0, locals := 0 } : Room) 0 0 2 := callB_of 2 hts (xr_good xm_J7_fill_53178) rfl rfl rfl (hts _ xm_J7_fill_53178.2.1) (hts _ hsi.1) ⟨xm_J7_fill_53178.2.2.2.1, xm_J7_fill_53178.2.2.2.2.1, xm_J7_fill_53178.2.2.2.2.2⟩ ⟨Nat.le_trans hR.1 hfr, Nat.le_trans hR.2 hlo⟩
  have hrun := va_runS (As := [.ref a, .int v]) (rest := []) (H := H) (locs := locs) (cells := cells) (slots := slots) (l := l) (e := e) (below := below) (meth := meth) (g := F0 m pc ls [.int v, .ref a]) ⟨hx, hb, hml, hown, hts⟩ (xk_fill l D a cA 7 f v (by decide)) ⟨cb, hts _ hsi.2⟩ ⟨fun a U g mk q => ⟨q.1, q.2.1, va_K.moved (u := U) (U := U.calling g mk a) (Vm.Alike.refl U.vm) q.2.2⟩, fun U hU hW => ⟨rfl, by rw [hU]; exact hP.sub [q0] (by simp [ha]), va_K.moved hW.alike hK1⟩⟩ rfl rfl hl.1 rfl (lv_room (Nat.le_of_ble_eq_true rfl)) hd ⟨Nat.le_trans hc1 hcl, Nat.le_trans hs1 hsl⟩
  intro T hT X
  obtain ⟨v0, st₀, t, T', L, h0, X', hL, e1, e2, ⟨hv, hp, hz, hk⟩, hst⟩ := hrun T hT X
  cases hv
  rw [h0] at hz hk
  rw [← e1] at hp hz hk
  have hAa : ∀ q, xk_fA a q → A q := fun q h => by rw [show q = a from h]; exact hD.2 q0 _ ha
  obtain ⟨t2, a1, b1⟩ := kk T'.heap (locs ++ L) ls (xk_pset hP hD ha (hp 0 _ rfl) hk) (hD.set ha)
    ⟨Nat.le_trans hS.1 hz, fun x h1 h2 => by rw [hk x (Nat.lt_of_lt_of_le h1 hS.1) (fun z => h2 (hAa x z))]; exact hS.2.1 x h1 h2, fun x hx => by
      rcases List.mem_append.mp hx with h | h
      · exact hS.2.2 x h
      · exact hAa _ (hL x h)⟩ hl T' rfl X'
  exact ⟨t2, hst t2 a1, b1⟩
def xk_s9 : List xr_Sh := [.inr (9, [some 1]), .inl (0, 30)]
def xk_i9 : xr_S := (fun _ _ => 0, fun _ => 0)
set_option maxRecDepth 100000 in
set_option maxHeartbeats 4000000 in
theorem xk_c9 (l : Launch) (D : va_G) : xk_M l D yX9_init cX9_init 1 20 9 [.null] xk_s9 xk_i9 1 30 := by
  refine xk_open xm_X9_init rfl (fun h0 KA J B RR => ?_)
  refine xk_aload_n B dX9_init_0 rfl rfl ?_
  refine xk_objInit B xo_X9_3 (by decide) (by decide) (Nat.le_of_ble_eq_true rfl) dX9_init_1 ?_
  refine xk_aload_n B dX9_init_4 rfl rfl ?_
  refine xk_bipush B (v := 30) dX9_init_5 (by decide) ?_
  refine xk_newa B (at0 := .int) (a0 := (30, .inl (fun _ => 0))) xt_int rfl (fun _ => rfl) (by decide) (by decide) (by decide) (by decide) (by decide) dX9_init_7 (fun q1 z1 g1 => ?_)
  show J 9 [some (.ref h0)] [.ref q1, .ref h0] ((h0, .inr (9, [.null])) :: [(q1, .inl (z1, (30, .inl (fun _ => 0))))]) 1 30
  refine xk_putR B (ty := tyX9) xw_f9 tyX9_ok nmX9 rfl (k := 0) (by decide) (xr_in 102 (by decide +kernel) rfl) rfl rfl rfl rfl (Nat.le_of_ble_eq_true rfl) dX9_init_9 ?_
  show J 12 [some (.ref h0)] [] ((h0, .inr (9, [.ref q1])) :: [(q1, .inl (z1, (30, .inl (fun _ => 0))))]) 1 30
  refine RR _ _ _ (fun c => ([h0, q1] : List Nat).getD c 0) (fun c => ([z1, z1] : List ClassId).getD c 0) [0, 1] dX9_init_12 rfl (by decide) rfl (fun c k n hc => ?_)
  match c, hc with
  | 0, hc => cases hc
  | 1, hc => cases hc; exact g1
  | c + 2, hc => simp [xk_s9] at hc
def xk_s7 : List xr_Sh := [.inr (7, [none, none, none, none, none, some 1, some 3, some 4, some 5]), .inr (9, [some 2]), .inl (0, 30), .inl (0, 7), .inl (0, 7), .inl (0, 7)]
def xk_i7 : xr_S := (fun _ _ => 0, fun _ => 0)
set_option maxRecDepth 100000 in
set_option maxHeartbeats 4000000 in
theorem xk_c7 (l : Launch) (D : va_G) : xk_M l D yX7_init cX7_init 2 40 7 [.int 0, .int 0, .int 0, .int 0, .int 0, .null, .null, .null, .null] xk_s7 xk_i7 5 52 := by
  refine xk_open xm_X7_init rfl (fun h0 KA J B RR => ?_)
  refine xk_aload_n B dX7_init_0 rfl rfl ?_
  refine xk_objInit B xo_X7_3 (by decide) (by decide) (Nat.le_of_ble_eq_true rfl) dX7_init_1 ?_
  refine xk_aload_n B dX7_init_4 rfl rfl ?_
  refine xk_new B (ci := 9) (fs := [.null]) xw_f9 tyX9_ok xj_X7_9 xi_9 xz_9 rfl (fun j hj => ?_) (by decide) (by decide) dX7_init_5 (fun q1 => ?_)
  · match j, hj with
    | 0, _ => rfl
    | j + 1, hj => exact absurd hj (by omega)
  refine xk_dup B dX7_init_8 rfl ?_
  refine xk_ctorN B xm_X9_init rfl xy_9 xo_X7_11 (xk_c9 l D) (by decide) (by decide) (by decide) (Nat.le_of_ble_eq_true rfl) dX7_init_9 (fun a1 k1 e1 g1 => ?_)
  subst e1
  show J 12 [some (.ref h0)] [.ref (a1 0), .ref h0] ((h0, .inr (7, [.int 0, .int 0, .int 0, .int 0, .int 0, .null, .null, .null, .null])) :: xr_wl a1 k1 xk_i9 0 xk_s9) 2 31
  refine xk_putR B (ty := tyX7) xw_f7 tyX7_ok nmX7 rfl (k := 5) (by decide) (xr_in 132 (by decide +kernel) rfl) rfl rfl rfl rfl (Nat.le_of_ble_eq_true rfl) dX7_init_12 ?_
  show J 15 [some (.ref h0)] [] ((h0, .inr (7, [.int 0, .int 0, .int 0, .int 0, .int 0, .ref (a1 0), .null, .null, .null])) :: xr_wl a1 k1 xk_i9 0 xk_s9) 2 31
  refine xk_aload_n B dX7_init_15 rfl rfl ?_
  refine xk_bipush B (v := 7) dX7_init_16 (by decide) ?_
  refine xk_newa B (at0 := .int) (a0 := (7, .inl (fun _ => 0))) xt_int rfl (fun _ => rfl) (by decide) (by decide) (by decide) (by decide) (by decide) dX7_init_18 (fun q2 z2 g2 => ?_)
  show J 20 [some (.ref h0)] [.ref q2, .ref h0] ((h0, .inr (7, [.int 0, .int 0, .int 0, .int 0, .int 0, .ref (a1 0), .null, .null, .null])) :: (xr_wl a1 k1 xk_i9 0 xk_s9 ++ [(q2, .inl (z2, (7, .inl (fun _ => 0))))])) 3 38
  refine xk_putR B (ty := tyX7) xw_f7 tyX7_ok nmX7 rfl (k := 6) (by decide) (xr_in 135 (by decide +kernel) rfl) rfl rfl rfl rfl (Nat.le_of_ble_eq_true rfl) dX7_init_20 ?_
  show J 23 [some (.ref h0)] [] ((h0, .inr (7, [.int 0, .int 0, .int 0, .int 0, .int 0, .ref (a1 0), .ref q2, .null, .null])) :: (xr_wl a1 k1 xk_i9 0 xk_s9 ++ [(q2, .inl (z2, (7, .inl (fun _ => 0))))])) 3 38
  refine xk_aload_n B dX7_init_23 rfl rfl ?_
  refine xk_bipush B (v := 7) dX7_init_24 (by decide) ?_
  refine xk_newa B (at0 := .int) (a0 := (7, .inl (fun _ => 0))) xt_int rfl (fun _ => rfl) (by decide) (by decide) (by decide) (by decide) (by decide) dX7_init_26 (fun q3 z3 g3 => ?_)
  show J 28 [some (.ref h0)] [.ref q3, .ref h0] ((h0, .inr (7, [.int 0, .int 0, .int 0, .int 0, .int 0, .ref (a1 0), .ref q2, .null, .null])) :: (xr_wl a1 k1 xk_i9 0 xk_s9 ++ ([(q2, .inl (z2, (7, .inl (fun _ => 0))))] ++ [(q3, .inl (z3, (7, .inl (fun _ => 0))))]))) 4 45
  refine xk_putR B (ty := tyX7) xw_f7 tyX7_ok nmX7 rfl (k := 7) (by decide) (xr_in 142 (by decide +kernel) rfl) rfl rfl rfl rfl (Nat.le_of_ble_eq_true rfl) dX7_init_28 ?_
  show J 31 [some (.ref h0)] [] ((h0, .inr (7, [.int 0, .int 0, .int 0, .int 0, .int 0, .ref (a1 0), .ref q2, .ref q3, .null])) :: (xr_wl a1 k1 xk_i9 0 xk_s9 ++ ([(q2, .inl (z2, (7, .inl (fun _ => 0))))] ++ [(q3, .inl (z3, (7, .inl (fun _ => 0))))]))) 4 45
  refine xk_aload_n B dX7_init_31 rfl rfl ?_
  refine xk_bipush B (v := 7) dX7_init_32 (by decide) ?_
  refine xk_newa B (at0 := .int) (a0 := (7, .inl (fun _ => 0))) xt_int rfl (fun _ => rfl) (by decide) (by decide) (by decide) (by decide) (by decide) dX7_init_34 (fun q4 z4 g4 => ?_)
  show J 36 [some (.ref h0)] [.ref q4, .ref h0] ((h0, .inr (7, [.int 0, .int 0, .int 0, .int 0, .int 0, .ref (a1 0), .ref q2, .ref q3, .null])) :: (xr_wl a1 k1 xk_i9 0 xk_s9 ++ ([(q2, .inl (z2, (7, .inl (fun _ => 0))))] ++ ([(q3, .inl (z3, (7, .inl (fun _ => 0))))] ++ [(q4, .inl (z4, (7, .inl (fun _ => 0))))])))) 5 52
  refine xk_putR B (ty := tyX7) xw_f7 tyX7_ok nmX7 rfl (k := 8) (by decide) (xr_in 147 (by decide +kernel) rfl) rfl rfl rfl rfl (Nat.le_of_ble_eq_true rfl) dX7_init_36 ?_
  show J 39 [some (.ref h0)] [] ((h0, .inr (7, [.int 0, .int 0, .int 0, .int 0, .int 0, .ref (a1 0), .ref q2, .ref q3, .ref q4])) :: (xr_wl a1 k1 xk_i9 0 xk_s9 ++ ([(q2, .inl (z2, (7, .inl (fun _ => 0))))] ++ ([(q3, .inl (z3, (7, .inl (fun _ => 0))))] ++ [(q4, .inl (z4, (7, .inl (fun _ => 0))))])))) 5 52
  refine RR _ _ _ (fun c => ([h0, a1 0, a1 1, q2, q3, q4] : List Nat).getD c 0) (fun c => ([k1 1, k1 1, k1 1, z2, z3, z4] : List ClassId).getD c 0) [0, 1, 2, 3, 4, 5] dX7_init_39 rfl (by decide) rfl (fun c k n hc => ?_)
  match c, hc with
  | 0, hc => cases hc
  | 1, hc => cases hc
  | 2, hc => cases hc; exact g1 1 _ _ rfl
  | 3, hc => cases hc; exact g2
  | 4, hc => cases hc; exact g3
  | 5, hc => cases hc; exact g4
  | c + 6, hc => simp [xk_s7] at hc
def xk_s6 : List xr_Sh := [.inr (6, [none, none, some 2, some 1, none, none, none, none]), .inl (0, 240), .inr (7, [none, none, none, none, none, some 3, some 5, some 6, some 7]), .inr (9, [some 4]), .inl (0, 30), .inl (0, 7), .inl (0, 7), .inl (0, 7)]
def xk_i6 : xr_S := (fun c => if c = 0 then (fun k => if k = 1 then -1 else 0) else (fun _ => 0), fun _ => 0)
set_option maxRecDepth 100000 in
set_option maxHeartbeats 4000000 in
theorem xk_c6 (l : Launch) (D : va_G) : xk_M l D yX6_init cX6_init 3 60 6 [.int 0, .int 0, .null, .null, .int 0, .int 0, .int 0, .int 0] xk_s6 xk_i6 7 301 := by
  refine xk_open xm_X6_init rfl (fun h0 KA J B RR => ?_)
  refine xk_aload_n B dX6_init_0 rfl rfl ?_
  refine xk_objInit B xo_X6_3 (by decide) (by decide) (Nat.le_of_ble_eq_true rfl) dX6_init_1 ?_
  refine xk_aload_n B dX6_init_4 rfl rfl ?_
  refine xk_iconst B (v := (-1)) dX6_init_5 (by decide) ?_
  refine xk_putI B (ty := tyX6) xw_f6 tyX6_ok nmX6 rfl (k := 1) (by decide) (xr_in 172 (by decide +kernel) rfl) rfl rfl rfl (Nat.le_of_ble_eq_true rfl) dX6_init_6 ?_
  show J 9 [some (.ref h0)] [] ((h0, .inr (6, [.int 0, .int (-1), .null, .null, .int 0, .int 0, .int 0, .int 0])) :: []) 0 0
  refine xk_aload_n B dX6_init_9 rfl rfl ?_
  refine xk_new B (ci := 7) (fs := [.int 0, .int 0, .int 0, .int 0, .int 0, .null, .null, .null, .null]) xw_f7 tyX7_ok xj_X6_15 xi_7 xz_7 rfl (fun j hj => ?_) (by decide) (by decide) dX6_init_10 (fun q1 => ?_)
  · match j, hj with
    | 0, _ => rfl
    | 1, _ => rfl
    | 2, _ => rfl
    | 3, _ => rfl
    | 4, _ => rfl
    | 5, _ => rfl
    | 6, _ => rfl
    | 7, _ => rfl
    | 8, _ => rfl
    | j + 9, hj => exact absurd hj (by omega)
  refine xk_dup B dX6_init_13 rfl ?_
  refine xk_ctorN B xm_X7_init rfl xy_7 xo_X6_17 (xk_c7 l D) (by decide) (by decide) (by decide) (Nat.le_of_ble_eq_true rfl) dX6_init_14 (fun a1 k1 e1 g1 => ?_)
  subst e1
  show J 17 [some (.ref h0)] [.ref (a1 0), .ref h0] ((h0, .inr (6, [.int 0, .int (-1), .null, .null, .int 0, .int 0, .int 0, .int 0])) :: xr_wl a1 k1 xk_i7 0 xk_s7) 6 61
  refine xk_putR B (ty := tyX6) xw_f6 tyX6_ok nmX6 rfl (k := 2) (by decide) (xr_in 174 (by decide +kernel) rfl) rfl rfl rfl rfl (Nat.le_of_ble_eq_true rfl) dX6_init_17 ?_
  show J 20 [some (.ref h0)] [] ((h0, .inr (6, [.int 0, .int (-1), .ref (a1 0), .null, .int 0, .int 0, .int 0, .int 0])) :: xr_wl a1 k1 xk_i7 0 xk_s7) 6 61
  refine xk_aload_n B dX6_init_20 rfl rfl ?_
  refine xk_sipush B (v := 240) dX6_init_21 (by decide) ?_
  refine xk_newa B (at0 := .int) (a0 := (240, .inl (fun _ => 0))) xt_int rfl (fun _ => rfl) (by decide) (by decide) (by decide) (by decide) (by decide) dX6_init_24 (fun q2 z2 g2 => ?_)
  show J 26 [some (.ref h0)] [.ref q2, .ref h0] ((h0, .inr (6, [.int 0, .int (-1), .ref (a1 0), .null, .int 0, .int 0, .int 0, .int 0])) :: (xr_wl a1 k1 xk_i7 0 xk_s7 ++ [(q2, .inl (z2, (240, .inl (fun _ => 0))))])) 7 301
  refine xk_putR B (ty := tyX6) xw_f6 tyX6_ok nmX6 rfl (k := 3) (by decide) (xr_in 176 (by decide +kernel) rfl) rfl rfl rfl rfl (Nat.le_of_ble_eq_true rfl) dX6_init_26 ?_
  show J 29 [some (.ref h0)] [] ((h0, .inr (6, [.int 0, .int (-1), .ref (a1 0), .ref q2, .int 0, .int 0, .int 0, .int 0])) :: (xr_wl a1 k1 xk_i7 0 xk_s7 ++ [(q2, .inl (z2, (240, .inl (fun _ => 0))))])) 7 301
  refine RR _ _ _ (fun c => ([h0, q2, a1 0, a1 1, a1 2, a1 3, a1 4, a1 5] : List Nat).getD c 0) (fun c => ([z2, z2, z2, z2, k1 2, k1 3, k1 4, k1 5] : List ClassId).getD c 0) [0, 7, 1, 2, 3, 4, 5, 6] dX6_init_29 rfl (by decide) rfl (fun c k n hc => ?_)
  match c, hc with
  | 0, hc => cases hc
  | 1, hc => cases hc; exact g2
  | 2, hc => cases hc
  | 3, hc => cases hc
  | 4, hc => cases hc; exact g1 2 _ _ rfl
  | 5, hc => cases hc; exact g1 3 _ _ rfl
  | 6, hc => cases hc; exact g1 4 _ _ rfl
  | 7, hc => cases hc; exact g1 5 _ _ rfl
  | c + 8, hc => simp [xk_s6] at hc
def xk_s0 : List xr_Sh := [.inr (0, [none, none, some 1, some 2, some 3]), .inl (0, 7), .inl (0, 6), .inl (0, 512)]
def xk_i0 : xr_S := (fun _ _ => 0, fun _ => 0)
set_option maxRecDepth 100000 in
set_option maxHeartbeats 4000000 in
theorem xk_c0 (l : Launch) (D : va_G) : xk_M l D yX0_init cX0_init 1 20 0 [.int 0, .int 0, .null, .null, .null] xk_s0 xk_i0 3 525 := by
  refine xk_open xm_X0_init rfl (fun h0 KA J B RR => ?_)
  refine xk_aload_n B dX0_init_0 rfl rfl ?_
  refine xk_objInit B xo_X0_3 (by decide) (by decide) (Nat.le_of_ble_eq_true rfl) dX0_init_1 ?_
  refine xk_aload_n B dX0_init_4 rfl rfl ?_
  refine xk_bipush B (v := 7) dX0_init_5 (by decide) ?_
  refine xk_newa B (at0 := .int) (a0 := (7, .inl (fun _ => 0))) xt_int rfl (fun _ => rfl) (by decide) (by decide) (by decide) (by decide) (by decide) dX0_init_7 (fun q1 z1 g1 => ?_)
  show J 9 [some (.ref h0)] [.ref q1, .ref h0] ((h0, .inr (0, [.int 0, .int 0, .null, .null, .null])) :: [(q1, .inl (z1, (7, .inl (fun _ => 0))))]) 1 7
  refine xk_putR B (ty := tyX0) xw_f0 tyX0_ok nmX0 rfl (k := 2) (by decide) (xr_in 261 (by decide +kernel) rfl) rfl rfl rfl rfl (Nat.le_of_ble_eq_true rfl) dX0_init_9 ?_
  show J 12 [some (.ref h0)] [] ((h0, .inr (0, [.int 0, .int 0, .ref q1, .null, .null])) :: [(q1, .inl (z1, (7, .inl (fun _ => 0))))]) 1 7
  refine xk_aload_n B dX0_init_12 rfl rfl ?_
  refine xk_bipush B (v := 6) dX0_init_13 (by decide) ?_
  refine xk_newa B (at0 := .int) (a0 := (6, .inl (fun _ => 0))) xt_int rfl (fun _ => rfl) (by decide) (by decide) (by decide) (by decide) (by decide) dX0_init_15 (fun q2 z2 g2 => ?_)
  show J 17 [some (.ref h0)] [.ref q2, .ref h0] ((h0, .inr (0, [.int 0, .int 0, .ref q1, .null, .null])) :: ([(q1, .inl (z1, (7, .inl (fun _ => 0))))] ++ [(q2, .inl (z2, (6, .inl (fun _ => 0))))])) 2 13
  refine xk_putR B (ty := tyX0) xw_f0 tyX0_ok nmX0 rfl (k := 3) (by decide) (xr_in 264 (by decide +kernel) rfl) rfl rfl rfl rfl (Nat.le_of_ble_eq_true rfl) dX0_init_17 ?_
  show J 20 [some (.ref h0)] [] ((h0, .inr (0, [.int 0, .int 0, .ref q1, .ref q2, .null])) :: ([(q1, .inl (z1, (7, .inl (fun _ => 0))))] ++ [(q2, .inl (z2, (6, .inl (fun _ => 0))))])) 2 13
  refine xk_aload_n B dX0_init_20 rfl rfl ?_
  refine xk_sipush B (v := 512) dX0_init_21 (by decide) ?_
  refine xk_newa B (at0 := .int) (a0 := (512, .inl (fun _ => 0))) xt_int rfl (fun _ => rfl) (by decide) (by decide) (by decide) (by decide) (by decide) dX0_init_24 (fun q3 z3 g3 => ?_)
  show J 26 [some (.ref h0)] [.ref q3, .ref h0] ((h0, .inr (0, [.int 0, .int 0, .ref q1, .ref q2, .null])) :: ([(q1, .inl (z1, (7, .inl (fun _ => 0))))] ++ ([(q2, .inl (z2, (6, .inl (fun _ => 0))))] ++ [(q3, .inl (z3, (512, .inl (fun _ => 0))))]))) 3 525
  refine xk_putR B (ty := tyX0) xw_f0 tyX0_ok nmX0 rfl (k := 4) (by decide) (xr_in 265 (by decide +kernel) rfl) rfl rfl rfl rfl (Nat.le_of_ble_eq_true rfl) dX0_init_26 ?_
  show J 29 [some (.ref h0)] [] ((h0, .inr (0, [.int 0, .int 0, .ref q1, .ref q2, .ref q3])) :: ([(q1, .inl (z1, (7, .inl (fun _ => 0))))] ++ ([(q2, .inl (z2, (6, .inl (fun _ => 0))))] ++ [(q3, .inl (z3, (512, .inl (fun _ => 0))))]))) 3 525
  refine RR _ _ _ (fun c => ([h0, q1, q2, q3] : List Nat).getD c 0) (fun c => ([z1, z1, z2, z3] : List ClassId).getD c 0) [0, 1, 2, 3] dX0_init_29 rfl (by decide) rfl (fun c k n hc => ?_)
  match c, hc with
  | 0, hc => cases hc
  | 1, hc => cases hc; exact g1
  | 2, hc => cases hc; exact g2
  | 3, hc => cases hc; exact g3
  | c + 4, hc => simp [xk_s0] at hc
def xk_s4 : List xr_Sh := [.inr (4, [some 1, some 3]), .inr (9, [some 2]), .inl (0, 30), .inl (0, 7)]
def xk_i4 : xr_S := (fun _ _ => 0, fun _ => 0)
set_option maxRecDepth 100000 in
set_option maxHeartbeats 4000000 in
theorem xk_c4 (l : Launch) (D : va_G) : xk_M l D yX4_init cX4_init 2 40 4 [.null, .null] xk_s4 xk_i4 3 38 := by
  refine xk_open xm_X4_init rfl (fun h0 KA J B RR => ?_)
  refine xk_aload_n B dX4_init_0 rfl rfl ?_
  refine xk_objInit B xo_X4_3 (by decide) (by decide) (Nat.le_of_ble_eq_true rfl) dX4_init_1 ?_
  refine xk_aload_n B dX4_init_4 rfl rfl ?_
  refine xk_new B (ci := 9) (fs := [.null]) xw_f9 tyX9_ok xj_X4_9 xi_9 xz_9 rfl (fun j hj => ?_) (by decide) (by decide) dX4_init_5 (fun q1 => ?_)
  · match j, hj with
    | 0, _ => rfl
    | j + 1, hj => exact absurd hj (by omega)
  refine xk_dup B dX4_init_8 rfl ?_
  refine xk_ctorN B xm_X9_init rfl xy_9 xo_X4_11 (xk_c9 l D) (by decide) (by decide) (by decide) (Nat.le_of_ble_eq_true rfl) dX4_init_9 (fun a1 k1 e1 g1 => ?_)
  subst e1
  show J 12 [some (.ref h0)] [.ref (a1 0), .ref h0] ((h0, .inr (4, [.null, .null])) :: xr_wl a1 k1 xk_i9 0 xk_s9) 2 31
  refine xk_putR B (ty := tyX4) xw_f4 tyX4_ok nmX4 rfl (k := 0) (by decide) (xr_in 285 (by decide +kernel) rfl) rfl rfl rfl rfl (Nat.le_of_ble_eq_true rfl) dX4_init_12 ?_
  show J 15 [some (.ref h0)] [] ((h0, .inr (4, [.ref (a1 0), .null])) :: xr_wl a1 k1 xk_i9 0 xk_s9) 2 31
  refine xk_aload_n B dX4_init_15 rfl rfl ?_
  refine xk_bipush B (v := 7) dX4_init_16 (by decide) ?_
  refine xk_newa B (at0 := .int) (a0 := (7, .inl (fun _ => 0))) xt_int rfl (fun _ => rfl) (by decide) (by decide) (by decide) (by decide) (by decide) dX4_init_18 (fun q2 z2 g2 => ?_)
  show J 20 [some (.ref h0)] [.ref q2, .ref h0] ((h0, .inr (4, [.ref (a1 0), .null])) :: (xr_wl a1 k1 xk_i9 0 xk_s9 ++ [(q2, .inl (z2, (7, .inl (fun _ => 0))))])) 3 38
  refine xk_putR B (ty := tyX4) xw_f4 tyX4_ok nmX4 rfl (k := 1) (by decide) (xr_in 287 (by decide +kernel) rfl) rfl rfl rfl rfl (Nat.le_of_ble_eq_true rfl) dX4_init_20 ?_
  show J 23 [some (.ref h0)] [] ((h0, .inr (4, [.ref (a1 0), .ref q2])) :: (xr_wl a1 k1 xk_i9 0 xk_s9 ++ [(q2, .inl (z2, (7, .inl (fun _ => 0))))])) 3 38
  refine RR _ _ _ (fun c => ([h0, a1 0, a1 1, q2] : List Nat).getD c 0) (fun c => ([k1 1, k1 1, k1 1, z2] : List ClassId).getD c 0) [0, 1, 2, 3] dX4_init_23 rfl (by decide) rfl (fun c k n hc => ?_)
  match c, hc with
  | 0, hc => cases hc
  | 1, hc => cases hc
  | 2, hc => cases hc; exact g1 1 _ _ rfl
  | 3, hc => cases hc; exact g2
  | c + 4, hc => simp [xk_s4] at hc
def xk_s1 : List xr_Sh := [.inr (1, [none, some 1]), .inl (0, 8)]
def xk_i1 : xr_S := (fun _ _ => 0, fun _ => 0)
set_option maxRecDepth 100000 in
set_option maxHeartbeats 4000000 in
theorem xk_c1 (l : Launch) (D : va_G) : xk_M l D yX1_init cX1_init 1 20 1 [.int 0, .null] xk_s1 xk_i1 1 8 := by
  refine xk_open xm_X1_init rfl (fun h0 KA J B RR => ?_)
  refine xk_aload_n B dX1_init_0 rfl rfl ?_
  refine xk_objInit B xo_X1_3 (by decide) (by decide) (Nat.le_of_ble_eq_true rfl) dX1_init_1 ?_
  refine xk_aload_n B dX1_init_4 rfl rfl ?_
  refine xk_bipush B (v := 8) dX1_init_5 (by decide) ?_
  refine xk_newa B (at0 := .int) (a0 := (8, .inl (fun _ => 0))) xt_int rfl (fun _ => rfl) (by decide) (by decide) (by decide) (by decide) (by decide) dX1_init_7 (fun q1 z1 g1 => ?_)
  show J 9 [some (.ref h0)] [.ref q1, .ref h0] ((h0, .inr (1, [.int 0, .null])) :: [(q1, .inl (z1, (8, .inl (fun _ => 0))))]) 1 8
  refine xk_putR B (ty := tyX1) xw_f1 tyX1_ok nmX1 rfl (k := 1) (by decide) (xr_in 301 (by decide +kernel) rfl) rfl rfl rfl rfl (Nat.le_of_ble_eq_true rfl) dX1_init_9 ?_
  show J 12 [some (.ref h0)] [] ((h0, .inr (1, [.int 0, .ref q1])) :: [(q1, .inl (z1, (8, .inl (fun _ => 0))))]) 1 8
  refine RR _ _ _ (fun c => ([h0, q1] : List Nat).getD c 0) (fun c => ([z1, z1] : List ClassId).getD c 0) [0, 1] dX1_init_12 rfl (by decide) rfl (fun c k n hc => ?_)
  match c, hc with
  | 0, hc => cases hc
  | 1, hc => cases hc; exact g1
  | c + 2, hc => simp [xk_s1] at hc
def xk_s3 : List xr_Sh := [.inr (3, [some 1]), .inl (0, 64)]
def xk_i3 : xr_S := (fun _ _ => 0, fun _ => 0)
set_option maxRecDepth 100000 in
set_option maxHeartbeats 4000000 in
theorem xk_c3 (l : Launch) (D : va_G) : xk_M l D yX3_init cX3_init 1 20 3 [.null] xk_s3 xk_i3 1 64 := by
  refine xk_open xm_X3_init rfl (fun h0 KA J B RR => ?_)
  refine xk_aload_n B dX3_init_0 rfl rfl ?_
  refine xk_objInit B xo_X3_3 (by decide) (by decide) (Nat.le_of_ble_eq_true rfl) dX3_init_1 ?_
  refine xk_aload_n B dX3_init_4 rfl rfl ?_
  refine xk_bipush B (v := 64) dX3_init_5 (by decide) ?_
  refine xk_newa B (at0 := .int) (a0 := (64, .inl (fun _ => 0))) xt_int rfl (fun _ => rfl) (by decide) (by decide) (by decide) (by decide) (by decide) dX3_init_7 (fun q1 z1 g1 => ?_)
  show J 9 [some (.ref h0)] [.ref q1, .ref h0] ((h0, .inr (3, [.null])) :: [(q1, .inl (z1, (64, .inl (fun _ => 0))))]) 1 64
  refine xk_putR B (ty := tyX3) xw_f3 tyX3_ok nmX3 rfl (k := 0) (by decide) (xr_in 313 (by decide +kernel) rfl) rfl rfl rfl rfl (Nat.le_of_ble_eq_true rfl) dX3_init_9 ?_
  show J 12 [some (.ref h0)] [] ((h0, .inr (3, [.ref q1])) :: [(q1, .inl (z1, (64, .inl (fun _ => 0))))]) 1 64
  refine RR _ _ _ (fun c => ([h0, q1] : List Nat).getD c 0) (fun c => ([z1, z1] : List ClassId).getD c 0) [0, 1] dX3_init_12 rfl (by decide) rfl (fun c k n hc => ?_)
  match c, hc with
  | 0, hc => cases hc
  | 1, hc => cases hc; exact g1
  | c + 2, hc => simp [xk_s3] at hc
def xk_s8 : List xr_Sh := [.inr (8, [some 1]), .inl (0, 8)]
def xk_i8 : xr_S := (fun _ _ => 0, fun _ => 0)
set_option maxRecDepth 100000 in
set_option maxHeartbeats 4000000 in
theorem xk_c8 (l : Launch) (D : va_G) : xk_M l D yX8_init cX8_init 1 20 8 [.null] xk_s8 xk_i8 1 8 := by
  refine xk_open xm_X8_init rfl (fun h0 KA J B RR => ?_)
  refine xk_aload_n B dX8_init_0 rfl rfl ?_
  refine xk_objInit B xo_X8_3 (by decide) (by decide) (Nat.le_of_ble_eq_true rfl) dX8_init_1 ?_
  refine xk_aload_n B dX8_init_4 rfl rfl ?_
  refine xk_bipush B (v := 8) dX8_init_5 (by decide) ?_
  refine xk_newa B (at0 := .int) (a0 := (8, .inl (fun _ => 0))) xt_int rfl (fun _ => rfl) (by decide) (by decide) (by decide) (by decide) (by decide) dX8_init_7 (fun q1 z1 g1 => ?_)
  show J 9 [some (.ref h0)] [.ref q1, .ref h0] ((h0, .inr (8, [.null])) :: [(q1, .inl (z1, (8, .inl (fun _ => 0))))]) 1 8
  refine xk_putR B (ty := tyX8) xw_f8 tyX8_ok nmX8 rfl (k := 0) (by decide) (xr_in 323 (by decide +kernel) rfl) rfl rfl rfl rfl (Nat.le_of_ble_eq_true rfl) dX8_init_9 ?_
  show J 12 [some (.ref h0)] [] ((h0, .inr (8, [.ref q1])) :: [(q1, .inl (z1, (8, .inl (fun _ => 0))))]) 1 8
  refine RR _ _ _ (fun c => ([h0, q1] : List Nat).getD c 0) (fun c => ([z1, z1] : List ClassId).getD c 0) [0, 1] dX8_init_12 rfl (by decide) rfl (fun c k n hc => ?_)
  match c, hc with
  | 0, hc => cases hc
  | 1, hc => cases hc; exact g1
  | c + 2, hc => simp [xk_s8] at hc
def xk_s2 : List xr_Sh := [.inr (2, [none, some 1, some 2, some 3]), .inl (0, 15), .inl (0, 15), .inl (0, 15)]
def xk_i2 : xr_S := (fun _ _ => 0, fun _ => 0)
set_option maxRecDepth 100000 in
set_option maxHeartbeats 4000000 in
theorem xk_c2 (l : Launch) (D : va_G) : xk_M l D yX2_init cX2_init 1 20 2 [.int 0, .null, .null, .null] xk_s2 xk_i2 3 45 := by
  refine xk_open xm_X2_init rfl (fun h0 KA J B RR => ?_)
  refine xk_aload_n B dX2_init_0 rfl rfl ?_
  refine xk_objInit B xo_X2_3 (by decide) (by decide) (Nat.le_of_ble_eq_true rfl) dX2_init_1 ?_
  refine xk_aload_n B dX2_init_4 rfl rfl ?_
  refine xk_bipush B (v := 15) dX2_init_5 (by decide) ?_
  refine xk_newa B (at0 := .int) (a0 := (15, .inl (fun _ => 0))) xt_int rfl (fun _ => rfl) (by decide) (by decide) (by decide) (by decide) (by decide) dX2_init_7 (fun q1 z1 g1 => ?_)
  show J 9 [some (.ref h0)] [.ref q1, .ref h0] ((h0, .inr (2, [.int 0, .null, .null, .null])) :: [(q1, .inl (z1, (15, .inl (fun _ => 0))))]) 1 15
  refine xk_putR B (ty := tyX2) xw_f2 tyX2_ok nmX2 rfl (k := 1) (by decide) (xr_in 335 (by decide +kernel) rfl) rfl rfl rfl rfl (Nat.le_of_ble_eq_true rfl) dX2_init_9 ?_
  show J 12 [some (.ref h0)] [] ((h0, .inr (2, [.int 0, .ref q1, .null, .null])) :: [(q1, .inl (z1, (15, .inl (fun _ => 0))))]) 1 15
  refine xk_aload_n B dX2_init_12 rfl rfl ?_
  refine xk_bipush B (v := 15) dX2_init_13 (by decide) ?_
  refine xk_newa B (at0 := .int) (a0 := (15, .inl (fun _ => 0))) xt_int rfl (fun _ => rfl) (by decide) (by decide) (by decide) (by decide) (by decide) dX2_init_15 (fun q2 z2 g2 => ?_)
  show J 17 [some (.ref h0)] [.ref q2, .ref h0] ((h0, .inr (2, [.int 0, .ref q1, .null, .null])) :: ([(q1, .inl (z1, (15, .inl (fun _ => 0))))] ++ [(q2, .inl (z2, (15, .inl (fun _ => 0))))])) 2 30
  refine xk_putR B (ty := tyX2) xw_f2 tyX2_ok nmX2 rfl (k := 2) (by decide) (xr_in 336 (by decide +kernel) rfl) rfl rfl rfl rfl (Nat.le_of_ble_eq_true rfl) dX2_init_17 ?_
  show J 20 [some (.ref h0)] [] ((h0, .inr (2, [.int 0, .ref q1, .ref q2, .null])) :: ([(q1, .inl (z1, (15, .inl (fun _ => 0))))] ++ [(q2, .inl (z2, (15, .inl (fun _ => 0))))])) 2 30
  refine xk_aload_n B dX2_init_20 rfl rfl ?_
  refine xk_bipush B (v := 15) dX2_init_21 (by decide) ?_
  refine xk_newa B (at0 := .int) (a0 := (15, .inl (fun _ => 0))) xt_int rfl (fun _ => rfl) (by decide) (by decide) (by decide) (by decide) (by decide) dX2_init_23 (fun q3 z3 g3 => ?_)
  show J 25 [some (.ref h0)] [.ref q3, .ref h0] ((h0, .inr (2, [.int 0, .ref q1, .ref q2, .null])) :: ([(q1, .inl (z1, (15, .inl (fun _ => 0))))] ++ ([(q2, .inl (z2, (15, .inl (fun _ => 0))))] ++ [(q3, .inl (z3, (15, .inl (fun _ => 0))))]))) 3 45
  refine xk_putR B (ty := tyX2) xw_f2 tyX2_ok nmX2 rfl (k := 3) (by decide) (xr_in 337 (by decide +kernel) rfl) rfl rfl rfl rfl (Nat.le_of_ble_eq_true rfl) dX2_init_25 ?_
  show J 28 [some (.ref h0)] [] ((h0, .inr (2, [.int 0, .ref q1, .ref q2, .ref q3])) :: ([(q1, .inl (z1, (15, .inl (fun _ => 0))))] ++ ([(q2, .inl (z2, (15, .inl (fun _ => 0))))] ++ [(q3, .inl (z3, (15, .inl (fun _ => 0))))]))) 3 45
  refine RR _ _ _ (fun c => ([h0, q1, q2, q3] : List Nat).getD c 0) (fun c => ([z1, z1, z2, z3] : List ClassId).getD c 0) [0, 1, 2, 3] dX2_init_28 rfl (by decide) rfl (fun c k n hc => ?_)
  match c, hc with
  | 0, hc => cases hc
  | 1, hc => cases hc; exact g1
  | 2, hc => cases hc; exact g2
  | 3, hc => cases hc; exact g3
  | c + 4, hc => simp [xk_s2] at hc
def xk_s5 : List xr_Sh := [.inr (5, [some 1, some 3, some 4, none, none, none, none, none]), .inr (9, [some 2]), .inl (0, 30), .inl (0, 7), .inl (0, 7)]
def xk_i5 : xr_S := (fun c => if c = 3 ∨ c = 4 then (fun _ => -1) else (fun _ => 0), fun _ => 0)
set_option maxRecDepth 100000 in
set_option maxHeartbeats 4000000 in
theorem xk_c5 (l : Launch) (D : va_G) : xk_M l D yX5_init cX5_init 2 40 5 [.null, .null, .null, .int 0, .int 0, .int 0, .int 0, .int 0] xk_s5 xk_i5 4 45 := by
  refine xk_open xm_X5_init rfl (fun h0 KA J B RR => ?_)
  refine xk_aload_n B dX5_init_0 rfl rfl ?_
  refine xk_objInit B xo_X5_3 (by decide) (by decide) (Nat.le_of_ble_eq_true rfl) dX5_init_1 ?_
  refine xk_aload_n B dX5_init_4 rfl rfl ?_
  refine xk_new B (ci := 9) (fs := [.null]) xw_f9 tyX9_ok xj_X5_9 xi_9 xz_9 rfl (fun j hj => ?_) (by decide) (by decide) dX5_init_5 (fun q1 => ?_)
  · match j, hj with
    | 0, _ => rfl
    | j + 1, hj => exact absurd hj (by omega)
  refine xk_dup B dX5_init_8 rfl ?_
  refine xk_ctorN B xm_X9_init rfl xy_9 xo_X5_11 (xk_c9 l D) (by decide) (by decide) (by decide) (Nat.le_of_ble_eq_true rfl) dX5_init_9 (fun a1 k1 e1 g1 => ?_)
  subst e1
  show J 12 [some (.ref h0)] [.ref (a1 0), .ref h0] ((h0, .inr (5, [.null, .null, .null, .int 0, .int 0, .int 0, .int 0, .int 0])) :: xr_wl a1 k1 xk_i9 0 xk_s9) 2 31
  refine xk_putR B (ty := tyX5) xw_f5 tyX5_ok nmX5 rfl (k := 0) (by decide) (xr_in 211 (by decide +kernel) rfl) rfl rfl rfl rfl (Nat.le_of_ble_eq_true rfl) dX5_init_12 ?_
  show J 15 [some (.ref h0)] [] ((h0, .inr (5, [.ref (a1 0), .null, .null, .int 0, .int 0, .int 0, .int 0, .int 0])) :: xr_wl a1 k1 xk_i9 0 xk_s9) 2 31
  refine xk_aload_n B dX5_init_15 rfl rfl ?_
  refine xk_bipush B (v := 7) dX5_init_16 (by decide) ?_
  refine xk_newa B (at0 := .int) (a0 := (7, .inl (fun _ => 0))) xt_int rfl (fun _ => rfl) (by decide) (by decide) (by decide) (by decide) (by decide) dX5_init_18 (fun q2 z2 g2 => ?_)
  show J 20 [some (.ref h0)] [.ref q2, .ref h0] ((h0, .inr (5, [.ref (a1 0), .null, .null, .int 0, .int 0, .int 0, .int 0, .int 0])) :: (xr_wl a1 k1 xk_i9 0 xk_s9 ++ [(q2, .inl (z2, (7, .inl (fun _ => 0))))])) 3 38
  refine xk_putR B (ty := tyX5) xw_f5 tyX5_ok nmX5 rfl (k := 1) (by decide) (xr_in 216 (by decide +kernel) rfl) rfl rfl rfl rfl (Nat.le_of_ble_eq_true rfl) dX5_init_20 ?_
  show J 23 [some (.ref h0)] [] ((h0, .inr (5, [.ref (a1 0), .ref q2, .null, .int 0, .int 0, .int 0, .int 0, .int 0])) :: (xr_wl a1 k1 xk_i9 0 xk_s9 ++ [(q2, .inl (z2, (7, .inl (fun _ => 0))))])) 3 38
  refine xk_aload_n B dX5_init_23 rfl rfl ?_
  refine xk_bipush B (v := 7) dX5_init_24 (by decide) ?_
  refine xk_newa B (at0 := .int) (a0 := (7, .inl (fun _ => 0))) xt_int rfl (fun _ => rfl) (by decide) (by decide) (by decide) (by decide) (by decide) dX5_init_26 (fun q3 z3 g3 => ?_)
  show J 28 [some (.ref h0)] [.ref q3, .ref h0] ((h0, .inr (5, [.ref (a1 0), .ref q2, .null, .int 0, .int 0, .int 0, .int 0, .int 0])) :: (xr_wl a1 k1 xk_i9 0 xk_s9 ++ ([(q2, .inl (z2, (7, .inl (fun _ => 0))))] ++ [(q3, .inl (z3, (7, .inl (fun _ => 0))))]))) 4 45
  refine xk_putR B (ty := tyX5) xw_f5 tyX5_ok nmX5 rfl (k := 2) (by decide) (xr_in 219 (by decide +kernel) rfl) rfl rfl rfl rfl (Nat.le_of_ble_eq_true rfl) dX5_init_28 ?_
  show J 31 [some (.ref h0)] [] ((h0, .inr (5, [.ref (a1 0), .ref q2, .ref q3, .int 0, .int 0, .int 0, .int 0, .int 0])) :: (xr_wl a1 k1 xk_i9 0 xk_s9 ++ ([(q2, .inl (z2, (7, .inl (fun _ => 0))))] ++ [(q3, .inl (z3, (7, .inl (fun _ => 0))))]))) 4 45
  refine xk_aload_n B dX5_init_31 rfl rfl ?_
  refine xk_getR B xw_f5 rfl (k := 1) (by decide) (xr_in 216 (by decide +kernel) rfl) rfl dX5_init_32 ?_
  refine xk_iconst B (v := (-1)) dX5_init_35 (by decide) ?_
  refine xk_fillC B 3 g2 rfl xs_X5_25 (by decide) (by decide) (by decide) (ws2 := (h0, .inr (5, [.ref (a1 0), .ref q2, .ref q3, .int 0, .int 0, .int 0, .int 0, .int 0])) :: (xr_wl a1 k1 xk_i9 0 xk_s9 ++ ([(q2, .inl (z2, (7, .inl (fun _ => (-1)))))] ++ [(q3, .inl (z3, (7, .inl (fun _ => 0))))]))) rfl dX5_init_36 ?_
  refine xk_aload_n B dX5_init_39 rfl rfl ?_
  refine xk_getR B xw_f5 rfl (k := 2) (by decide) (xr_in 219 (by decide +kernel) rfl) rfl dX5_init_40 ?_
  refine xk_iconst B (v := (-1)) dX5_init_43 (by decide) ?_
  refine xk_fillC B 4 g3 rfl xs_X5_25 (by decide) (by decide) (by decide) (ws2 := (h0, .inr (5, [.ref (a1 0), .ref q2, .ref q3, .int 0, .int 0, .int 0, .int 0, .int 0])) :: (xr_wl a1 k1 xk_i9 0 xk_s9 ++ ([(q2, .inl (z2, (7, .inl (fun _ => (-1)))))] ++ [(q3, .inl (z3, (7, .inl (fun _ => (-1)))))]))) rfl dX5_init_44 ?_
  refine RR _ _ _ (fun c => ([h0, a1 0, a1 1, q2, q3] : List Nat).getD c 0) (fun c => ([k1 1, k1 1, k1 1, z2, z3] : List ClassId).getD c 0) [0, 1, 2, 3, 4] dX5_init_47 rfl (by decide) rfl (fun c k n hc => ?_)
  match c, hc with
  | 0, hc => cases hc
  | 1, hc => cases hc
  | 2, hc => cases hc; exact g1 1 _ _ rfl
  | 3, hc => cases hc; exact g2
  | 4, hc => cases hc; exact g3
  | c + 5, hc => simp [xk_s5] at hc
def xk_s10 : List xr_Sh := [.inr (10, [some 1, some 9, some 15, some 20, some 31, some 35, some 39, some 41, some 43, some 45, none, none]), .inr (6, [none, none, some 3, some 2, none, none, none, none]), .inl (0, 240), .inr (7, [none, none, none, none, none, some 4, some 6, some 7, some 8]), .inr (9, [some 5]), .inl (0, 30), .inl (0, 7), .inl (0, 7), .inl (0, 7), .inr (7, [none, none, none, none, none, some 10, some 12, some 13, some 14]), .inr (9, [some 11]), .inl (0, 30), .inl (0, 7), .inl (0, 7), .inl (0, 7), .inr (5, [some 16, some 18, some 19, none, none, none, none, none]), .inr (9, [some 17]), .inl (0, 30), .inl (0, 7), .inl (0, 7), .inl (3, 2), .inr (5, [some 22, some 24, some 25, none, none, none, none, none]), .inr (9, [some 23]), .inl (0, 30), .inl (0, 7), .inl (0, 7), .inr (5, [some 27, some 29, some 30, none, none, none, none, none]), .inr (9, [some 28]), .inl (0, 30), .inl (0, 7), .inl (0, 7), .inr (0, [none, none, some 32, some 33, some 34]), .inl (0, 7), .inl (0, 6), .inl (0, 512), .inr (4, [some 36, some 38]), .inr (9, [some 37]), .inl (0, 30), .inl (0, 7), .inr (1, [none, some 40]), .inl (0, 8), .inr (3, [some 42]), .inl (0, 64), .inr (8, [some 44]), .inl (0, 8), .inr (2, [none, some 46, some 47, some 48]), .inl (0, 15), .inl (0, 15), .inl (0, 15)]
def xk_i10 : xr_S := (fun c => if c = 0 then (fun k => if k = 11 then -1 else 0) else if c = 1 then (fun k => if k = 1 then -1 else 0) else if c = 18 ∨ c = 19 ∨ c = 24 ∨ c = 25 ∨ c = 29 ∨ c = 30 then (fun _ => -1) else (fun _ => 0), fun _ => 0)
set_option maxRecDepth 100000 in
set_option maxHeartbeats 4000000 in
theorem xk_c10 (l : Launch) (D : va_G) : xk_M l D yX10_init cX10_init 4 80 10 [.null, .null, .null, .null, .null, .null, .null, .null, .null, .null, .int 0, .int 0] xk_s10 xk_i10 48 1234 := by
  refine xk_open xm_X10_init rfl (fun h0 KA J B RR => ?_)
  refine xk_aload_n B dX10_init_0 rfl rfl ?_
  refine xk_objInit B xo_X10_3 (by decide) (by decide) (Nat.le_of_ble_eq_true rfl) dX10_init_1 ?_
  refine xk_aload_n B dX10_init_4 rfl rfl ?_
  refine xk_new B (ci := 6) (fs := [.int 0, .int 0, .null, .null, .int 0, .int 0, .int 0, .int 0]) xw_f6 tyX6_ok xj_X10_9 xi_6 xz_6 rfl (fun j hj => ?_) (by decide) (by decide) dX10_init_5 (fun q1 => ?_)
  · match j, hj with
    | 0, _ => rfl
    | 1, _ => rfl
    | 2, _ => rfl
    | 3, _ => rfl
    | 4, _ => rfl
    | 5, _ => rfl
    | 6, _ => rfl
    | 7, _ => rfl
    | j + 8, hj => exact absurd hj (by omega)
  refine xk_dup B dX10_init_8 rfl ?_
  refine xk_ctorN B xm_X6_init rfl xy_6 xo_X10_11 (xk_c6 l D) (by decide) (by decide) (by decide) (Nat.le_of_ble_eq_true rfl) dX10_init_9 (fun a1 k1 e1 g1 => ?_)
  subst e1
  show J 12 [some (.ref h0)] [.ref (a1 0), .ref h0] ((h0, .inr (10, [.null, .null, .null, .null, .null, .null, .null, .null, .null, .null, .int 0, .int 0])) :: xr_wl a1 k1 xk_i6 0 xk_s6) 8 309
  refine xk_putR B (ty := tyX10) xw_f10 tyX10_ok nmX10 rfl (k := 0) (by decide) (xr_in 347 (by decide +kernel) rfl) rfl rfl rfl rfl (Nat.le_of_ble_eq_true rfl) dX10_init_12 ?_
  show J 15 [some (.ref h0)] [] ((h0, .inr (10, [.ref (a1 0), .null, .null, .null, .null, .null, .null, .null, .null, .null, .int 0, .int 0])) :: xr_wl a1 k1 xk_i6 0 xk_s6) 8 309
  refine xk_aload_n B dX10_init_15 rfl rfl ?_
  refine xk_new B (ci := 7) (fs := [.int 0, .int 0, .int 0, .int 0, .int 0, .null, .null, .null, .null]) xw_f7 tyX7_ok xj_X10_16 xi_7 xz_7 rfl (fun j hj => ?_) (by decide) (by decide) dX10_init_16 (fun q2 => ?_)
  · match j, hj with
    | 0, _ => rfl
    | 1, _ => rfl
    | 2, _ => rfl
    | 3, _ => rfl
    | 4, _ => rfl
    | 5, _ => rfl
    | 6, _ => rfl
    | 7, _ => rfl
    | 8, _ => rfl
    | j + 9, hj => exact absurd hj (by omega)
  refine xk_dup B dX10_init_19 rfl ?_
  refine xk_ctorN B xm_X7_init rfl xy_7 xo_X10_18 (xk_c7 l D) (by decide) (by decide) (by decide) (Nat.le_of_ble_eq_true rfl) dX10_init_20 (fun a2 k2 e2 g2 => ?_)
  subst e2
  show J 23 [some (.ref h0)] [.ref (a2 0), .ref h0] ((h0, .inr (10, [.ref (a1 0), .null, .null, .null, .null, .null, .null, .null, .null, .null, .int 0, .int 0])) :: (xr_wl a1 k1 xk_i6 0 xk_s6 ++ xr_wl a2 k2 xk_i7 0 xk_s7)) 14 370
  refine xk_putR B (ty := tyX10) xw_f10 tyX10_ok nmX10 rfl (k := 1) (by decide) (xr_in 348 (by decide +kernel) rfl) rfl rfl rfl rfl (Nat.le_of_ble_eq_true rfl) dX10_init_23 ?_
  show J 26 [some (.ref h0)] [] ((h0, .inr (10, [.ref (a1 0), .ref (a2 0), .null, .null, .null, .null, .null, .null, .null, .null, .int 0, .int 0])) :: (xr_wl a1 k1 xk_i6 0 xk_s6 ++ xr_wl a2 k2 xk_i7 0 xk_s7)) 14 370
  refine xk_aload_n B dX10_init_26 rfl rfl ?_
  refine xk_new B (ci := 5) (fs := [.null, .null, .null, .int 0, .int 0, .int 0, .int 0, .int 0]) xw_f5 tyX5_ok xj_X10_23 xi_5 xz_5 rfl (fun j hj => ?_) (by decide) (by decide) dX10_init_27 (fun q3 => ?_)
  · match j, hj with
    | 0, _ => rfl
    | 1, _ => rfl
    | 2, _ => rfl
    | 3, _ => rfl
    | 4, _ => rfl
    | 5, _ => rfl
    | 6, _ => rfl
    | 7, _ => rfl
    | j + 8, hj => exact absurd hj (by omega)
  refine xk_dup B dX10_init_30 rfl ?_
  refine xk_ctor B xm_X5_init rfl xy_5 xo_X10_25 (xk_c5 l D) (by decide) (by decide) (by decide) (Nat.le_of_ble_eq_true rfl) dX10_init_31 (fun a3 k3 e3 g3 => ?_)
  subst e3
  show J 34 [some (.ref h0)] [.ref (a3 0), .ref h0] ((h0, .inr (10, [.ref (a1 0), .ref (a2 0), .null, .null, .null, .null, .null, .null, .null, .null, .int 0, .int 0])) :: (xr_wl a1 k1 xk_i6 0 xk_s6 ++ (xr_wl a2 k2 xk_i7 0 xk_s7 ++ xr_wl a3 k3 xk_i5 0 xk_s5))) 19 423
  refine xk_putR B (ty := tyX10) xw_f10 tyX10_ok nmX10 rfl (k := 2) (by decide) (xr_in 349 (by decide +kernel) rfl) rfl rfl rfl rfl (Nat.le_of_ble_eq_true rfl) dX10_init_34 ?_
  show J 37 [some (.ref h0)] [] ((h0, .inr (10, [.ref (a1 0), .ref (a2 0), .ref (a3 0), .null, .null, .null, .null, .null, .null, .null, .int 0, .int 0])) :: (xr_wl a1 k1 xk_i6 0 xk_s6 ++ (xr_wl a2 k2 xk_i7 0 xk_s7 ++ xr_wl a3 k3 xk_i5 0 xk_s5))) 19 423
  refine xk_aload_n B dX10_init_37 rfl rfl ?_
  refine xk_iconst B (v := 2) dX10_init_38 (by decide) ?_
  refine xk_newq B (N := 2) xj_X10_23 (by decide) (by decide) (by decide) (by decide) (by decide) dX10_init_39 (fun q4 z4 g4 => ?_)
  show J 42 [some (.ref h0)] [.ref q4, .ref h0] ((h0, .inr (10, [.ref (a1 0), .ref (a2 0), .ref (a3 0), .null, .null, .null, .null, .null, .null, .null, .int 0, .int 0])) :: (xr_wl a1 k1 xk_i6 0 xk_s6 ++ (xr_wl a2 k2 xk_i7 0 xk_s7 ++ (xr_wl a3 k3 xk_i5 0 xk_s5 ++ [(q4, .inl (z4, 2, .inr (.inr (.inr (.inr (fun _ => none))))))])))) 20 425
  refine xk_dup B dX10_init_42 rfl ?_
  refine xk_iconst B (v := 0) dX10_init_43 (by decide) ?_
  refine xk_new B (ci := 5) (fs := [.null, .null, .null, .int 0, .int 0, .int 0, .int 0, .int 0]) xw_f5 tyX5_ok xj_X10_23 xi_5 xz_5 rfl (fun j hj => ?_) (by decide) (by decide) dX10_init_44 (fun q5 => ?_)
  · match j, hj with
    | 0, _ => rfl
    | 1, _ => rfl
    | 2, _ => rfl
    | 3, _ => rfl
    | 4, _ => rfl
    | 5, _ => rfl
    | 6, _ => rfl
    | 7, _ => rfl
    | j + 8, hj => exact absurd hj (by omega)
  refine xk_dup B dX10_init_47 rfl ?_
  refine xk_ctor B xm_X5_init rfl xy_5 xo_X10_25 (xk_c5 l D) (by decide) (by decide) (by decide) (Nat.le_of_ble_eq_true rfl) dX10_init_48 (fun a5 k5 e5 g5 => ?_)
  subst e5
  show J 51 [some (.ref h0)] [.ref (a5 0), .int 0, .ref q4, .ref q4, .ref h0] ((h0, .inr (10, [.ref (a1 0), .ref (a2 0), .ref (a3 0), .null, .null, .null, .null, .null, .null, .null, .int 0, .int 0])) :: (xr_wl a1 k1 xk_i6 0 xk_s6 ++ (xr_wl a2 k2 xk_i7 0 xk_s7 ++ (xr_wl a3 k3 xk_i5 0 xk_s5 ++ ([(q4, .inl (z4, 2, .inr (.inr (.inr (.inr (fun _ => none))))))] ++ xr_wl a5 k5 xk_i5 0 xk_s5))))) 25 478
  refine xk_astq B 20 21 5 (r := (RX5, TX5, 8)) (ws2 := (h0, .inr (10, [.ref (a1 0), .ref (a2 0), .ref (a3 0), .null, .null, .null, .null, .null, .null, .null, .int 0, .int 0])) :: (xr_wl a1 k1 xk_i6 0 xk_s6 ++ (xr_wl a2 k2 xk_i7 0 xk_s7 ++ (xr_wl a3 k3 xk_i5 0 xk_s5 ++ ([(q4, .inl (z4, 2, .inr (.inr (.inr (.inr (va_up (fun _ => none) (0 : Int32).toNatClampNeg (some (a5 0))))))))] ++ xr_wl a5 k5 xk_i5 0 xk_s5))))) g4 rfl rfl rfl (by unfold vp_in; decide) rfl dX10_init_51 ?_
  refine xk_dup B dX10_init_52 rfl ?_
  refine xk_iconst B (v := 1) dX10_init_53 (by decide) ?_
  refine xk_new B (ci := 5) (fs := [.null, .null, .null, .int 0, .int 0, .int 0, .int 0, .int 0]) xw_f5 tyX5_ok xj_X10_23 xi_5 xz_5 rfl (fun j hj => ?_) (by decide) (by decide) dX10_init_54 (fun q6 => ?_)
  · match j, hj with
    | 0, _ => rfl
    | 1, _ => rfl
    | 2, _ => rfl
    | 3, _ => rfl
    | 4, _ => rfl
    | 5, _ => rfl
    | 6, _ => rfl
    | 7, _ => rfl
    | j + 8, hj => exact absurd hj (by omega)
  refine xk_dup B dX10_init_57 rfl ?_
  refine xk_ctor B xm_X5_init rfl xy_5 xo_X10_25 (xk_c5 l D) (by decide) (by decide) (by decide) (Nat.le_of_ble_eq_true rfl) dX10_init_58 (fun a6 k6 e6 g6 => ?_)
  subst e6
  show J 61 [some (.ref h0)] [.ref (a6 0), .int 1, .ref q4, .ref q4, .ref h0] ((h0, .inr (10, [.ref (a1 0), .ref (a2 0), .ref (a3 0), .null, .null, .null, .null, .null, .null, .null, .int 0, .int 0])) :: (xr_wl a1 k1 xk_i6 0 xk_s6 ++ (xr_wl a2 k2 xk_i7 0 xk_s7 ++ (xr_wl a3 k3 xk_i5 0 xk_s5 ++ ([(q4, .inl (z4, 2, .inr (.inr (.inr (.inr (va_up (fun _ => none) (0 : Int32).toNatClampNeg (some (a5 0))))))))] ++ (xr_wl a5 k5 xk_i5 0 xk_s5 ++ xr_wl a6 k6 xk_i5 0 xk_s5)))))) 30 531
  refine xk_astq B 20 26 5 (r := (RX5, TX5, 8)) (ws2 := (h0, .inr (10, [.ref (a1 0), .ref (a2 0), .ref (a3 0), .null, .null, .null, .null, .null, .null, .null, .int 0, .int 0])) :: (xr_wl a1 k1 xk_i6 0 xk_s6 ++ (xr_wl a2 k2 xk_i7 0 xk_s7 ++ (xr_wl a3 k3 xk_i5 0 xk_s5 ++ ([(q4, .inl (z4, 2, .inr (.inr (.inr (.inr (va_up (va_up (fun _ => none) (0 : Int32).toNatClampNeg (some (a5 0))) (1 : Int32).toNatClampNeg (some (a6 0))))))))] ++ (xr_wl a5 k5 xk_i5 0 xk_s5 ++ xr_wl a6 k6 xk_i5 0 xk_s5)))))) g4 rfl rfl rfl (by unfold vp_in; decide) rfl dX10_init_61 ?_
  refine xk_putR B (ty := tyX10) xw_f10 tyX10_ok nmX10 rfl (k := 3) (by decide) (xr_in 350 (by decide +kernel) rfl) rfl rfl rfl rfl (Nat.le_of_ble_eq_true rfl) dX10_init_62 ?_
  show J 65 [some (.ref h0)] [] ((h0, .inr (10, [.ref (a1 0), .ref (a2 0), .ref (a3 0), .ref q4, .null, .null, .null, .null, .null, .null, .int 0, .int 0])) :: (xr_wl a1 k1 xk_i6 0 xk_s6 ++ (xr_wl a2 k2 xk_i7 0 xk_s7 ++ (xr_wl a3 k3 xk_i5 0 xk_s5 ++ ([(q4, .inl (z4, 2, .inr (.inr (.inr (.inr (va_up (va_up (fun _ => none) (0 : Int32).toNatClampNeg (some (a5 0))) (1 : Int32).toNatClampNeg (some (a6 0))))))))] ++ (xr_wl a5 k5 xk_i5 0 xk_s5 ++ xr_wl a6 k6 xk_i5 0 xk_s5)))))) 30 531
  refine xk_aload_n B dX10_init_65 rfl rfl ?_
  refine xk_new B (ci := 0) (fs := [.int 0, .int 0, .null, .null, .null]) xw_f0 tyX0_ok xj_X10_34 xi_0 xz_0 rfl (fun j hj => ?_) (by decide) (by decide) dX10_init_66 (fun q7 => ?_)
  · match j, hj with
    | 0, _ => rfl
    | 1, _ => rfl
    | 2, _ => rfl
    | 3, _ => rfl
    | 4, _ => rfl
    | j + 5, hj => exact absurd hj (by omega)
  refine xk_dup B dX10_init_69 rfl ?_
  refine xk_ctorN B xm_X0_init rfl xy_0 xo_X10_36 (xk_c0 l D) (by decide) (by decide) (by decide) (Nat.le_of_ble_eq_true rfl) dX10_init_70 (fun a7 k7 e7 g7 => ?_)
  subst e7
  show J 73 [some (.ref h0)] [.ref (a7 0), .ref h0] ((h0, .inr (10, [.ref (a1 0), .ref (a2 0), .ref (a3 0), .ref q4, .null, .null, .null, .null, .null, .null, .int 0, .int 0])) :: (xr_wl a1 k1 xk_i6 0 xk_s6 ++ (xr_wl a2 k2 xk_i7 0 xk_s7 ++ (xr_wl a3 k3 xk_i5 0 xk_s5 ++ ([(q4, .inl (z4, 2, .inr (.inr (.inr (.inr (va_up (va_up (fun _ => none) (0 : Int32).toNatClampNeg (some (a5 0))) (1 : Int32).toNatClampNeg (some (a6 0))))))))] ++ (xr_wl a5 k5 xk_i5 0 xk_s5 ++ (xr_wl a6 k6 xk_i5 0 xk_s5 ++ xr_wl a7 k7 xk_i0 0 xk_s0))))))) 34 1061
  refine xk_putR B (ty := tyX10) xw_f10 tyX10_ok nmX10 rfl (k := 4) (by decide) (xr_in 351 (by decide +kernel) rfl) rfl rfl rfl rfl (Nat.le_of_ble_eq_true rfl) dX10_init_73 ?_
  show J 76 [some (.ref h0)] [] ((h0, .inr (10, [.ref (a1 0), .ref (a2 0), .ref (a3 0), .ref q4, .ref (a7 0), .null, .null, .null, .null, .null, .int 0, .int 0])) :: (xr_wl a1 k1 xk_i6 0 xk_s6 ++ (xr_wl a2 k2 xk_i7 0 xk_s7 ++ (xr_wl a3 k3 xk_i5 0 xk_s5 ++ ([(q4, .inl (z4, 2, .inr (.inr (.inr (.inr (va_up (va_up (fun _ => none) (0 : Int32).toNatClampNeg (some (a5 0))) (1 : Int32).toNatClampNeg (some (a6 0))))))))] ++ (xr_wl a5 k5 xk_i5 0 xk_s5 ++ (xr_wl a6 k6 xk_i5 0 xk_s5 ++ xr_wl a7 k7 xk_i0 0 xk_s0))))))) 34 1061
  refine xk_aload_n B dX10_init_76 rfl rfl ?_
  refine xk_new B (ci := 4) (fs := [.null, .null]) xw_f4 tyX4_ok xj_X10_41 xi_4 xz_4 rfl (fun j hj => ?_) (by decide) (by decide) dX10_init_77 (fun q8 => ?_)
  · match j, hj with
    | 0, _ => rfl
    | 1, _ => rfl
    | j + 2, hj => exact absurd hj (by omega)
  refine xk_dup B dX10_init_80 rfl ?_
  refine xk_ctorN B xm_X4_init rfl xy_4 xo_X10_43 (xk_c4 l D) (by decide) (by decide) (by decide) (Nat.le_of_ble_eq_true rfl) dX10_init_81 (fun a8 k8 e8 g8 => ?_)
  subst e8
  show J 84 [some (.ref h0)] [.ref (a8 0), .ref h0] ((h0, .inr (10, [.ref (a1 0), .ref (a2 0), .ref (a3 0), .ref q4, .ref (a7 0), .null, .null, .null, .null, .null, .int 0, .int 0])) :: (xr_wl a1 k1 xk_i6 0 xk_s6 ++ (xr_wl a2 k2 xk_i7 0 xk_s7 ++ (xr_wl a3 k3 xk_i5 0 xk_s5 ++ ([(q4, .inl (z4, 2, .inr (.inr (.inr (.inr (va_up (va_up (fun _ => none) (0 : Int32).toNatClampNeg (some (a5 0))) (1 : Int32).toNatClampNeg (some (a6 0))))))))] ++ (xr_wl a5 k5 xk_i5 0 xk_s5 ++ (xr_wl a6 k6 xk_i5 0 xk_s5 ++ (xr_wl a7 k7 xk_i0 0 xk_s0 ++ xr_wl a8 k8 xk_i4 0 xk_s4)))))))) 38 1101
  refine xk_putR B (ty := tyX10) xw_f10 tyX10_ok nmX10 rfl (k := 5) (by decide) (xr_in 352 (by decide +kernel) rfl) rfl rfl rfl rfl (Nat.le_of_ble_eq_true rfl) dX10_init_84 ?_
  show J 87 [some (.ref h0)] [] ((h0, .inr (10, [.ref (a1 0), .ref (a2 0), .ref (a3 0), .ref q4, .ref (a7 0), .ref (a8 0), .null, .null, .null, .null, .int 0, .int 0])) :: (xr_wl a1 k1 xk_i6 0 xk_s6 ++ (xr_wl a2 k2 xk_i7 0 xk_s7 ++ (xr_wl a3 k3 xk_i5 0 xk_s5 ++ ([(q4, .inl (z4, 2, .inr (.inr (.inr (.inr (va_up (va_up (fun _ => none) (0 : Int32).toNatClampNeg (some (a5 0))) (1 : Int32).toNatClampNeg (some (a6 0))))))))] ++ (xr_wl a5 k5 xk_i5 0 xk_s5 ++ (xr_wl a6 k6 xk_i5 0 xk_s5 ++ (xr_wl a7 k7 xk_i0 0 xk_s0 ++ xr_wl a8 k8 xk_i4 0 xk_s4)))))))) 38 1101
  refine xk_aload_n B dX10_init_87 rfl rfl ?_
  refine xk_new B (ci := 1) (fs := [.int 0, .null]) xw_f1 tyX1_ok xj_X10_48 xi_1 xz_1 rfl (fun j hj => ?_) (by decide) (by decide) dX10_init_88 (fun q9 => ?_)
  · match j, hj with
    | 0, _ => rfl
    | 1, _ => rfl
    | j + 2, hj => exact absurd hj (by omega)
  refine xk_dup B dX10_init_91 rfl ?_
  refine xk_ctorN B xm_X1_init rfl xy_1 xo_X10_50 (xk_c1 l D) (by decide) (by decide) (by decide) (Nat.le_of_ble_eq_true rfl) dX10_init_92 (fun a9 k9 e9 g9 => ?_)
  subst e9
  show J 95 [some (.ref h0)] [.ref (a9 0), .ref h0] ((h0, .inr (10, [.ref (a1 0), .ref (a2 0), .ref (a3 0), .ref q4, .ref (a7 0), .ref (a8 0), .null, .null, .null, .null, .int 0, .int 0])) :: (xr_wl a1 k1 xk_i6 0 xk_s6 ++ (xr_wl a2 k2 xk_i7 0 xk_s7 ++ (xr_wl a3 k3 xk_i5 0 xk_s5 ++ ([(q4, .inl (z4, 2, .inr (.inr (.inr (.inr (va_up (va_up (fun _ => none) (0 : Int32).toNatClampNeg (some (a5 0))) (1 : Int32).toNatClampNeg (some (a6 0))))))))] ++ (xr_wl a5 k5 xk_i5 0 xk_s5 ++ (xr_wl a6 k6 xk_i5 0 xk_s5 ++ (xr_wl a7 k7 xk_i0 0 xk_s0 ++ (xr_wl a8 k8 xk_i4 0 xk_s4 ++ xr_wl a9 k9 xk_i1 0 xk_s1))))))))) 40 1111
  refine xk_putR B (ty := tyX10) xw_f10 tyX10_ok nmX10 rfl (k := 6) (by decide) (xr_in 353 (by decide +kernel) rfl) rfl rfl rfl rfl (Nat.le_of_ble_eq_true rfl) dX10_init_95 ?_
  show J 98 [some (.ref h0)] [] ((h0, .inr (10, [.ref (a1 0), .ref (a2 0), .ref (a3 0), .ref q4, .ref (a7 0), .ref (a8 0), .ref (a9 0), .null, .null, .null, .int 0, .int 0])) :: (xr_wl a1 k1 xk_i6 0 xk_s6 ++ (xr_wl a2 k2 xk_i7 0 xk_s7 ++ (xr_wl a3 k3 xk_i5 0 xk_s5 ++ ([(q4, .inl (z4, 2, .inr (.inr (.inr (.inr (va_up (va_up (fun _ => none) (0 : Int32).toNatClampNeg (some (a5 0))) (1 : Int32).toNatClampNeg (some (a6 0))))))))] ++ (xr_wl a5 k5 xk_i5 0 xk_s5 ++ (xr_wl a6 k6 xk_i5 0 xk_s5 ++ (xr_wl a7 k7 xk_i0 0 xk_s0 ++ (xr_wl a8 k8 xk_i4 0 xk_s4 ++ xr_wl a9 k9 xk_i1 0 xk_s1))))))))) 40 1111
  refine xk_aload_n B dX10_init_98 rfl rfl ?_
  refine xk_new B (ci := 3) (fs := [.null]) xw_f3 tyX3_ok xj_X10_55 xi_3 xz_3 rfl (fun j hj => ?_) (by decide) (by decide) dX10_init_99 (fun q10 => ?_)
  · match j, hj with
    | 0, _ => rfl
    | j + 1, hj => exact absurd hj (by omega)
  refine xk_dup B dX10_init_102 rfl ?_
  refine xk_ctorN B xm_X3_init rfl xy_3 xo_X10_57 (xk_c3 l D) (by decide) (by decide) (by decide) (Nat.le_of_ble_eq_true rfl) dX10_init_103 (fun a10 k10 e10 g10 => ?_)
  subst e10
  show J 106 [some (.ref h0)] [.ref (a10 0), .ref h0] ((h0, .inr (10, [.ref (a1 0), .ref (a2 0), .ref (a3 0), .ref q4, .ref (a7 0), .ref (a8 0), .ref (a9 0), .null, .null, .null, .int 0, .int 0])) :: (xr_wl a1 k1 xk_i6 0 xk_s6 ++ (xr_wl a2 k2 xk_i7 0 xk_s7 ++ (xr_wl a3 k3 xk_i5 0 xk_s5 ++ ([(q4, .inl (z4, 2, .inr (.inr (.inr (.inr (va_up (va_up (fun _ => none) (0 : Int32).toNatClampNeg (some (a5 0))) (1 : Int32).toNatClampNeg (some (a6 0))))))))] ++ (xr_wl a5 k5 xk_i5 0 xk_s5 ++ (xr_wl a6 k6 xk_i5 0 xk_s5 ++ (xr_wl a7 k7 xk_i0 0 xk_s0 ++ (xr_wl a8 k8 xk_i4 0 xk_s4 ++ (xr_wl a9 k9 xk_i1 0 xk_s1 ++ xr_wl a10 k10 xk_i3 0 xk_s3)))))))))) 42 1176
  refine xk_putR B (ty := tyX10) xw_f10 tyX10_ok nmX10 rfl (k := 7) (by decide) (xr_in 354 (by decide +kernel) rfl) rfl rfl rfl rfl (Nat.le_of_ble_eq_true rfl) dX10_init_106 ?_
  show J 109 [some (.ref h0)] [] ((h0, .inr (10, [.ref (a1 0), .ref (a2 0), .ref (a3 0), .ref q4, .ref (a7 0), .ref (a8 0), .ref (a9 0), .ref (a10 0), .null, .null, .int 0, .int 0])) :: (xr_wl a1 k1 xk_i6 0 xk_s6 ++ (xr_wl a2 k2 xk_i7 0 xk_s7 ++ (xr_wl a3 k3 xk_i5 0 xk_s5 ++ ([(q4, .inl (z4, 2, .inr (.inr (.inr (.inr (va_up (va_up (fun _ => none) (0 : Int32).toNatClampNeg (some (a5 0))) (1 : Int32).toNatClampNeg (some (a6 0))))))))] ++ (xr_wl a5 k5 xk_i5 0 xk_s5 ++ (xr_wl a6 k6 xk_i5 0 xk_s5 ++ (xr_wl a7 k7 xk_i0 0 xk_s0 ++ (xr_wl a8 k8 xk_i4 0 xk_s4 ++ (xr_wl a9 k9 xk_i1 0 xk_s1 ++ xr_wl a10 k10 xk_i3 0 xk_s3)))))))))) 42 1176
  refine xk_aload_n B dX10_init_109 rfl rfl ?_
  refine xk_new B (ci := 8) (fs := [.null]) xw_f8 tyX8_ok xj_X10_62 xi_8 xz_8 rfl (fun j hj => ?_) (by decide) (by decide) dX10_init_110 (fun q11 => ?_)
  · match j, hj with
    | 0, _ => rfl
    | j + 1, hj => exact absurd hj (by omega)
  refine xk_dup B dX10_init_113 rfl ?_
  refine xk_ctorN B xm_X8_init rfl xy_8 xo_X10_64 (xk_c8 l D) (by decide) (by decide) (by decide) (Nat.le_of_ble_eq_true rfl) dX10_init_114 (fun a11 k11 e11 g11 => ?_)
  subst e11
  show J 117 [some (.ref h0)] [.ref (a11 0), .ref h0] ((h0, .inr (10, [.ref (a1 0), .ref (a2 0), .ref (a3 0), .ref q4, .ref (a7 0), .ref (a8 0), .ref (a9 0), .ref (a10 0), .null, .null, .int 0, .int 0])) :: (xr_wl a1 k1 xk_i6 0 xk_s6 ++ (xr_wl a2 k2 xk_i7 0 xk_s7 ++ (xr_wl a3 k3 xk_i5 0 xk_s5 ++ ([(q4, .inl (z4, 2, .inr (.inr (.inr (.inr (va_up (va_up (fun _ => none) (0 : Int32).toNatClampNeg (some (a5 0))) (1 : Int32).toNatClampNeg (some (a6 0))))))))] ++ (xr_wl a5 k5 xk_i5 0 xk_s5 ++ (xr_wl a6 k6 xk_i5 0 xk_s5 ++ (xr_wl a7 k7 xk_i0 0 xk_s0 ++ (xr_wl a8 k8 xk_i4 0 xk_s4 ++ (xr_wl a9 k9 xk_i1 0 xk_s1 ++ (xr_wl a10 k10 xk_i3 0 xk_s3 ++ xr_wl a11 k11 xk_i8 0 xk_s8))))))))))) 44 1185
  refine xk_putR B (ty := tyX10) xw_f10 tyX10_ok nmX10 rfl (k := 8) (by decide) (xr_in 355 (by decide +kernel) rfl) rfl rfl rfl rfl (Nat.le_of_ble_eq_true rfl) dX10_init_117 ?_
  show J 120 [some (.ref h0)] [] ((h0, .inr (10, [.ref (a1 0), .ref (a2 0), .ref (a3 0), .ref q4, .ref (a7 0), .ref (a8 0), .ref (a9 0), .ref (a10 0), .ref (a11 0), .null, .int 0, .int 0])) :: (xr_wl a1 k1 xk_i6 0 xk_s6 ++ (xr_wl a2 k2 xk_i7 0 xk_s7 ++ (xr_wl a3 k3 xk_i5 0 xk_s5 ++ ([(q4, .inl (z4, 2, .inr (.inr (.inr (.inr (va_up (va_up (fun _ => none) (0 : Int32).toNatClampNeg (some (a5 0))) (1 : Int32).toNatClampNeg (some (a6 0))))))))] ++ (xr_wl a5 k5 xk_i5 0 xk_s5 ++ (xr_wl a6 k6 xk_i5 0 xk_s5 ++ (xr_wl a7 k7 xk_i0 0 xk_s0 ++ (xr_wl a8 k8 xk_i4 0 xk_s4 ++ (xr_wl a9 k9 xk_i1 0 xk_s1 ++ (xr_wl a10 k10 xk_i3 0 xk_s3 ++ xr_wl a11 k11 xk_i8 0 xk_s8))))))))))) 44 1185
  refine xk_aload_n B dX10_init_120 rfl rfl ?_
  refine xk_new B (ci := 2) (fs := [.int 0, .null, .null, .null]) xw_f2 tyX2_ok xj_X10_69 xi_2 xz_2 rfl (fun j hj => ?_) (by decide) (by decide) dX10_init_121 (fun q12 => ?_)
  · match j, hj with
    | 0, _ => rfl
    | 1, _ => rfl
    | 2, _ => rfl
    | 3, _ => rfl
    | j + 4, hj => exact absurd hj (by omega)
  refine xk_dup B dX10_init_124 rfl ?_
  refine xk_ctorN B xm_X2_init rfl xy_2 xo_X10_71 (xk_c2 l D) (by decide) (by decide) (by decide) (Nat.le_of_ble_eq_true rfl) dX10_init_125 (fun a12 k12 e12 g12 => ?_)
  subst e12
  show J 128 [some (.ref h0)] [.ref (a12 0), .ref h0] ((h0, .inr (10, [.ref (a1 0), .ref (a2 0), .ref (a3 0), .ref q4, .ref (a7 0), .ref (a8 0), .ref (a9 0), .ref (a10 0), .ref (a11 0), .null, .int 0, .int 0])) :: (xr_wl a1 k1 xk_i6 0 xk_s6 ++ (xr_wl a2 k2 xk_i7 0 xk_s7 ++ (xr_wl a3 k3 xk_i5 0 xk_s5 ++ ([(q4, .inl (z4, 2, .inr (.inr (.inr (.inr (va_up (va_up (fun _ => none) (0 : Int32).toNatClampNeg (some (a5 0))) (1 : Int32).toNatClampNeg (some (a6 0))))))))] ++ (xr_wl a5 k5 xk_i5 0 xk_s5 ++ (xr_wl a6 k6 xk_i5 0 xk_s5 ++ (xr_wl a7 k7 xk_i0 0 xk_s0 ++ (xr_wl a8 k8 xk_i4 0 xk_s4 ++ (xr_wl a9 k9 xk_i1 0 xk_s1 ++ (xr_wl a10 k10 xk_i3 0 xk_s3 ++ (xr_wl a11 k11 xk_i8 0 xk_s8 ++ xr_wl a12 k12 xk_i2 0 xk_s2)))))))))))) 48 1234
  refine xk_putR B (ty := tyX10) xw_f10 tyX10_ok nmX10 rfl (k := 9) (by decide) (xr_in 356 (by decide +kernel) rfl) rfl rfl rfl rfl (Nat.le_of_ble_eq_true rfl) dX10_init_128 ?_
  show J 131 [some (.ref h0)] [] ((h0, .inr (10, [.ref (a1 0), .ref (a2 0), .ref (a3 0), .ref q4, .ref (a7 0), .ref (a8 0), .ref (a9 0), .ref (a10 0), .ref (a11 0), .ref (a12 0), .int 0, .int 0])) :: (xr_wl a1 k1 xk_i6 0 xk_s6 ++ (xr_wl a2 k2 xk_i7 0 xk_s7 ++ (xr_wl a3 k3 xk_i5 0 xk_s5 ++ ([(q4, .inl (z4, 2, .inr (.inr (.inr (.inr (va_up (va_up (fun _ => none) (0 : Int32).toNatClampNeg (some (a5 0))) (1 : Int32).toNatClampNeg (some (a6 0))))))))] ++ (xr_wl a5 k5 xk_i5 0 xk_s5 ++ (xr_wl a6 k6 xk_i5 0 xk_s5 ++ (xr_wl a7 k7 xk_i0 0 xk_s0 ++ (xr_wl a8 k8 xk_i4 0 xk_s4 ++ (xr_wl a9 k9 xk_i1 0 xk_s1 ++ (xr_wl a10 k10 xk_i3 0 xk_s3 ++ (xr_wl a11 k11 xk_i8 0 xk_s8 ++ xr_wl a12 k12 xk_i2 0 xk_s2)))))))))))) 48 1234
  refine xk_aload_n B dX10_init_131 rfl rfl ?_
  refine xk_iconst B (v := 0) dX10_init_132 (by decide) ?_
  refine xk_putI B (ty := tyX10) xw_f10 tyX10_ok nmX10 rfl (k := 10) (by decide) (xr_in 357 (by decide +kernel) rfl) rfl rfl rfl (Nat.le_of_ble_eq_true rfl) dX10_init_133 ?_
  show J 136 [some (.ref h0)] [] ((h0, .inr (10, [.ref (a1 0), .ref (a2 0), .ref (a3 0), .ref q4, .ref (a7 0), .ref (a8 0), .ref (a9 0), .ref (a10 0), .ref (a11 0), .ref (a12 0), .int 0, .int 0])) :: (xr_wl a1 k1 xk_i6 0 xk_s6 ++ (xr_wl a2 k2 xk_i7 0 xk_s7 ++ (xr_wl a3 k3 xk_i5 0 xk_s5 ++ ([(q4, .inl (z4, 2, .inr (.inr (.inr (.inr (va_up (va_up (fun _ => none) (0 : Int32).toNatClampNeg (some (a5 0))) (1 : Int32).toNatClampNeg (some (a6 0))))))))] ++ (xr_wl a5 k5 xk_i5 0 xk_s5 ++ (xr_wl a6 k6 xk_i5 0 xk_s5 ++ (xr_wl a7 k7 xk_i0 0 xk_s0 ++ (xr_wl a8 k8 xk_i4 0 xk_s4 ++ (xr_wl a9 k9 xk_i1 0 xk_s1 ++ (xr_wl a10 k10 xk_i3 0 xk_s3 ++ (xr_wl a11 k11 xk_i8 0 xk_s8 ++ xr_wl a12 k12 xk_i2 0 xk_s2)))))))))))) 48 1234
  refine xk_aload_n B dX10_init_136 rfl rfl ?_
  refine xk_iconst B (v := (-1)) dX10_init_137 (by decide) ?_
  refine xk_putI B (ty := tyX10) xw_f10 tyX10_ok nmX10 rfl (k := 11) (by decide) (xr_in 358 (by decide +kernel) rfl) rfl rfl rfl (Nat.le_of_ble_eq_true rfl) dX10_init_138 ?_
  show J 141 [some (.ref h0)] [] ((h0, .inr (10, [.ref (a1 0), .ref (a2 0), .ref (a3 0), .ref q4, .ref (a7 0), .ref (a8 0), .ref (a9 0), .ref (a10 0), .ref (a11 0), .ref (a12 0), .int 0, .int (-1)])) :: (xr_wl a1 k1 xk_i6 0 xk_s6 ++ (xr_wl a2 k2 xk_i7 0 xk_s7 ++ (xr_wl a3 k3 xk_i5 0 xk_s5 ++ ([(q4, .inl (z4, 2, .inr (.inr (.inr (.inr (va_up (va_up (fun _ => none) (0 : Int32).toNatClampNeg (some (a5 0))) (1 : Int32).toNatClampNeg (some (a6 0))))))))] ++ (xr_wl a5 k5 xk_i5 0 xk_s5 ++ (xr_wl a6 k6 xk_i5 0 xk_s5 ++ (xr_wl a7 k7 xk_i0 0 xk_s0 ++ (xr_wl a8 k8 xk_i4 0 xk_s4 ++ (xr_wl a9 k9 xk_i1 0 xk_s1 ++ (xr_wl a10 k10 xk_i3 0 xk_s3 ++ (xr_wl a11 k11 xk_i8 0 xk_s8 ++ xr_wl a12 k12 xk_i2 0 xk_s2)))))))))))) 48 1234
  refine xk_ext B 20 (g := fun j => some ((fun c => ([h0, a1 0, a1 1, a1 2, a1 3, a1 4, a1 5, a1 6, a1 7, a2 0, a2 1, a2 2, a2 3, a2 4, a2 5, a3 0, a3 1, a3 2, a3 3, a3 4, q4, a5 0, a5 1, a5 2, a5 3, a5 4, a6 0, a6 1, a6 2, a6 3, a6 4, a7 0, a7 1, a7 2, a7 3, a8 0, a8 1, a8 2, a8 3, a9 0, a9 1, a10 0, a10 1, a11 0, a11 1, a12 0, a12 1, a12 2, a12 3] : List Nat).getD c 0) (xr_img j))) (ws2 := (h0, .inr (10, [.ref (a1 0), .ref (a2 0), .ref (a3 0), .ref q4, .ref (a7 0), .ref (a8 0), .ref (a9 0), .ref (a10 0), .ref (a11 0), .ref (a12 0), .int 0, .int (-1)])) :: (xr_wl a1 k1 xk_i6 0 xk_s6 ++ (xr_wl a2 k2 xk_i7 0 xk_s7 ++ (xr_wl a3 k3 xk_i5 0 xk_s5 ++ ([(q4, .inl (z4, 2, .inr (.inr (.inr (.inr (fun j => some ((fun c => ([h0, a1 0, a1 1, a1 2, a1 3, a1 4, a1 5, a1 6, a1 7, a2 0, a2 1, a2 2, a2 3, a2 4, a2 5, a3 0, a3 1, a3 2, a3 3, a3 4, q4, a5 0, a5 1, a5 2, a5 3, a5 4, a6 0, a6 1, a6 2, a6 3, a6 4, a7 0, a7 1, a7 2, a7 3, a8 0, a8 1, a8 2, a8 3, a9 0, a9 1, a10 0, a10 1, a11 0, a11 1, a12 0, a12 1, a12 2, a12 3] : List Nat).getD c 0) (xr_img j))))))))] ++ (xr_wl a5 k5 xk_i5 0 xk_s5 ++ (xr_wl a6 k6 xk_i5 0 xk_s5 ++ (xr_wl a7 k7 xk_i0 0 xk_s0 ++ (xr_wl a8 k8 xk_i4 0 xk_s4 ++ (xr_wl a9 k9 xk_i1 0 xk_s1 ++ (xr_wl a10 k10 xk_i3 0 xk_s3 ++ (xr_wl a11 k11 xk_i8 0 xk_s8 ++ xr_wl a12 k12 xk_i2 0 xk_s2)))))))))))) rfl (fun j hj => ?_) rfl ?_
  · match j, hj with
    | 0, _ => rfl
    | 1, _ => rfl
    | j + 2, hj => exact absurd hj (by omega)
  refine RR _ _ _ (fun c => ([h0, a1 0, a1 1, a1 2, a1 3, a1 4, a1 5, a1 6, a1 7, a2 0, a2 1, a2 2, a2 3, a2 4, a2 5, a3 0, a3 1, a3 2, a3 3, a3 4, q4, a5 0, a5 1, a5 2, a5 3, a5 4, a6 0, a6 1, a6 2, a6 3, a6 4, a7 0, a7 1, a7 2, a7 3, a8 0, a8 1, a8 2, a8 3, a9 0, a9 1, a10 0, a10 1, a11 0, a11 1, a12 0, a12 1, a12 2, a12 3] : List Nat).getD c 0) (fun c => ([k1 1, k1 1, k1 1, k1 1, k1 1, k1 4, k1 5, k1 6, k1 7, k1 1, k1 1, k2 2, k2 3, k2 4, k2 5, k1 1, k1 1, k3 2, k3 3, k3 4, z4, k1 1, k1 1, k5 2, k5 3, k5 4, k1 1, k1 1, k6 2, k6 3, k6 4, k1 1, k7 1, k7 2, k7 3, k1 1, k1 1, k8 2, k8 3, k1 1, k9 1, k1 1, k10 1, k1 1, k11 1, k1 1, k12 1, k12 2, k12 3] : List ClassId).getD c 0) [0, 1, 2, 3, 4, 5, 6, 7, 8, 9, 10, 11, 12, 13, 14, 15, 16, 17, 18, 19, 20, 21, 22, 23, 24, 25, 26, 27, 28, 29, 30, 31, 32, 33, 34, 35, 36, 37, 38, 39, 40, 41, 42, 43, 44, 45, 46, 47, 48] dX10_init_141 rfl (by decide) rfl (fun c k n hc => ?_)
  match c, hc with
  | 0, hc => cases hc
  | 1, hc => cases hc
  | 2, hc => cases hc; exact g1 1 _ _ rfl
  | 3, hc => cases hc
  | 4, hc => cases hc
  | 5, hc => cases hc; exact g1 4 _ _ rfl
  | 6, hc => cases hc; exact g1 5 _ _ rfl
  | 7, hc => cases hc; exact g1 6 _ _ rfl
  | 8, hc => cases hc; exact g1 7 _ _ rfl
  | 9, hc => cases hc
  | 10, hc => cases hc
  | 11, hc => cases hc; exact g2 2 _ _ rfl
  | 12, hc => cases hc; exact g2 3 _ _ rfl
  | 13, hc => cases hc; exact g2 4 _ _ rfl
  | 14, hc => cases hc; exact g2 5 _ _ rfl
  | 15, hc => cases hc
  | 16, hc => cases hc
  | 17, hc => cases hc; exact g3 2 _ _ rfl
  | 18, hc => cases hc; exact g3 3 _ _ rfl
  | 19, hc => cases hc; exact g3 4 _ _ rfl
  | 20, hc => cases hc; exact g4
  | 21, hc => cases hc
  | 22, hc => cases hc
  | 23, hc => cases hc; exact g5 2 _ _ rfl
  | 24, hc => cases hc; exact g5 3 _ _ rfl
  | 25, hc => cases hc; exact g5 4 _ _ rfl
  | 26, hc => cases hc
  | 27, hc => cases hc
  | 28, hc => cases hc; exact g6 2 _ _ rfl
  | 29, hc => cases hc; exact g6 3 _ _ rfl
  | 30, hc => cases hc; exact g6 4 _ _ rfl
  | 31, hc => cases hc
  | 32, hc => cases hc; exact g7 1 _ _ rfl
  | 33, hc => cases hc; exact g7 2 _ _ rfl
  | 34, hc => cases hc; exact g7 3 _ _ rfl
  | 35, hc => cases hc
  | 36, hc => cases hc
  | 37, hc => cases hc; exact g8 2 _ _ rfl
  | 38, hc => cases hc; exact g8 3 _ _ rfl
  | 39, hc => cases hc
  | 40, hc => cases hc; exact g9 1 _ _ rfl
  | 41, hc => cases hc
  | 42, hc => cases hc; exact g10 1 _ _ rfl
  | 43, hc => cases hc
  | 44, hc => cases hc; exact g11 1 _ _ rfl
  | 45, hc => cases hc
  | 46, hc => cases hc; exact g12 1 _ _ rfl
  | 47, hc => cases hc; exact g12 2 _ _ rfl
  | 48, hc => cases hc; exact g12 3 _ _ rfl
  | c + 49, hc => simp [xk_s10] at hc
