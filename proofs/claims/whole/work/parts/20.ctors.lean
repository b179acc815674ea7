theorem xk_w1 : Cond.instanceMethod objectInit ∈ xr_tb := xr_in 82 (by decide +kernel) rfl
theorem xk_w2 : Cond.code objectInit ⟨#[0xb1]⟩ 1 none ∈ xr_tb := xr_in 83 (by decide +kernel) rfl
theorem xo_L_9 : Cond.methodLink RL 9 yX10_init ∈ xr_tb := xr_in 78 (by decide +kernel) rfl
theorem xo_X10_3 : Cond.methodLink RX10 3 objectInit ∈ xr_tb := xr_in 81 (by decide +kernel) rfl
theorem xo_X6_3 : Cond.methodLink RX6 3 objectInit ∈ xr_tb := xr_in 89 (by decide +kernel) rfl
theorem xo_X7_3 : Cond.methodLink RX7 3 objectInit ∈ xr_tb := xr_in 95 (by decide +kernel) rfl
theorem xo_X9_3 : Cond.methodLink RX9 3 objectInit ∈ xr_tb := xr_in 101 (by decide +kernel) rfl
theorem xo_X10_25 : Cond.methodLink RX10 25 yX5_init ∈ xr_tb := xr_in 202 (by decide +kernel) rfl
theorem xo_X5_3 : Cond.methodLink RX5 3 objectInit ∈ xr_tb := xr_in 205 (by decide +kernel) rfl
theorem xo_X0_3 : Cond.methodLink RX0 3 objectInit ∈ xr_tb := xr_in 256 (by decide +kernel) rfl
theorem xo_X4_3 : Cond.methodLink RX4 3 objectInit ∈ xr_tb := xr_in 282 (by decide +kernel) rfl
theorem xo_X1_3 : Cond.methodLink RX1 3 objectInit ∈ xr_tb := xr_in 298 (by decide +kernel) rfl
theorem xo_X3_3 : Cond.methodLink RX3 3 objectInit ∈ xr_tb := xr_in 312 (by decide +kernel) rfl
theorem xo_X8_3 : Cond.methodLink RX8 3 objectInit ∈ xr_tb := xr_in 322 (by decide +kernel) rfl
theorem xo_X2_3 : Cond.methodLink RX2 3 objectInit ∈ xr_tb := xr_in 332 (by decide +kernel) rfl
theorem xo_L_12 : Cond.methodLink RL 12 yX11_init ∈ xr_tb := xr_in 835 (by decide +kernel) rfl
theorem xo_X11_1 : Cond.methodLink RX11 1 objectInit ∈ xr_tb := xr_in 838 (by decide +kernel) rfl
theorem xo_X10_11 : Cond.methodLinkNest RX10 11 yX6_init "SleptBread" ∈ lw_tbl := List.mem_of_getElem? (i := 86) (by decide +kernel)
theorem xo_X6_17 : Cond.methodLinkNest RX6 17 yX7_init "SleptBread" ∈ lw_tbl := List.mem_of_getElem? (i := 92) (by decide +kernel)
theorem xo_X7_11 : Cond.methodLinkNest RX7 11 yX9_init "SleptBread" ∈ lw_tbl := List.mem_of_getElem? (i := 98) (by decide +kernel)
theorem xo_X10_18 : Cond.methodLinkNest RX10 18 yX7_init "SleptBread" ∈ lw_tbl := List.mem_of_getElem? (i := 199) (by decide +kernel)
theorem xo_X5_11 : Cond.methodLinkNest RX5 11 yX9_init "SleptBread" ∈ lw_tbl := List.mem_of_getElem? (i := 207) (by decide +kernel)
theorem xo_X10_36 : Cond.methodLinkNest RX10 36 yX0_init "SleptBread" ∈ lw_tbl := List.mem_of_getElem? (i := 253) (by decide +kernel)
theorem xo_X10_43 : Cond.methodLinkNest RX10 43 yX4_init "SleptBread" ∈ lw_tbl := List.mem_of_getElem? (i := 279) (by decide +kernel)
theorem xo_X4_11 : Cond.methodLinkNest RX4 11 yX9_init "SleptBread" ∈ lw_tbl := List.mem_of_getElem? (i := 284) (by decide +kernel)
theorem xo_X10_50 : Cond.methodLinkNest RX10 50 yX1_init "SleptBread" ∈ lw_tbl := List.mem_of_getElem? (i := 295) (by decide +kernel)
theorem xo_X10_57 : Cond.methodLinkNest RX10 57 yX3_init "SleptBread" ∈ lw_tbl := List.mem_of_getElem? (i := 309) (by decide +kernel)
theorem xo_X10_64 : Cond.methodLinkNest RX10 64 yX8_init "SleptBread" ∈ lw_tbl := List.mem_of_getElem? (i := 319) (by decide +kernel)
theorem xo_X10_71 : Cond.methodLinkNest RX10 71 yX2_init "SleptBread" ∈ lw_tbl := List.mem_of_getElem? (i := 329) (by decide +kernel)
theorem xj_L_7 : Cond.classLink RL 7 RX10 ∈ xr_tb := xr_in 76 (by decide +kernel) rfl
theorem xj_X10_9 : Cond.classLink RX10 9 RX6 ∈ xr_tb := xr_in 84 (by decide +kernel) rfl
theorem xj_X6_15 : Cond.classLink RX6 15 RX7 ∈ xr_tb := xr_in 90 (by decide +kernel) rfl
theorem xj_X7_9 : Cond.classLink RX7 9 RX9 ∈ xr_tb := xr_in 96 (by decide +kernel) rfl
theorem xj_X10_16 : Cond.classLink RX10 16 RX7 ∈ xr_tb := xr_in 198 (by decide +kernel) rfl
theorem xj_X10_23 : Cond.classLink RX10 23 RX5 ∈ xr_tb := xr_in 200 (by decide +kernel) rfl
theorem xj_X5_9 : Cond.classLink RX5 9 RX9 ∈ xr_tb := xr_in 206 (by decide +kernel) rfl
theorem xj_X10_34 : Cond.classLink RX10 34 RX0 ∈ xr_tb := xr_in 251 (by decide +kernel) rfl
theorem xj_X10_41 : Cond.classLink RX10 41 RX4 ∈ xr_tb := xr_in 277 (by decide +kernel) rfl
theorem xj_X4_9 : Cond.classLink RX4 9 RX9 ∈ xr_tb := xr_in 283 (by decide +kernel) rfl
theorem xj_X10_48 : Cond.classLink RX10 48 RX1 ∈ xr_tb := xr_in 293 (by decide +kernel) rfl
theorem xj_X10_55 : Cond.classLink RX10 55 RX3 ∈ xr_tb := xr_in 307 (by decide +kernel) rfl
theorem xj_X10_62 : Cond.classLink RX10 62 RX8 ∈ xr_tb := xr_in 317 (by decide +kernel) rfl
theorem xj_X10_69 : Cond.classLink RX10 69 RX2 ∈ xr_tb := xr_in 327 (by decide +kernel) rfl
theorem xj_L_10 : Cond.classLink RL 10 RX11 ∈ xr_tb := xr_in 833 (by decide +kernel) rfl
theorem xi_0 : Cond.instantiable RX0 5 ∈ xr_tb := xr_in 252 (by decide +kernel) rfl
theorem xz_0 : Cond.initialized RX0 ∈ xr_tb := xr_in 66 (by decide +kernel) rfl
theorem xy_0 : Cond.instanceMethod yX0_init ∈ xr_tb := xr_in 254 (by decide +kernel) rfl
theorem xi_1 : Cond.instantiable RX1 2 ∈ xr_tb := xr_in 294 (by decide +kernel) rfl
theorem xz_1 : Cond.initialized RX1 ∈ xr_tb := xr_in 68 (by decide +kernel) rfl
theorem xy_1 : Cond.instanceMethod yX1_init ∈ xr_tb := xr_in 296 (by decide +kernel) rfl
theorem xi_2 : Cond.instantiable RX2 4 ∈ xr_tb := xr_in 328 (by decide +kernel) rfl
theorem xz_2 : Cond.initialized RX2 ∈ xr_tb := xr_in 71 (by decide +kernel) rfl
theorem xy_2 : Cond.instanceMethod yX2_init ∈ xr_tb := xr_in 330 (by decide +kernel) rfl
theorem xi_3 : Cond.instantiable RX3 1 ∈ xr_tb := xr_in 308 (by decide +kernel) rfl
theorem xz_3 : Cond.initialized RX3 ∈ xr_tb := xr_in 69 (by decide +kernel) rfl
theorem xy_3 : Cond.instanceMethod yX3_init ∈ xr_tb := xr_in 310 (by decide +kernel) rfl
theorem xi_4 : Cond.instantiable RX4 2 ∈ xr_tb := xr_in 278 (by decide +kernel) rfl
theorem xz_4 : Cond.initialized RX4 ∈ xr_tb := xr_in 67 (by decide +kernel) rfl
theorem xy_4 : Cond.instanceMethod yX4_init ∈ xr_tb := xr_in 280 (by decide +kernel) rfl
theorem xi_5 : Cond.instantiable RX5 8 ∈ xr_tb := xr_in 201 (by decide +kernel) rfl
theorem xz_5 : Cond.initialized RX5 ∈ xr_tb := xr_in 64 (by decide +kernel) rfl
theorem xy_5 : Cond.instanceMethod yX5_init ∈ xr_tb := xr_in 203 (by decide +kernel) rfl
theorem xi_6 : Cond.instantiable RX6 8 ∈ xr_tb := xr_in 85 (by decide +kernel) rfl
theorem xz_6 : Cond.initialized RX6 ∈ xr_tb := xr_in 61 (by decide +kernel) rfl
theorem xy_6 : Cond.instanceMethod yX6_init ∈ xr_tb := xr_in 87 (by decide +kernel) rfl
theorem xi_7 : Cond.instantiable RX7 9 ∈ xr_tb := xr_in 91 (by decide +kernel) rfl
theorem xz_7 : Cond.initialized RX7 ∈ xr_tb := xr_in 62 (by decide +kernel) rfl
theorem xy_7 : Cond.instanceMethod yX7_init ∈ xr_tb := xr_in 93 (by decide +kernel) rfl
theorem xi_8 : Cond.instantiable RX8 1 ∈ xr_tb := xr_in 318 (by decide +kernel) rfl
theorem xz_8 : Cond.initialized RX8 ∈ xr_tb := xr_in 70 (by decide +kernel) rfl
theorem xy_8 : Cond.instanceMethod yX8_init ∈ xr_tb := xr_in 320 (by decide +kernel) rfl
theorem xi_9 : Cond.instantiable RX9 1 ∈ xr_tb := xr_in 97 (by decide +kernel) rfl
theorem xz_9 : Cond.initialized RX9 ∈ xr_tb := xr_in 63 (by decide +kernel) rfl
theorem xy_9 : Cond.instanceMethod yX9_init ∈ xr_tb := xr_in 99 (by decide +kernel) rfl
theorem xi_10 : Cond.instantiable RX10 12 ∈ xr_tb := xr_in 77 (by decide +kernel) rfl
theorem xz_10 : Cond.initialized RX10 ∈ xr_tb := xr_in 60 (by decide +kernel) rfl
theorem xy_10 : Cond.instanceMethod yX10_init ∈ xr_tb := xr_in 79 (by decide +kernel) rfl
theorem xi_11 : Cond.instantiable RX11 37 ∈ xr_tb := xr_in 834 (by decide +kernel) rfl
theorem xz_11 : Cond.initialized RX11 ∈ xr_tb := xr_in 72 (by decide +kernel) rfl
theorem xy_11 : Cond.instanceMethod yX11_init ∈ xr_tb := xr_in 836 (by decide +kernel) rfl
theorem xt_int : Cond.arrayClass .int ∈ xr_tb := xr_in 106 (by decide +kernel) rfl
theorem xt_boolean : Cond.arrayClass .boolean ∈ xr_tb := xr_in 955 (by decide +kernel) rfl
theorem xt_long : Cond.arrayClass .long ∈ xr_tb := xr_in 956 (by decide +kernel) rfl
/-! CONSTRUCTORS: the world grows; J says it of a list of cells -/
def xk_isN : Cond → Bool
  | .methodLinkNest .. => true
  | _ => false
def xk_N (U : State) : Prop := (∀ w ∈ lw_tbl, xk_isN w = true → w.before #[] U = true) ∧ va_AO "SleptBread$State" U
theorem xk_N.warm {s U : State} (hW : s.WarmedH U.vm) (h : xk_N s) : xk_N U := by
  refine ⟨fun w hw hn => ?_, va_AO.moved hW.alike h.2⟩
  have h1 := h.1 w hw hn
  cases w <;> first | (simp [xk_isN] at hn; done) | exact va_Nw.warmM hW h1
theorem xk_N.same {s U : State} (hv : s.vm = U.vm) (h : xk_N s) : xk_N U := by
  refine ⟨fun w hw hn => ?_, va_AO.moved (hv ▸ Vm.Alike.refl s.vm) h.2⟩
  have h1 := h.1 w hw hn
  cases w <;> first | (simp [xk_isN] at hn; done) | exact va_Nw.same rfl hv h1
abbrev xk_Ty : Type := Nat → List (Option Value) → List Value → va_W → Nat → Nat → Prop
def xk_B (l : Launch) (D : va_G) (cc : ByteArray) (own : String) (nL fr lo mcR msR : Nat) (ini : Bool) (KA : ClassId → FieldType → Prop) (J : xk_Ty) : Prop :=
  ∃ (p : Program) (e : Env) (R : Room) (s : State) (m : MethodId) (args : Array Value) (below : List Frame) (meth : Method) (c : Code) (A : Nat → Prop) (Q : State → Prop),
    p.tables.exec = Jvm.exec ∧ c.code = cc ∧ c.maxLocals = nL ∧ s.vm.findClass own = some m.cls ∧ (∀ w ∈ xr_tb, w.before args s = true) ∧ va_K D vwCl [] s ∧ xk_N s ∧ (∀ q, s.heap.size ≤ q → A q) ∧ (ini = true → meth.name = "<init>") ∧ fr ≤ R.frames ∧ lo ≤ R.locals ∧ mcR ≤ R.cells ∧ msR ≤ R.slots ∧
    KA = (fun cA ty => ArrOfT s cA ty ∧ va_RA s cA ty) ∧
    J = fun pc lv st ws cells slots => ∀ (H : Heap) (locs : List Loc) (ls : Array Slot), va_P D vwCl ws H → va_D A ws → va_S A s.heap H locs → xr_lv ls nL lv → W p l e R s m args below meth c H locs cells slots Q (F0 m pc ls st)
def xk_pre (D : va_G) (ci : Nat) (dfl : List Value) (h0 sz : Nat) (U : State) : Prop := U.heap.size = sz ∧ va_P D vwCl [(h0, .inr (ci, dfl))] U.heap ∧ va_K D vwCl [] U ∧ xk_N U
def xk_post (D : va_G) (ci : Nat) (dfl : List Value) (sh : List xr_Sh) (ι : xr_S) (h0 sz : Nat) : Array Value → State → Outcome → State → Prop := fun _ st oc t => oc = .returned none ∧ (∃ (ad : Nat → Nat) (ca : Nat → ClassId), ad 0 = h0 ∧ va_P D vwCl (xr_wl ad ca ι 0 sh) t.heap ∧ va_D (va_A [(h0, .inr (ci, dfl))] sz) (xr_wl ad ca ι 0 sh) ∧ ∀ c k n : Nat, sh[c]? = some (.inl (k, n)) → ArrOfT t (ca c) (xr_ty k) ∧ va_RA t (ca c) (xr_ty k)) ∧ va_F (va_A [(h0, .inr (ci, dfl))] sz) st t
def xk_M (l : Launch) (D : va_G) (y : MethodName) (b : ByteArray) (fr lo ci : Nat) (dfl : List Value) (sh : List xr_Sh) (ι : xr_S) (mc ms : Nat) : Prop := ∀ h0 sz : Nat, Met l y (Cond.code y b 1 none :: xr_tb) ({ frames := fr, cells := mc, slots := ms, locals := lo } : Room) (va_Pc [.ref h0] (xk_pre D ci dfl h0 sz)) (xk_post D ci dfl sh ι h0 sz) mc ms (va_A [(h0, .inr (ci, dfl))] sz)
theorem xk_blind {D : va_G} {ci h0 sz : Nat} {dfl : List Value} {As : List Value} : FrameBlind (va_Pc As (xk_pre D ci dfl h0 sz)) := fun a U g mk q => ⟨q.1, q.2.1, q.2.2.1, va_K.moved (u := U) (U := U.calling g mk a) (Vm.Alike.refl U.vm) q.2.2.2.1, xk_N.same (s := U) (U := U.calling g mk a) rfl q.2.2.2.2⟩
theorem xk_range {α : Type} (ws w2 : List α) : (List.range ws.length).map (fun i => (ws ++ w2)[i]?) = ws.map some := by
  apply List.ext_getElem?
  intro i
  simp only [List.getElem?_map]
  by_cases h : i < ws.length
  · rw [List.getElem?_range h, Option.map_some, List.getElem?_append_left h, List.getElem?_eq_getElem h]; rfl
  · rw [List.getElem?_eq_none (by simpa using h), List.getElem?_eq_none (by simpa using h)]; rfl
theorem xk_nd (n : Nat) : va_nd (List.range n) = true := by
  have key : ∀ l : List Nat, l.Nodup → va_nd l = true := by
    intro l
    induction l with
    | nil => intro _; rfl
    | cons a t ih => intro h; rw [List.nodup_cons] at h; simp [va_nd, h.1, ih h.2]
  exact key _ List.nodup_range
theorem xk_join {A0 : Nat → Prop} {D : va_G} {cl : List vw_C} {ws F : va_W} {x : Nat × va_E} {H H1 : Heap} (hP : va_P D cl (ws ++ [x]) H) (hD : va_D A0 (ws ++ [x])) (hk : ∀ q : Nat, q < H.size → ¬ va_A [x] H.size q → H1[q]? = H[q]?) (hF : ∀ q, va_A [x] H.size q → A0 q) (hP1 : va_P D cl F H1) (hD1 : va_D (va_A [x] H.size) F) : va_P D cl (ws ++ F) H1 ∧ va_D A0 (ws ++ F) :=
  va_join (wr := ws) (wc := [x]) (w1 := F) hP hD [ws.length] (List.range ws.length) (by simp) (xk_range ws [x]) (xk_nd _) (fun i hi hj => by simp at hi hj; omega) hk hF hP1 hD1
section XK
variable {l : Launch} {D : va_G} {cc : ByteArray} {own : String} {nL fr lo mcR msR : Nat} {ini : Bool} {KA : ClassId → FieldType → Prop} {J : xk_Ty}
variable {pc cells slots : Nat} {lv : List (Option Value)} {st : List Value} {ws : va_W}
theorem xk_aload_n (B : xk_B l D cc own nL fr lo mcR msR ini KA J) {k : Fin 4} {i x : Nat} (hd : decode cc pc = .ok (.aload_n k, 1)) (hi : (k : Nat) = i) (hg : lv[i]? = some (some (.ref x))) (kk : J (pc + 1) lv (.ref x :: st) ws cells slots) : J pc lv st ws cells slots := by
  obtain ⟨p, e, R, s, m, args, below, meth, kc, A, Q, hx, hb, hml, hown, hts, hK, hN, hA, hini, hfr, hlo, hcl, hsl, rfl, rfl⟩ := B
  intro H locs ls hP hD hS hl
  exact lv_aload_n hx hb hd hi (hl.at hg) (kk H locs ls hP hD hS hl)
theorem xk_iconst (B : xk_B l D cc own nL fr lo mcR msR ini KA J) {n : Int} {v : Int32} (hd : decode cc pc = .ok (.iconst n, 1)) (hv : Int32.ofInt n = v) (kk : J (pc + 1) lv (.int v :: st) ws cells slots) : J pc lv st ws cells slots := by
  obtain ⟨p, e, R, s, m, args, below, meth, kc, A, Q, hx, hb, hml, hown, hts, hK, hN, hA, hini, hfr, hlo, hcl, hsl, rfl, rfl⟩ := B
  intro H locs ls hP hD hS hl
  exact lv_iconst hx hb hd hv (kk H locs ls hP hD hS hl)
theorem xk_bipush (B : xk_B l D cc own nL fr lo mcR msR ini KA J) {n : Int} {v : Int32} (hd : decode cc pc = .ok (.bipush n, 2)) (hv : (Int8.ofInt n).toInt32 = v) (kk : J (pc + 2) lv (.int v :: st) ws cells slots) : J pc lv st ws cells slots := by
  obtain ⟨p, e, R, s, m, args, below, meth, kc, A, Q, hx, hb, hml, hown, hts, hK, hN, hA, hini, hfr, hlo, hcl, hsl, rfl, rfl⟩ := B
  intro H locs ls hP hD hS hl
  exact lv_bipush hx hb hd hv (kk H locs ls hP hD hS hl)
theorem xk_sipush (B : xk_B l D cc own nL fr lo mcR msR ini KA J) {n : Int} {v : Int32} (hd : decode cc pc = .ok (.sipush n, 3)) (hv : (Int16.ofInt n).toInt32 = v) (kk : J (pc + 3) lv (.int v :: st) ws cells slots) : J pc lv st ws cells slots := by
  obtain ⟨p, e, R, s, m, args, below, meth, kc, A, Q, hx, hb, hml, hown, hts, hK, hN, hA, hini, hfr, hlo, hcl, hsl, rfl, rfl⟩ := B
  intro H locs ls hP hD hS hl
  exact lv_sipush hx hb hd hv (kk H locs ls hP hD hS hl)
theorem xk_dup (B : xk_B l D cc own nL fr lo mcR msR ini KA J) {v : Value} (hd : decode cc pc = .ok (.dup, 1)) (hv : v.category = 1) (kk : J (pc + 1) lv (v :: v :: st) ws cells slots) : J pc lv (v :: st) ws cells slots := by
  obtain ⟨p, e, R, s, m, args, below, meth, kc, A, Q, hx, hb, hml, hown, hts, hK, hN, hA, hini, hfr, hlo, hcl, hsl, rfl, rfl⟩ := B
  intro H locs ls hP hD hS hl
  exact lv_dup hx hb hd hv (kk H locs ls hP hD hS hl)
theorem xk_astore_n (B : xk_B l D cc own nL fr lo mcR msR ini KA J) {k : Fin 4} {i x : Nat} {lv2 : List (Option Value)} (hd : decode cc pc = .ok (.astore_n k, 1)) (hi : (k : Nat) = i) (hn : i < nL) (hv : xr_s1 lv i (.ref x) = lv2) (kk : J (pc + 1) lv2 st ws cells slots) : J pc lv (.ref x :: st) ws cells slots := by
  obtain ⟨p, e, R, s, m, args, below, meth, kc, A, Q, hx, hb, hml, hown, hts, hK, hN, hA, hini, hfr, hlo, hcl, hsl, rfl, rfl⟩ := B
  intro H locs ls hP hD hS hl
  exact lv_astore_n hx hb hd hi hl hn rfl (fun ls hl => kk H locs ls hP hD hS (hv ▸ xr_lv.s1 hl))
theorem xk_objInit (B : xk_B l D cc own nL fr lo mcR msR ini KA J) {idx a : Nat} (h1 : Cond.methodLink own idx objectInit ∈ xr_tb) (hfr1 : 1 ≤ fr) (hlo1 : 20 ≤ lo) (hcat : (st.map fun v => v.category).sum ≤ 8) (hd : decode cc pc = .ok (.invokespecial idx, 3)) (kk : J (pc + 3) lv st ws cells slots) : J pc lv (.ref a :: st) ws cells slots := by
  obtain ⟨p, e, R, s, m, args, below, meth, kc, A, Q, hx, hb, hml, hown, hts, hK, hN, hA, hini, hfr, hlo, hcl, hsl, rfl, rfl⟩ := B
  intro H locs ls hP hD hS hl
  refine W.objInit hx hb hown (hts _ h1) (hts _ xk_w1) (hts _ xk_w2) rfl (by rw [hml]; exact hl.1) rfl hd (Nat.le_trans hfr1 hfr) ?_ (kk H locs ls hP hD hS hl)
  have h3 := lv_room (m := m) (pc := pc) (ls := ls) (rest := .ref a :: st) hcat
  exact Nat.le_trans (Nat.add_le_add_right h3 12) (Nat.le_trans hlo1 hlo)
theorem xk_new (B : xk_B l D cc own nL fr lo mcR msR ini KA J) {idx ci N : Nat} {C : String} {T : u_T} {ty : Nat → FieldType} {fs : List Value} (hin : ∀ w ∈ u_ws C T N, w ∈ xr_tb) (hty : ∀ k, k < N → parseFieldDescriptor (T k).2.2.1 = some (ty k)) (h1 : Cond.classLink own idx C ∈ xr_tb) (h2 : Cond.instantiable C N ∈ xr_tb) (h3 : Cond.initialized C ∈ xr_tb) (hc : vwCl[ci]? = some (C, T, N)) (hfs : ∀ j, j < N → defaultValue (ty j) = vp_V fs j) (hc1 : cells + 1 ≤ mcR) (hs1 : slots + N ≤ msR) (hd : decode cc pc = .ok (.new idx, 3)) (kk : ∀ q : Nat, J (pc + 3) lv (.ref q :: st) (ws ++ [(q, .inr (ci, fs))]) (cells + 1) (slots + N)) : J pc lv st ws cells slots := by
  obtain ⟨p, e, R, s, m, args, below, meth, kc, A, Q, hx, hb, hml, hown, hts, hK, hN, hA, hini, hfr, hlo, hcl, hsl, rfl, rfl⟩ := B
  intro H locs ls hP hD hS hl
  exact va_new hx hb hts hin ty hty hown (hts _ h1) (hts _ h2) (hts _ h3) hK hP hD hS hA hc hfs (Nat.le_trans hc1 hcl) (Nat.le_trans hs1 hsl) hd (fun q H1 hP hD hS => kk q H1 locs ls hP hD hS hl)
theorem xk_newa (B : xk_B l D cc own nL fr lo mcR msR ini KA J) {at0 : ArrayType} {ty : FieldType} {n : Int32} {N : Nat} {a0 : vp_A} (h1 : Cond.arrayClass (newarray.typeOf at0) ∈ xr_tb) (hty : newarray.typeOf at0 = ty) (ha : ∀ cA : ClassId, vp_cell cA a0 = arrV cA N (fun _ => defaultValue ty)) (hn : ¬ n < 0) (hN' : n.toNatClampNeg = N) (hbytes : N * componentBytes ty ≤ 536870912) (hc1 : cells + 1 ≤ mcR) (hs1 : slots + N ≤ msR) (hd : decode cc pc = .ok (.newarray at0, 2)) (kk : ∀ (q : Nat) (cA : ClassId), KA cA ty → J (pc + 2) lv (.ref q :: st) (ws ++ [(q, .inl (cA, a0))]) (cells + 1) (slots + N)) : J pc lv (.int n :: st) ws cells slots := by
  obtain ⟨p, e, R, s, m, args, below, meth, kc, A, Q, hx, hb, hml, hown, hts, hK, hN, hA, hini, hfr, hlo, hcl, hsl, rfl, rfl⟩ := B
  intro H locs ls hP hD hS hl
  exact va_newa hx hb (hts _ h1) hty hK hP hD hS hA ha hn hN' hbytes (Nat.le_trans hc1 hcl) (Nat.le_trans hs1 hsl) hd (fun q cA H1 hK1 hP hD hS => kk q cA (hK1.2 0 _ rfl) H1 locs ls hP hD hS hl)
theorem xk_newq (B : xk_B l D cc own nL fr lo mcR msR ini KA J) {idx : Nat} {n : Int32} {N : Nat} (h1 : Cond.classLink own idx "SleptBread$State" ∈ xr_tb) (hn : ¬ n < 0) (hN' : n.toNatClampNeg = N) (hbytes : N * 4 ≤ 536870912) (hc1 : cells + 1 ≤ mcR) (hs1 : slots + N ≤ msR) (hd : decode cc pc = .ok (.anewarray idx, 3)) (kk : ∀ (q : Nat) (cA : ClassId), KA cA (.object "SleptBread$State") → J (pc + 3) lv (.ref q :: st) (ws ++ [(q, .inl (cA, N, .inr (.inr (.inr (.inr (fun _ => none))))))]) (cells + 1) (slots + N)) : J pc lv (.int n :: st) ws cells slots := by
  obtain ⟨p, e, R, s, m, args, below, meth, kc, A, Q, hx, hb, hml, hown, hts, hK, hN, hA, hini, hfr, hlo, hcl, hsl, rfl, rfl⟩ := B
  intro H locs ls hP hD hS hl
  exact va_newq hx hb hown (hts _ h1) hN.2 hK hP hD hS hA hn hN' hbytes (Nat.le_trans hc1 hcl) (Nat.le_trans hs1 hsl) hd (fun q cA H1 hK1 hP hD hS => kk q cA (hK1.2 0 _ rfl) H1 locs ls hP hD hS hl)
theorem xk_putR (B : xk_B l D cc own nL fr lo mcR msR true KA J) {idx ci k N a : Nat} {C : String} {T : u_T} {ty : Nat → FieldType} {fs : List Value} {v : Value} (hin : ∀ w ∈ u_ws C T N, w ∈ xr_tb) (hty : ∀ k, k < N → parseFieldDescriptor (T k).2.2.1 = some (ty k)) (hnm : ∀ a, a < N → ∀ b, b < N → a ≠ b → (T a).2.1 ≠ (T b).2.1) (hc : vwCl[ci]? = some (C, T, N)) (hk : k < N) (h1 : Cond.fieldLink own idx (T k).1 (T k).2.1 (T k).2.2.1 ∈ xr_tb) (hfin : (T k).2.2.2 = true) (hdecl : (T k).1 = own) (hn : narrow (ty k) v = v) (hfit : fits (ty k) v = true) (hlen : k < fs.length) (hd : decode cc pc = .ok (.putfield idx, 3)) (kk : J (pc + 3) lv st ((a, .inr (ci, fs.set k v)) :: ws) cells slots) : J pc lv (v :: .ref a :: st) ((a, .inr (ci, fs)) :: ws) cells slots := by
  obtain ⟨p, e, R, s, m, args, below, meth, kc, A, Q, hx, hb, hml, hown, hts, hK, hN, hA, hini, hfr, hlo, hcl, hsl, rfl, rfl⟩ := B
  intro H locs ls hP hD hS hl
  exact va_putF hx hb hts hin ty hty hnm hown hK hP hD hS 0 rfl hc k hk (hts _ h1) (fun _ h => h) hfin (hini rfl) hdecl (hty k hk) hn hfit hlen hd (fun H1 locs1 hP hD hS => kk H1 locs1 ls hP hD hS hl)
theorem xk_putI (B : xk_B l D cc own nL fr lo mcR msR ini KA J) {idx ci k N a : Nat} {C : String} {T : u_T} {ty : Nat → FieldType} {fs : List Value} {v : Value} (hin : ∀ w ∈ u_ws C T N, w ∈ xr_tb) (hty : ∀ k, k < N → parseFieldDescriptor (T k).2.2.1 = some (ty k)) (hnm : ∀ a, a < N → ∀ b, b < N → a ≠ b → (T a).2.1 ≠ (T b).2.1) (hc : vwCl[ci]? = some (C, T, N)) (hk : k < N) (h1 : Cond.fieldLink own idx (T k).1 (T k).2.1 (T k).2.2.1 ∈ xr_tb) (hfin : (T k).2.2.2 = false) (hn : narrow (ty k) v = v) (hfit : fits (ty k) v = true) (hlen : k < fs.length) (hd : decode cc pc = .ok (.putfield idx, 3)) (kk : J (pc + 3) lv st ((a, .inr (ci, fs.set k v)) :: ws) cells slots) : J pc lv (v :: .ref a :: st) ((a, .inr (ci, fs)) :: ws) cells slots := by
  obtain ⟨p, e, R, s, m, args, below, meth, kc, A, Q, hx, hb, hml, hown, hts, hK, hN, hA, hini, hfr, hlo, hcl, hsl, rfl, rfl⟩ := B
  intro H locs ls hP hD hS hl
  exact va_put hx hb hts hin ty hty hnm hown hK hP hD hS 0 rfl hc k hk (hts _ h1) (fun _ h => h) hfin (hty k hk) hn hfit hlen hd (fun H1 locs1 hP hD hS => kk H1 locs1 ls hP hD hS hl)
theorem xk_getR (B : xk_B l D cc own nL fr lo mcR msR ini KA J) {idx ci k N a : Nat} {C : String} {T : u_T} {fs : List Value} {v : Value} (hin : ∀ w ∈ u_ws C T N, w ∈ xr_tb) (hc : vwCl[ci]? = some (C, T, N)) (hk : k < N) (h1 : Cond.fieldLink own idx (T k).1 (T k).2.1 (T k).2.2.1 ∈ xr_tb) (hv : fs[k]? = some v) (hd : decode cc pc = .ok (.getfield idx, 3)) (kk : J (pc + 3) lv (v :: st) ((a, .inr (ci, fs)) :: ws) cells slots) : J pc lv (.ref a :: st) ((a, .inr (ci, fs)) :: ws) cells slots := by
  obtain ⟨p, e, R, s, m, args, below, meth, kc, A, Q, hx, hb, hml, hown, hts, hK, hN, hA, hini, hfr, hlo, hcl, hsl, rfl, rfl⟩ := B
  intro H locs ls hP hD hS hl
  exact va_get hx hb hts hin hown hK hP 0 rfl hc k hk (hts _ h1) (fun _ h => h) hv hd (kk H locs ls hP hD hS hl)
theorem xk_astq (B : xk_B l D cc own nL fr lo mcR msR ini KA J) (q0 qk ci : Nat) {cA : ClassId} {r : vw_C} {n v a : Nat} {vs : List Value} {f : Nat → Option Nat} {ws2 : va_W} (hKA : KA cA (.object r.1)) (ha : ws[q0]? = some (a, .inl (cA, n, .inr (.inr (.inr (.inr f)))))) (hv : ws[qk]? = some (v, .inr (ci, vs))) (hc : vwCl[ci]? = some r) {i : Int32} (hin : vp_in i n) (hw : ws.set q0 (a, .inl (cA, n, .inr (.inr (.inr (.inr (va_up f i.toNatClampNeg (some v))))))) = ws2) (hd : decode cc pc = .ok (.aastore, 1)) (kk : J (pc + 1) lv st ws2 cells slots) : J pc lv (.ref v :: .int i :: .ref a :: st) ws cells slots := by
  subst hw
  obtain ⟨p, e, R, s, m, args, below, meth, kc, A, Q, hx, hb, hml, hown, hts, hK, hN, hA, hini, hfr, hlo, hcl, hsl, rfl, rfl⟩ := B
  intro H locs ls hP hD hS hl
  have hK1 : va_K D vwCl [(cA, .object r.1)] s := ⟨hK.1, fun k q h => by
    cases k with
    | zero => cases h; exact hKA
    | succ k => simp at h⟩
  exact va_astq (r := r) hx hb hK1 hP hD hS q0 0 qk ci ha rfl hv hc hin hd (fun H1 locs1 hP hD hS => kk H1 locs1 ls hP hD hS hl)
theorem xk_back {p : Program} {l : Launch} {e : Env} {R : Room} {s : State} {m : MethodId} {args : Array Value} {below : List Frame} {meth : Method} {c : Code} {H : Heap} {locs : List Loc} {cells slots : Nat} {Q : State → Prop} {D : va_G} {A : Nat → Prop} {H0 : Heap} {ci q mc ms : Nat} {dfl : List Value} {sh : List xr_Sh} {ι : xr_S} {a : Array Value} {pc : Nat} {ls : Array Slot} {st0 rest : List Value} {ws : va_W}
    (hr : va_Run p l e R s m args below meth c H locs cells slots mc ms (F0 m pc ls st0) rest (xk_post D ci dfl sh ι q H.size a) (va_A [(q, .inr (ci, dfl))] H.size)) (hP : va_P D vwCl (ws ++ [(q, .inr (ci, dfl))]) H) (hD : va_D A (ws ++ [(q, .inr (ci, dfl))])) (hS : va_S A H0 H locs) (hA : ∀ q, H0.size ≤ q → A q)
    (kk : ∀ (H1 : Heap) (locs1 : List Loc) (ad : Nat → Nat) (ca : Nat → ClassId), ad 0 = q → (∀ c k n : Nat, sh[c]? = some (.inl (k, n)) → ArrOfT s (ca c) (xr_ty k) ∧ va_RA s (ca c) (xr_ty k)) → va_P D vwCl (ws ++ xr_wl ad ca ι 0 sh) H1 → va_D A (ws ++ xr_wl ad ca ι 0 sh) → va_S A H0 H1 locs1 → W p l e R s m args below meth c H1 locs1 (cells + mc) (slots + ms) Q (F0 m (pc + 3) ls rest)) : W p l e R s m args below meth c H locs cells slots Q (F0 m pc ls st0) := by
  intro T hT X
  obtain ⟨v, st₀, t, T', L, h0, X', hL, e1, e2, ⟨hv, ⟨ad, ca, a0, hP1, hD1, hKA⟩, hz, hk⟩, hst⟩ := hr T hT X
  cases hv
  rw [h0] at hz hk
  have hAA : ∀ x, va_A [(q, .inr (ci, dfl))] H.size x → A x := by
    intro x hx
    rcases hx with ⟨k, ee, hx⟩ | hx
    · cases k with
      | zero => cases hx; exact hD.2 ws.length (q, .inr (ci, dfl)) (by simp)
      | succ k => simp at hx
    · exact hA x (Nat.le_trans hS.1 hx)
  have hvm : s.vm.Alike t.vm := by rw [← e2]; exact X'.warmed.alike
  rw [← e1] at hP1 hk hz
  obtain ⟨j1, j2⟩ := xk_join hP hD hk hAA hP1 hD1
  obtain ⟨t2, a1, b1⟩ := kk T'.heap (locs ++ L) ad ca a0 (fun c k n hc => ⟨arrOfT_moved hvm.symm (hKA c k n hc).1, (hKA c k n hc).2.moved hvm.symm⟩) j1 j2
    ⟨Nat.le_trans hS.1 hz, fun x h1 h2 => by rw [hk x (Nat.lt_of_lt_of_le h1 hS.1) (fun z => h2 (hAA x z))]; exact hS.2.1 x h1 h2, fun x hx => by
      rcases List.mem_append.mp hx with h | h
      · exact hS.2.2 x h
      · exact hAA _ (hL x h)⟩ T' rfl X'
  exact ⟨t2, hst t2 a1, b1⟩
theorem xk_ctorN (B : xk_B l D cc own nL fr lo mcR msR ini KA J) {idx fr1 lo1 ci mc ms q : Nat} {y : MethodName} {b : ByteArray} {host : String} {dfl : List Value} {sh : List xr_Sh} {ι : xr_S} (hmi : xr_mi y b 1 none 0) (hini1 : y.name = "<init>") (hinst : Cond.instanceMethod y ∈ xr_tb) (hlk : Cond.methodLinkNest own idx y host ∈ lw_tbl) (hM : xk_M l D y b fr1 lo1 ci dfl sh ι mc ms) (hR : fr1 + 1 ≤ fr ∧ 8 + (1 + 11) + lo1 ≤ lo) (hc1 : cells + mc ≤ mcR) (hs1 : slots + ms ≤ msR) (hcat : (st.map fun v => v.category).sum ≤ 8) (hd : decode cc pc = .ok (.invokespecial idx, 3)) (kk : ∀ (ad : Nat → Nat) (ca : Nat → ClassId), ad 0 = q → (∀ c k n : Nat, sh[c]? = some (.inl (k, n)) → KA (ca c) (xr_ty k)) → J (pc + 3) lv st (ws ++ xr_wl ad ca ι 0 sh) (cells + mc) (slots + ms)) : J pc lv (.ref q :: st) (ws ++ [(q, .inr (ci, dfl))]) cells slots := by
  obtain ⟨p, e, R, s, m, args, below, meth, kc, A, Q, hx, hb, hml, hown, hts, hK, hN, hA, hini, hfr, hlo, hcl, hsl, rfl, rfl⟩ := B
  intro H locs ls hP hD hS hl
  have hcn := va_cnB (R := R) (s := s) (args := args) (own := own) (host := host) (index := idx) (maxL := 1) (mc := mc) (ms := ms) (y := y) (bytes := b) (ret := none) (ws := Cond.code y b 1 none :: xr_tb) (rm := ({ frames := fr1, cells := mc, slots := ms, locals := lo1 } : Room)) 0 hts (xr_good hmi) rfl rfl rfl (hN.1 _ hlk rfl) (hts _ hmi.2.1) ⟨hmi.2.2.2.1, hmi.2.2.2.2.1, hmi.2.2.2.2.2⟩ ⟨Nat.le_trans hR.1 hfr, Nat.le_trans hR.2 hlo⟩
  have hrun := va_runIN (As := []) (rest := st) (b := q) (H := H) (locs := locs) (cells := cells) (slots := slots) (l := l) (e := e) (below := below) (meth := meth) (g := F0 m pc ls (.ref q :: st)) ⟨hx, hb, hml, hown, hts⟩ (hM q H.size) ⟨hcn, hini1, hts _ hinst⟩ ⟨xk_blind, fun U hU hW => ⟨rfl, by rw [hU], by rw [hU]; exact hP.sub [ws.length] (by simp), va_K.moved hW.alike hK, xk_N.warm hW hN⟩⟩ rfl rfl hl.1 rfl (lv_room hcat) hd ⟨Nat.le_trans hc1 hcl, Nat.le_trans hs1 hsl⟩
  exact xk_back hrun hP hD hS hA (fun H1 locs1 ad ca h0 hka hP hD hS => kk ad ca h0 hka H1 locs1 ls hP hD hS hl)
theorem xk_ctor (B : xk_B l D cc own nL fr lo mcR msR ini KA J) {idx fr1 lo1 ci mc ms q : Nat} {y : MethodName} {b : ByteArray} {dfl : List Value} {sh : List xr_Sh} {ι : xr_S} (hmi : xr_mi y b 1 none 0) (hini1 : y.name = "<init>") (hinst : Cond.instanceMethod y ∈ xr_tb) (hlk : Cond.methodLink own idx y ∈ xr_tb) (hM : xk_M l D y b fr1 lo1 ci dfl sh ι mc ms) (hR : fr1 + 1 ≤ fr ∧ 8 + (1 + 11) + lo1 ≤ lo) (hc1 : cells + mc ≤ mcR) (hs1 : slots + ms ≤ msR) (hcat : (st.map fun v => v.category).sum ≤ 8) (hd : decode cc pc = .ok (.invokespecial idx, 3)) (kk : ∀ (ad : Nat → Nat) (ca : Nat → ClassId), ad 0 = q → (∀ c k n : Nat, sh[c]? = some (.inl (k, n)) → KA (ca c) (xr_ty k)) → J (pc + 3) lv st (ws ++ xr_wl ad ca ι 0 sh) (cells + mc) (slots + ms)) : J pc lv (.ref q :: st) (ws ++ [(q, .inr (ci, dfl))]) cells slots := by
  obtain ⟨p, e, R, s, m, args, below, meth, kc, A, Q, hx, hb, hml, hown, hts, hK, hN, hA, hini, hfr, hlo, hcl, hsl, rfl, rfl⟩ := B
  intro H locs ls hP hD hS hl
  have cb : CallB R s args own idx y b 1 none (Cond.code y b 1 none :: xr_tb) ({ frames := fr1, cells := mc, slots := ms, locals := lo1 } : Room) mc ms 0 := callB_of 0 hts (xr_good hmi) rfl rfl rfl (hts _ hmi.2.1) (hts _ hlk) ⟨hmi.2.2.2.1, hmi.2.2.2.2.1, hmi.2.2.2.2.2⟩ ⟨Nat.le_trans hR.1 hfr, Nat.le_trans hR.2 hlo⟩
  have hrun := va_runI (As := []) (rest := st) (b := q) (H := H) (locs := locs) (cells := cells) (slots := slots) (l := l) (e := e) (below := below) (meth := meth) (g := F0 m pc ls (.ref q :: st)) ⟨hx, hb, hml, hown, hts⟩ (hM q H.size) ⟨cb, hini1, hts _ hinst⟩ ⟨xk_blind, fun U hU hW => ⟨rfl, by rw [hU], by rw [hU]; exact hP.sub [ws.length] (by simp), va_K.moved hW.alike hK, xk_N.warm hW hN⟩⟩ rfl rfl hl.1 rfl (lv_room hcat) hd ⟨Nat.le_trans hc1 hcl, Nat.le_trans hs1 hsl⟩
  exact xk_back hrun hP hD hS hA (fun H1 locs1 ad ca h0 hka hP hD hS => kk ad ca h0 hka H1 locs1 ls hP hD hS hl)
end XK
/-- a constructor's end: its cells, put in order -/
def xk_R (b : ByteArray) (sh : List xr_Sh) (ι : xr_S) (h0 mc ms : Nat) (KA : ClassId → FieldType → Prop) (J : xk_Ty) : Prop := ∀ (pc : Nat) (lv : List (Option Value)) (ws : va_W) (ad : Nat → Nat) (ca : Nat → ClassId) (is : List Nat), decode b pc = .ok (.return_, 1) → ad 0 = h0 → va_nd is = true → is.map (fun i => ws[i]?) = (xr_wl ad ca ι 0 sh).map some → (∀ c k n : Nat, sh[c]? = some (.inl (k, n)) → KA (ca c) (xr_ty k)) → J pc lv [] ws mc ms
theorem xk_psub {D : va_G} {cl : List vw_C} {ws w1 : va_W} {H : Heap} (hP : va_P D cl ws H) {is : List Nat} (h : is.map (fun i => ws[i]?) = w1.map some) : va_P D cl w1 H := by
  intro k q hk
  have h1 : (is.map (fun i => ws[i]?))[k]? = some (some q) := by rw [h, List.getElem?_map, hk]; rfl
  rw [List.getElem?_map] at h1
  cases hi : is[k]? with
  | none => rw [hi] at h1; cases h1
  | some i => rw [hi] at h1; exact hP i q (Option.some.inj h1)
theorem xk_open {l : Launch} {D : va_G} {y : MethodName} {b : ByteArray} {fr lo ci mc ms : Nat} {dfl : List Value} {sh : List xr_Sh} {ι : xr_S} (hmi : xr_mi y b 1 none 0) (hin : y.name = "<init>") (k : ∀ (h0 : Nat) (KA : ClassId → FieldType → Prop) (J : xk_Ty), xk_B l D b y.cls 1 fr lo mc ms true KA J → xk_R b sh ι h0 mc ms KA J → J 0 [some (.ref h0)] [] [(h0, .inr (ci, dfl))] 0 0) : xk_M l D y b fr lo ci dfl sh ι mc ms := by
  intro h0 sz
  refine Met.ofW (cc := b) (maxL := 1) (ret := none) hmi.2.2.1 rfl ?_
  intro p e s m args below meth c s₁ B hml hv
  obtain ⟨rfl, hsz, hP, hK, hN⟩ := hv
  subst hsz
  have hts0 := atoms_spec (ws := Cond.code y b 1 none :: xr_tb) B.pre
  have hts : ∀ w ∈ xr_tb, w.before ([Value.ref h0] : List Value).toArray s = true := fun w hw => hts0 w (List.mem_cons_of_mem _ hw)
  have hown : s.vm.findClass y.cls = some m.cls := findClass_of_methodNamed B.named
  have hlocks := B.notSynchronized
  have hname : meth.name = "<init>" := (name_of_methodNamed B.named B.method).1.trans hin
  have hl := lv_entry ([.ref h0]) (n := 1) (Nat.le_of_ble_eq_true rfl)
  rw [lg_entry_eq]
  have hb := B.bytes
  have hx := B.exec
  have hr := B.returns
  have hD : va_D (va_A [(h0, .inr (ci, dfl))] s.heap.size) [(h0, .inr (ci, dfl))] := ⟨fun i j p q hi hj _ => by
      cases i <;> cases j <;> simp_all, fun k q hk => va_A.in hk⟩
  refine k h0 (fun cA ty => ArrOfT s cA ty ∧ va_RA s cA ty) (fun pc lv st ws cells slots => ∀ (H : Heap) (locs : List Loc) (ls : Array Slot), va_P D vwCl ws H → va_D (va_A [(h0, .inr (ci, dfl))] s.heap.size) ws → va_S (va_A [(h0, .inr (ci, dfl))] s.heap.size) s.heap H locs → xr_lv ls 1 lv → W p l e _ s m ([Value.ref h0] : List Value).toArray below meth c H locs cells slots (MQ below (xk_post D ci dfl sh ι h0 s.heap.size) ([Value.ref h0] : List Value).toArray s mc ms (va_A [(h0, .inr (ci, dfl))] s.heap.size)) (F0 m pc ls st)) ?_ ?_ s.heap [] _ hP hD va_S.rf ?_
  · exact ⟨p, e, _, s, m, _, below, meth, c, _, _, hx, hb, hml, hown, hts, hK, hN, fun q h => Or.inr h, fun _ => hname, Nat.le_refl _, Nat.le_refl _, Nat.le_refl _, Nat.le_refl _, rfl, rfl⟩
  · intro pc lv ws ad ca is hd h1 h2 h3 h4 H locs ls hP hD hS hl
    refine W.vret hx hb hr (fun t ht hW => ⟨rfl, ⟨ad, ca, h1, by rw [ht]; exact xk_psub hP h3, hD.sub is h2 h3, fun c k n hc => ⟨arrOfT_moved hW.alike (h4 c k n hc).1, (h4 c k n hc).2.moved hW.alike⟩⟩, hS.F ht⟩) (fun q hq => hS.2.2 q hq) hd hlocks
  · exact hl
