noncomputable def xf_X0_fillWorths_L3 (a1 : Int32) (K4 : xr_S → Option xr_S) (t1 : (Int32 × xr_S)) (rec2 : (Int32 × xr_S) → Option xr_S) : Option xr_S := if (t1.2.1 9 2) ≤ t1.1 then (K4 t1.2) else ((xf_X5_isFresh t1.2 a1).bind (fun v5 => xr_jn (fun (w6 : Int32) => xr_jn (fun (w8 : Int32) => xr_st t1.2 33 6 t1.1 w8 (fun s10 => rec2 ((t1.1 + 1), s10))) (fun j9 => if w6 = 0 then (j9 (-1)) else ((xf_X5_worthOn t1.2 a1 t1.1).bind (fun v12 => j9 v12)))) (fun j7 => if v5 = 0 then (j7 0) else (xr_ld t1.2 12 7 a1 (fun v13 => if v13 = t1.1 then (j7 0) else (j7 1))))))
noncomputable def xf_X0_fillWorths (σ : xr_S) (a1 : Int32) : Option xr_S := xr_lw (xf_X0_fillWorths_L3 a1 (fun (e3 : xr_S) => some e3)) (0, σ)
set_option maxRecDepth 100000 in
set_option maxHeartbeats 4000000 in
theorem xc_X0_fillWorths (l : Launch) (D : va_G) (ad : Nat → Nat) (ca : Nat → ClassId) (σ : xr_S) (a1 : Int32) (q : xr_S) (hf : xf_X0_fillWorths σ a1 = some q) : xr_M l D ad ca yX0_fillWorths cX0_fillWorths 6 none 2 47 [.ref (ad 31), .ref (ad 9), .ref (ad 15), .int a1] σ none q := by
  refine xr_openV [some (.ref (ad 31)), some (.ref (ad 9)), some (.ref (ad 15)), some (.int a1), none, none] xm_X0_fillWorths (Nat.le_of_ble_eq_true rfl) rfl (fun J B RR => ?_)
  unfold xf_X0_fillWorths at hf
  refine xr_iconst B (v := 0) dX0_fillWorths_0 (by decide) ?_
  refine xr_istore B (lv2 := [some (.ref (ad 31)), some (.ref (ad 9)), some (.ref (ad 15)), some (.int a1), some (.int 0), none]) dX0_fillWorths_1 (by decide) rfl ?_
  refine xq_loop (fun (t1 : (Int32 × xr_S)) => J 3 [some (.ref (ad 31)), some (.ref (ad 9)), some (.ref (ad 15)), some (.int a1), some (.int t1.1), none] [] t1.2) (fun (e3 : xr_S) => J 68 [none, none, none, none, none, none] [] e3) hf (fun e3 hf => ?_) (fun K4 hK4 t1 rec2 hrec2 hf => ?_)
  · obtain rfl := Option.some.inj hf
    exact RR _ _ dX0_fillWorths_68 rfl
  · have hrec2 : ∀ (b1 : Int32) (b2 : xr_S), rec2 (b1, b2) = some q → J 3 [some (.ref (ad 31)), some (.ref (ad 9)), some (.ref (ad 15)), some (.int a1), some (.int b1), none] [] b2 := fun b1 b2 h => hrec2 (b1, b2) h
    unfold xf_X0_fillWorths_L3 at hf
    refine xr_iload B dX0_fillWorths_3 rfl ?_
    refine xr_aload_n B dX0_fillWorths_5 rfl rfl ?_
    refine xr_getI B xg_X0_21 xh_9 rfl dX0_fillWorths_6 ?_
    refine xr_ic_ge B (tgt := 68) dX0_fillWorths_9 (by decide) hf (fun _ hf => ?_) (fun _ hf => ?_)
    · refine xr_forget B (lv2 := [none, none, none, none, none, none]) trivial ?_
      exact hK4 t1.2 hf
    · refine xr_aload_n B dX0_fillWorths_12 rfl rfl ?_
      refine xr_iload_n B dX0_fillWorths_13 rfl rfl ?_
      refine xr_cVi B (rest := []) [.int a1] xm_X5_isFresh xv_X0_66 (fun q hq => xc_X5_isFresh l D ad ca t1.2 a1 q hq) xh_15 rfl rfl (by decide) rfl (Nat.le_of_ble_eq_true rfl) dX0_fillWorths_14 hf (fun v5 hf => ?_)
      refine xr_meet (fun (w6 : Int32) => J 36 [some (.ref (ad 31)), some (.ref (ad 9)), some (.ref (ad 15)), some (.int a1), some (.int t1.1), none] [.int w6] t1.2) hf (fun w6 hf => ?_) (fun j7 hj7 hf => ?_)
      · refine xr_istore B (lv2 := [some (.ref (ad 31)), some (.ref (ad 9)), some (.ref (ad 15)), some (.int a1), some (.int t1.1), some (.int w6)]) dX0_fillWorths_36 (by decide) rfl ?_
        refine xr_aload_n B dX0_fillWorths_38 rfl rfl ?_
        refine xr_getR B xg_X0_15 xh_31 rfl dX0_fillWorths_39 ?_
        refine xr_iload B dX0_fillWorths_42 rfl ?_
        refine xr_iload B dX0_fillWorths_44 rfl ?_
        refine xr_meet (fun (w8 : Int32) => J 61 [some (.ref (ad 31)), some (.ref (ad 9)), some (.ref (ad 15)), some (.int a1), some (.int t1.1), none] [.int w8, .int t1.1, .ref (ad 33)] t1.2) hf (fun w8 hf => ?_) (fun j9 hj9 hf => ?_)
        · refine xq_iast B xh_33 dX0_fillWorths_61 hf (fun s10 hf => ?_)
          refine xr_iinc B (v := (t1.1 + 1)) (lv2 := [some (.ref (ad 31)), some (.ref (ad 9)), some (.ref (ad 15)), some (.int a1), some (.int (t1.1 + 1)), none]) dX0_fillWorths_62 rfl (congrArg (t1.1 + ·) (by decide : Int32.ofInt (1) = 1)) (by decide) rfl ?_
          refine xr_goto B (tgt := 3) dX0_fillWorths_65 (by decide) ?_
          exact hrec2 (t1.1 + 1) s10 hf
        · refine xr_if_eq B (tgt := 60) dX0_fillWorths_46 (by decide) hf (fun _ hf => ?_) (fun _ hf => ?_)
          · refine xr_iconst B (v := (-1)) dX0_fillWorths_60 (by decide) ?_
            refine xr_forget B (lv2 := [some (.ref (ad 31)), some (.ref (ad 9)), some (.ref (ad 15)), some (.int a1), some (.int t1.1), none]) ⟨rfl, ⟨rfl, ⟨rfl, ⟨rfl, ⟨rfl, trivial⟩⟩⟩⟩⟩ ?_
            exact hj9 (-1) hf
          · refine xr_aload_n B dX0_fillWorths_49 rfl rfl ?_
            refine xr_aload_n B dX0_fillWorths_50 rfl rfl ?_
            refine xr_iload_n B dX0_fillWorths_51 rfl rfl ?_
            refine xr_iload B dX0_fillWorths_52 rfl ?_
            refine xr_cVi B (rest := [.int t1.1, .ref (ad 33)]) [.ref (ad 9), .int a1, .int t1.1] xm_X5_worthOn xv_X0_73 (fun q hq => xc_X5_worthOn l D ad ca t1.2 a1 t1.1 q hq) xh_15 rfl rfl (by decide) rfl (Nat.le_of_ble_eq_true rfl) dX0_fillWorths_54 hf (fun v12 hf => ?_)
            refine xr_goto B (tgt := 61) dX0_fillWorths_57 (by decide) ?_
            refine xr_forget B (lv2 := [some (.ref (ad 31)), some (.ref (ad 9)), some (.ref (ad 15)), some (.int a1), some (.int t1.1), none]) ⟨rfl, ⟨rfl, ⟨rfl, ⟨rfl, ⟨rfl, trivial⟩⟩⟩⟩⟩ ?_
            exact hj9 v12 hf
      · refine xr_if_eq B (tgt := 35) dX0_fillWorths_17 (by decide) hf (fun _ hf => ?_) (fun _ hf => ?_)
        · refine xr_iconst B (v := 0) dX0_fillWorths_35 (by decide) ?_
          exact hj7 0 hf
        · refine xr_aload_n B dX0_fillWorths_20 rfl rfl ?_
          refine xr_getR B xg_X0_70 xh_9 rfl dX0_fillWorths_21 ?_
          refine xr_iload_n B dX0_fillWorths_24 rfl rfl ?_
          refine xq_iald B xh_12 dX0_fillWorths_25 hf (fun v13 hf => ?_)
          refine xr_iload B dX0_fillWorths_26 rfl ?_
          refine xr_ic_eq B (tgt := 35) dX0_fillWorths_28 (by decide) hf (fun _ hf => ?_) (fun _ hf => ?_)
          · refine xr_iconst B (v := 0) dX0_fillWorths_35 (by decide) ?_
            exact hj7 0 hf
          · refine xr_iconst B (v := 1) dX0_fillWorths_31 (by decide) ?_
            refine xr_goto B (tgt := 36) dX0_fillWorths_32 (by decide) ?_
            exact hj7 1 hf

noncomputable def xf_X0_bestOn (σ : xr_S) (a1 : Int32) (a2 : Int32) (a3 : Int32) : Option Int32 := xr_ld σ 33 6 a2 (fun v1 => if v1 = (-1) then (some (-1)) else (if ((a3 >>> (a2 &&& 31)) &&& 1) = 1 then (some (-1)) else (xr_ld σ 33 6 a2 (fun v2 => xr_ld σ 34 512 (((a1 + 1) * 64) + (a3 ||| ((1 : Int32) <<< (a2 &&& 31)))) (fun v3 => some (v2 + v3))))))
set_option maxRecDepth 100000 in
set_option maxHeartbeats 4000000 in
theorem xc_X0_bestOn (l : Launch) (D : va_G) (ad : Nat → Nat) (ca : Nat → ClassId) (σ : xr_S) (a1 : Int32) (a2 : Int32) (a3 : Int32) (q : Int32) (hf : xf_X0_bestOn σ a1 a2 a3 = some q) : xr_M l D ad ca yX0_bestOn cX0_bestOn 4 (some .int) 0 0 [.ref (ad 31), .int a1, .int a2, .int a3] σ (some (.int q)) σ := by
  refine xr_openI [some (.ref (ad 31)), some (.int a1), some (.int a2), some (.int a3)] xm_X0_bestOn (Nat.le_of_ble_eq_true rfl) rfl (fun J B RR => ?_)
  unfold xf_X0_bestOn at hf
  refine xr_aload_n B dX0_bestOn_0 rfl rfl ?_
  refine xr_getR B xg_X0_15 xh_31 rfl dX0_bestOn_1 ?_
  refine xr_iload_n B dX0_bestOn_4 rfl rfl ?_
  refine xq_iald B xh_33 dX0_bestOn_5 hf (fun v1 hf => ?_)
  refine xr_iconst B (v := (-1)) dX0_bestOn_6 (by decide) ?_
  refine xr_ic_eq B (tgt := 19) dX0_bestOn_7 (by decide) hf (fun _ hf => ?_) (fun _ hf => ?_)
  · refine xr_iconst B (v := (-1)) dX0_bestOn_19 (by decide) ?_
    obtain rfl := Option.some.inj hf
    exact RR _ _ _ dX0_bestOn_20 rfl
  · refine xr_iload_n B dX0_bestOn_10 rfl rfl ?_
    refine xr_iload_n B dX0_bestOn_11 rfl rfl ?_
    refine xr_ishr B dX0_bestOn_12 ?_
    refine xr_iconst B (v := 1) dX0_bestOn_13 (by decide) ?_
    refine xr_iand B dX0_bestOn_14 ?_
    refine xr_iconst B (v := 1) dX0_bestOn_15 (by decide) ?_
    refine xr_ic_ne B (tgt := 21) dX0_bestOn_16 (by decide) hf (fun _ hf => ?_) (fun _ hf => ?_)
    · refine xr_iconst B (v := (-1)) dX0_bestOn_19 (by decide) ?_
      obtain rfl := Option.some.inj hf
      exact RR _ _ _ dX0_bestOn_20 rfl
    · refine xr_aload_n B dX0_bestOn_21 rfl rfl ?_
      refine xr_getR B xg_X0_15 xh_31 rfl dX0_bestOn_22 ?_
      refine xr_iload_n B dX0_bestOn_25 rfl rfl ?_
      refine xq_iald B xh_33 dX0_bestOn_26 hf (fun v2 hf => ?_)
      refine xr_aload_n B dX0_bestOn_27 rfl rfl ?_
      refine xr_getR B xg_X0_18 xh_31 rfl dX0_bestOn_28 ?_
      refine xr_iload_n B dX0_bestOn_31 rfl rfl ?_
      refine xr_iconst B (v := 1) dX0_bestOn_32 (by decide) ?_
      refine xr_iadd B dX0_bestOn_33 ?_
      refine xr_bipush B (v := 64) dX0_bestOn_34 (by decide) ?_
      refine xr_imul B dX0_bestOn_36 ?_
      refine xr_iload_n B dX0_bestOn_37 rfl rfl ?_
      refine xr_iconst B (v := 1) dX0_bestOn_38 (by decide) ?_
      refine xr_iload_n B dX0_bestOn_39 rfl rfl ?_
      refine xr_ishl B dX0_bestOn_40 ?_
      refine xr_ior B dX0_bestOn_41 ?_
      refine xr_iadd B dX0_bestOn_42 ?_
      refine xq_iald B xh_34 dX0_bestOn_43 hf (fun v3 hf => ?_)
      refine xr_iadd B dX0_bestOn_44 ?_
      obtain rfl := Option.some.inj hf
      exact RR _ _ _ dX0_bestOn_45 rfl

noncomputable def xf_X0_bestFrom_L18 (σ : xr_S) (a1 : Int32) (a2 : Int32) (K5 : Int32 → Option Int32) (t2 : (Int32 × Int32)) (rec3 : (Int32 × Int32) → Option Int32) : Option Int32 := if (σ.1 9 2) ≤ t2.2 then (K5 t2.1) else ((xf_X0_bestOn σ a1 t2.2 a2).bind (fun v6 => xr_v ((if t2.1 < v6 then v6 else t2.1)) (fun v7 => rec3 (v7, (t2.2 + 1)))))
noncomputable def xf_X0_bestFrom (σ : xr_S) (a1 : Int32) (a2 : Int32) : Option Int32 := xr_ld σ 34 512 (((a1 + 1) * 64) + a2) (fun v1 => xr_lw (xf_X0_bestFrom_L18 σ a1 a2 (fun (e4 : Int32) => some e4)) (v1, 0))
set_option maxRecDepth 100000 in
set_option maxHeartbeats 4000000 in
theorem xc_X0_bestFrom (l : Launch) (D : va_G) (ad : Nat → Nat) (ca : Nat → ClassId) (σ : xr_S) (a1 : Int32) (a2 : Int32) (q : Int32) (hf : xf_X0_bestFrom σ a1 a2 = some q) : xr_M l D ad ca yX0_bestFrom cX0_bestFrom 6 (some .int) 1 23 [.ref (ad 31), .ref (ad 9), .int a1, .int a2] σ (some (.int q)) σ := by
  refine xr_openI [some (.ref (ad 31)), some (.ref (ad 9)), some (.int a1), some (.int a2), none, none] xm_X0_bestFrom (Nat.le_of_ble_eq_true rfl) rfl (fun J B RR => ?_)
  unfold xf_X0_bestFrom at hf
  refine xr_aload_n B dX0_bestFrom_0 rfl rfl ?_
  refine xr_getR B xg_X0_18 xh_31 rfl dX0_bestFrom_1 ?_
  refine xr_iload_n B dX0_bestFrom_4 rfl rfl ?_
  refine xr_iconst B (v := 1) dX0_bestFrom_5 (by decide) ?_
  refine xr_iadd B dX0_bestFrom_6 ?_
  refine xr_bipush B (v := 64) dX0_bestFrom_7 (by decide) ?_
  refine xr_imul B dX0_bestFrom_9 ?_
  refine xr_iload_n B dX0_bestFrom_10 rfl rfl ?_
  refine xr_iadd B dX0_bestFrom_11 ?_
  refine xq_iald B xh_34 dX0_bestFrom_12 hf (fun v1 hf => ?_)
  refine xr_istore B (lv2 := [some (.ref (ad 31)), some (.ref (ad 9)), some (.int a1), some (.int a2), some (.int v1), none]) dX0_bestFrom_13 (by decide) rfl ?_
  refine xr_iconst B (v := 0) dX0_bestFrom_15 (by decide) ?_
  refine xr_istore B (lv2 := [some (.ref (ad 31)), some (.ref (ad 9)), some (.int a1), some (.int a2), some (.int v1), some (.int 0)]) dX0_bestFrom_16 (by decide) rfl ?_
  refine xq_loop (fun (t2 : (Int32 × Int32)) => J 18 [some (.ref (ad 31)), some (.ref (ad 9)), some (.int a1), some (.int a2), some (.int t2.1), some (.int t2.2)] [] σ) (fun (e4 : Int32) => J 48 [none, none, none, none, some (.int e4), none] [] σ) hf (fun e4 hf => ?_) (fun K5 hK5 t2 rec3 hrec3 hf => ?_)
  · refine xr_iload B dX0_bestFrom_48 rfl ?_
    obtain rfl := Option.some.inj hf
    exact RR _ _ _ dX0_bestFrom_50 rfl
  · have hrec3 : ∀ (b1 : Int32) (b2 : Int32), rec3 (b1, b2) = some q → J 18 [some (.ref (ad 31)), some (.ref (ad 9)), some (.int a1), some (.int a2), some (.int b1), some (.int b2)] [] σ := fun b1 b2 h => hrec3 (b1, b2) h
    unfold xf_X0_bestFrom_L18 at hf
    refine xr_iload B dX0_bestFrom_18 rfl ?_
    refine xr_aload_n B dX0_bestFrom_20 rfl rfl ?_
    refine xr_getI B xg_X0_21 xh_9 rfl dX0_bestFrom_21 ?_
    refine xr_ic_ge B (tgt := 48) dX0_bestFrom_24 (by decide) hf (fun _ hf => ?_) (fun _ hf => ?_)
    · refine xr_forget B (lv2 := [none, none, none, none, some (.int t2.1), none]) ⟨rfl, trivial⟩ ?_
      exact hK5 t2.1 hf
    · refine xr_iload B dX0_bestFrom_27 rfl ?_
      refine xr_aload_n B dX0_bestFrom_29 rfl rfl ?_
      refine xr_iload_n B dX0_bestFrom_30 rfl rfl ?_
      refine xr_iload B dX0_bestFrom_31 rfl ?_
      refine xr_iload_n B dX0_bestFrom_33 rfl rfl ?_
      refine xr_cVi B (rest := [.int t2.1]) [.int a1, .int t2.2, .int a2] xm_X0_bestOn xv_X0_56 (fun q hq => xc_X0_bestOn l D ad ca σ a1 t2.2 a2 q hq) xh_31 rfl rfl (by decide) rfl (Nat.le_of_ble_eq_true rfl) dX0_bestFrom_34 hf (fun v6 hf => ?_)
      refine xq_mmax B xs_X0_60 (by decide) (by decide) (Nat.le_of_ble_eq_true rfl) dX0_bestFrom_37 ?_
      refine xr_top _ hf (fun v7 hf => ?_)
      refine xr_istore B (lv2 := [some (.ref (ad 31)), some (.ref (ad 9)), some (.int a1), some (.int a2), some (.int v7), some (.int t2.2)]) dX0_bestFrom_40 (by decide) rfl ?_
      refine xr_iinc B (v := (t2.2 + 1)) (lv2 := [some (.ref (ad 31)), some (.ref (ad 9)), some (.int a1), some (.int a2), some (.int v7), some (.int (t2.2 + 1))]) dX0_bestFrom_42 rfl (congrArg (t2.2 + ·) (by decide : Int32.ofInt (1) = 1)) (by decide) rfl ?_
      refine xr_goto B (tgt := 18) dX0_bestFrom_45 (by decide) ?_
      exact hrec3 v7 (t2.2 + 1) hf

noncomputable def xf_X0_firstBed_L36 (σ : xr_S) (a1 : Int32) (a2 : Int32) (v1 : Int32) (K6 : Unit → Option Int32) (t3 : Int32) (rec4 : Int32 → Option Int32) : Option Int32 := if (σ.1 9 2) ≤ t3 then (K6 ()) else ((xf_X0_bestOn σ a1 t3 a2).bind (fun v7 => if v7 = v1 then (some t3) else (rec4 (t3 + 1))))
noncomputable def xf_X0_firstBed (σ : xr_S) (a1 : Int32) (a2 : Int32) : Option Int32 := xr_ld σ 34 512 ((a1 * 64) + a2) (fun v1 => xr_ld σ 34 512 (((a1 + 1) * 64) + a2) (fun v2 => if v2 = v1 then (some (-1)) else (xr_lw (xf_X0_firstBed_L36 σ a1 a2 v1 (fun (e5 : Unit) => some (-1))) 0)))
set_option maxRecDepth 100000 in
set_option maxHeartbeats 4000000 in
theorem xc_X0_firstBed (l : Launch) (D : va_G) (ad : Nat → Nat) (ca : Nat → ClassId) (σ : xr_S) (a1 : Int32) (a2 : Int32) (q : Int32) (hf : xf_X0_firstBed σ a1 a2 = some q) : xr_M l D ad ca yX0_firstBed cX0_firstBed 6 (some .int) 1 23 [.ref (ad 31), .ref (ad 9), .int a1, .int a2] σ (some (.int q)) σ := by
  refine xr_openI [some (.ref (ad 31)), some (.ref (ad 9)), some (.int a1), some (.int a2), none, none] xm_X0_firstBed (Nat.le_of_ble_eq_true rfl) rfl (fun J B RR => ?_)
  unfold xf_X0_firstBed at hf
  refine xr_aload_n B dX0_firstBed_0 rfl rfl ?_
  refine xr_getR B xg_X0_18 xh_31 rfl dX0_firstBed_1 ?_
  refine xr_iload_n B dX0_firstBed_4 rfl rfl ?_
  refine xr_bipush B (v := 64) dX0_firstBed_5 (by decide) ?_
  refine xr_imul B dX0_firstBed_7 ?_
  refine xr_iload_n B dX0_firstBed_8 rfl rfl ?_
  refine xr_iadd B dX0_firstBed_9 ?_
  refine xq_iald B xh_34 dX0_firstBed_10 hf (fun v1 hf => ?_)
  refine xr_istore B (lv2 := [some (.ref (ad 31)), some (.ref (ad 9)), some (.int a1), some (.int a2), some (.int v1), none]) dX0_firstBed_11 (by decide) rfl ?_
  refine xr_aload_n B dX0_firstBed_13 rfl rfl ?_
  refine xr_getR B xg_X0_18 xh_31 rfl dX0_firstBed_14 ?_
  refine xr_iload_n B dX0_firstBed_17 rfl rfl ?_
  refine xr_iconst B (v := 1) dX0_firstBed_18 (by decide) ?_
  refine xr_iadd B dX0_firstBed_19 ?_
  refine xr_bipush B (v := 64) dX0_firstBed_20 (by decide) ?_
  refine xr_imul B dX0_firstBed_22 ?_
  refine xr_iload_n B dX0_firstBed_23 rfl rfl ?_
  refine xr_iadd B dX0_firstBed_24 ?_
  refine xq_iald B xh_34 dX0_firstBed_25 hf (fun v2 hf => ?_)
  refine xr_iload B dX0_firstBed_26 rfl ?_
  refine xr_ic_ne B (tgt := 33) dX0_firstBed_28 (by decide) hf (fun _ hf => ?_) (fun _ hf => ?_)
  · refine xr_iconst B (v := (-1)) dX0_firstBed_31 (by decide) ?_
    obtain rfl := Option.some.inj hf
    exact RR _ _ _ dX0_firstBed_32 rfl
  · refine xr_iconst B (v := 0) dX0_firstBed_33 (by decide) ?_
    refine xr_istore B (lv2 := [some (.ref (ad 31)), some (.ref (ad 9)), some (.int a1), some (.int a2), some (.int v1), some (.int 0)]) dX0_firstBed_34 (by decide) rfl ?_
    refine xq_loop (fun (t3 : Int32) => J 36 [some (.ref (ad 31)), some (.ref (ad 9)), some (.int a1), some (.int a2), some (.int v1), some (.int t3)] [] σ) (fun (e5 : Unit) => J 67 [none, none, none, none, none, none] [] σ) hf (fun e5 hf => ?_) (fun K6 hK6 t3 rec4 hrec4 hf => ?_)
    · refine xr_iconst B (v := (-1)) dX0_firstBed_67 (by decide) ?_
      obtain rfl := Option.some.inj hf
      exact RR _ _ _ dX0_firstBed_68 rfl
    · unfold xf_X0_firstBed_L36 at hf
      refine xr_iload B dX0_firstBed_36 rfl ?_
      refine xr_aload_n B dX0_firstBed_38 rfl rfl ?_
      refine xr_getI B xg_X0_21 xh_9 rfl dX0_firstBed_39 ?_
      refine xr_ic_ge B (tgt := 67) dX0_firstBed_42 (by decide) hf (fun _ hf => ?_) (fun _ hf => ?_)
      · refine xr_forget B (lv2 := [none, none, none, none, none, none]) trivial ?_
        exact hK6 () hf
      · refine xr_aload_n B dX0_firstBed_45 rfl rfl ?_
        refine xr_iload_n B dX0_firstBed_46 rfl rfl ?_
        refine xr_iload B dX0_firstBed_47 rfl ?_
        refine xr_iload_n B dX0_firstBed_49 rfl rfl ?_
        refine xr_cVi B (rest := []) [.int a1, .int t3, .int a2] xm_X0_bestOn xv_X0_56 (fun q hq => xc_X0_bestOn l D ad ca σ a1 t3 a2 q hq) xh_31 rfl rfl (by decide) rfl (Nat.le_of_ble_eq_true rfl) dX0_firstBed_50 hf (fun v7 hf => ?_)
        refine xr_iload B dX0_firstBed_53 rfl ?_
        refine xr_ic_ne B (tgt := 61) dX0_firstBed_55 (by decide) hf (fun _ hf => ?_) (fun _ hf => ?_)
        · refine xr_iload B dX0_firstBed_58 rfl ?_
          obtain rfl := Option.some.inj hf
          exact RR _ _ _ dX0_firstBed_60 rfl
        · refine xr_iinc B (v := (t3 + 1)) (lv2 := [some (.ref (ad 31)), some (.ref (ad 9)), some (.int a1), some (.int a2), some (.int v1), some (.int (t3 + 1))]) dX0_firstBed_61 rfl (congrArg (t3 + ·) (by decide : Int32.ofInt (1) = 1)) (by decide) rfl ?_
          refine xr_goto B (tgt := 36) dX0_firstBed_64 (by decide) ?_
          exact hrec4 (t3 + 1) hf

noncomputable def xf_X0_follow_L8  (K5 : (Int32 × xr_S) → Option xr_S) (t2 : (Int32 × Int32 × xr_S)) (rec3 : (Int32 × Int32 × xr_S) → Option xr_S) : Option xr_S := if (t2.2.2.1 9 3) ≤ t2.2.1 then (K5 (t2.1, t2.2.2)) else ((xf_X0_fillWorths t2.2.2 t2.2.1).bind (fun s6 => (xf_X0_firstBed s6 t2.2.1 t2.1).bind (fun v7 => xr_st s6 32 7 t2.2.1 v7 (fun s8 => xr_ld s8 32 7 t2.2.1 (fun v9 => xr_jn (fun (w10 : Int32) => rec3 (w10, (t2.2.1 + 1), s8)) (fun j11 => if v9 = (-1) then (j11 t2.1) else (xr_ld s8 32 7 t2.2.1 (fun v13 => xr_v ((t2.1 ||| ((1 : Int32) <<< (v13 &&& 31)))) (fun v14 => j11 v14)))))))))
noncomputable def xf_X0_follow (σ : xr_S) : Option xr_S := xr_v ((σ.1 15 4)) (fun v1 => xr_lw (xf_X0_follow_L8 (fun (e4 : (Int32 × xr_S)) => xr_pf e4.2 31 1 (e4.1 &&& ((e4.2.1 15 4) ^^^ (-1))) (fun s15 => some s15))) (v1, 0, σ))
set_option maxRecDepth 100000 in
set_option maxHeartbeats 4000000 in
theorem xc_X0_follow (l : Launch) (D : va_G) (ad : Nat → Nat) (ca : Nat → ClassId) (σ : xr_S) (q : xr_S) (hf : xf_X0_follow σ = some q) : xr_M l D ad ca yX0_follow cX0_follow 5 none 3 72 [.ref (ad 31), .ref (ad 9), .ref (ad 15)] σ none q := by
  refine xr_openV [some (.ref (ad 31)), some (.ref (ad 9)), some (.ref (ad 15)), none, none] xm_X0_follow (Nat.le_of_ble_eq_true rfl) rfl (fun J B RR => ?_)
  unfold xf_X0_follow at hf
  refine xr_aload_n B dX0_follow_0 rfl rfl ?_
  refine xr_getI B xg_X0_38 xh_15 rfl dX0_follow_1 ?_
  refine xr_top _ hf (fun v1 hf => ?_)
  refine xr_istore_n B (lv2 := [some (.ref (ad 31)), some (.ref (ad 9)), some (.ref (ad 15)), some (.int v1), none]) dX0_follow_4 rfl (by decide) rfl ?_
  refine xr_iconst B (v := 0) dX0_follow_5 (by decide) ?_
  refine xr_istore B (lv2 := [some (.ref (ad 31)), some (.ref (ad 9)), some (.ref (ad 15)), some (.int v1), some (.int 0)]) dX0_follow_6 (by decide) rfl ?_
  refine xq_loop (fun (t2 : (Int32 × Int32 × xr_S)) => J 8 [some (.ref (ad 31)), some (.ref (ad 9)), some (.ref (ad 15)), some (.int t2.1), some (.int t2.2.1)] [] t2.2.2) (fun (e4 : (Int32 × xr_S)) => J 69 [some (.ref (ad 31)), none, some (.ref (ad 15)), some (.int e4.1), none] [] e4.2) hf (fun e4 hf => ?_) (fun K5 hK5 t2 rec3 hrec3 hf => ?_)
  · refine xr_aload_n B dX0_follow_69 rfl rfl ?_
    refine xr_iload_n B dX0_follow_70 rfl rfl ?_
    refine xr_aload_n B dX0_follow_71 rfl rfl ?_
    refine xr_getI B xg_X0_38 xh_15 rfl dX0_follow_72 ?_
    refine xr_iconst B (v := (-1)) dX0_follow_75 (by decide) ?_
    refine xr_ixor B dX0_follow_76 ?_
    refine xr_iand B dX0_follow_77 ?_
    refine xq_put B xp_X0_53 rfl rfl xh_31 rfl dX0_follow_78 hf (fun s15 hf => ?_)
    obtain rfl := Option.some.inj hf
    exact RR _ _ dX0_follow_81 rfl
  · have hrec3 : ∀ (b1 : Int32) (b2 : Int32) (b3 : xr_S), rec3 (b1, b2, b3) = some q → J 8 [some (.ref (ad 31)), some (.ref (ad 9)), some (.ref (ad 15)), some (.int b1), some (.int b2)] [] b3 := fun b1 b2 b3 h => hrec3 (b1, b2, b3) h
    have hK5 : ∀ (b1 : Int32) (b2 : xr_S), K5 (b1, b2) = some q → J 69 [some (.ref (ad 31)), none, some (.ref (ad 15)), some (.int b1), none] [] b2 := fun b1 b2 h => hK5 (b1, b2) h
    unfold xf_X0_follow_L8 at hf
    refine xr_iload B dX0_follow_8 rfl ?_
    refine xr_aload_n B dX0_follow_10 rfl rfl ?_
    refine xr_getI B xg_X0_27 xh_9 rfl dX0_follow_11 ?_
    refine xr_ic_ge B (tgt := 69) dX0_follow_14 (by decide) hf (fun _ hf => ?_) (fun _ hf => ?_)
    · refine xr_forget B (lv2 := [some (.ref (ad 31)), none, some (.ref (ad 15)), some (.int t2.1), none]) ⟨rfl, ⟨rfl, ⟨rfl, trivial⟩⟩⟩ ?_
      exact hK5 t2.1 t2.2.2 hf
    · refine xr_aload_n B dX0_follow_17 rfl rfl ?_
      refine xr_aload_n B dX0_follow_18 rfl rfl ?_
      refine xr_aload_n B dX0_follow_19 rfl rfl ?_
      refine xr_iload B dX0_follow_20 rfl ?_
      refine xr_cVv B (rest := []) [.ref (ad 9), .ref (ad 15), .int t2.2.1] xm_X0_fillWorths xv_X0_30 (fun q hq => xc_X0_fillWorths l D ad ca t2.2.2 t2.2.1 q hq) xh_31 rfl rfl (by decide) rfl (Nat.le_of_ble_eq_true rfl) dX0_follow_22 hf (fun s6 hf => ?_)
      refine xr_aload_n B dX0_follow_25 rfl rfl ?_
      refine xr_getR B xg_X0_9 xh_31 rfl dX0_follow_26 ?_
      refine xr_iload B dX0_follow_29 rfl ?_
      refine xr_aload_n B dX0_follow_31 rfl rfl ?_
      refine xr_aload_n B dX0_follow_32 rfl rfl ?_
      refine xr_iload B dX0_follow_33 rfl ?_
      refine xr_iload_n B dX0_follow_35 rfl rfl ?_
      refine xr_cVi B (rest := [.int t2.2.1, .ref (ad 32)]) [.ref (ad 9), .int t2.2.1, .int t2.1] xm_X0_firstBed xv_X0_50 (fun q hq => xc_X0_firstBed l D ad ca s6 t2.2.1 t2.1 q hq) xh_31 rfl rfl (by decide) rfl (Nat.le_of_ble_eq_true rfl) dX0_follow_36 hf (fun v7 hf => ?_)
      refine xq_iast B xh_32 dX0_follow_39 hf (fun s8 hf => ?_)
      refine xr_aload_n B dX0_follow_40 rfl rfl ?_
      refine xr_getR B xg_X0_9 xh_31 rfl dX0_follow_41 ?_
      refine xr_iload B dX0_follow_44 rfl ?_
      refine xq_iald B xh_32 dX0_follow_46 hf (fun v9 hf => ?_)
      refine xr_iconst B (v := (-1)) dX0_follow_47 (by decide) ?_
      refine xr_meet (fun (w10 : Int32) => J 63 [some (.ref (ad 31)), some (.ref (ad 9)), some (.ref (ad 15)), some (.int w10), some (.int t2.2.1)] [] s8) hf (fun w10 hf => ?_) (fun j11 hj11 hf => ?_)
      · refine xr_iinc B (v := (t2.2.1 + 1)) (lv2 := [some (.ref (ad 31)), some (.ref (ad 9)), some (.ref (ad 15)), some (.int w10), some (.int (t2.2.1 + 1))]) dX0_follow_63 rfl (congrArg (t2.2.1 + ·) (by decide : Int32.ofInt (1) = 1)) (by decide) rfl ?_
        refine xr_goto B (tgt := 8) dX0_follow_66 (by decide) ?_
        exact hrec3 w10 (t2.2.1 + 1) s8 hf
      · refine xr_ic_eq B (tgt := 63) dX0_follow_48 (by decide) hf (fun _ hf => ?_) (fun _ hf => ?_)
        · exact hj11 t2.1 hf
        · refine xr_iload_n B dX0_follow_51 rfl rfl ?_
          refine xr_iconst B (v := 1) dX0_follow_52 (by decide) ?_
          refine xr_aload_n B dX0_follow_53 rfl rfl ?_
          refine xr_getR B xg_X0_9 xh_31 rfl dX0_follow_54 ?_
          refine xr_iload B dX0_follow_57 rfl ?_
          refine xq_iald B xh_32 dX0_follow_59 hf (fun v13 hf => ?_)
          refine xr_ishl B dX0_follow_60 ?_
          refine xr_ior B dX0_follow_61 ?_
          refine xr_top _ hf (fun v14 hf => ?_)
          refine xr_istore_n B (lv2 := [some (.ref (ad 31)), some (.ref (ad 9)), some (.ref (ad 15)), some (.int v14), some (.int t2.2.1)]) dX0_follow_62 rfl (by decide) rfl ?_
          exact hj11 v14 hf

noncomputable def xf_X0_make_L10 (v1 : Int32) (K5 : xr_S → Option xr_S) (t2 : (Int32 × xr_S)) (rec3 : (Int32 × xr_S) → Option xr_S) : Option xr_S := if v1 ≤ t2.1 then (K5 t2.2) else (xr_st t2.2 34 512 (((t2.2.1 9 3) * 64) + t2.1) 0 (fun s6 => rec3 ((t2.1 + 1), s6)))
noncomputable def xf_X0_make_L62 (v1 : Int32) (t9 : (Int32 × xr_S)) (K17 : xr_S → Option xr_S) (t14 : (Int32 × xr_S)) (rec15 : (Int32 × xr_S) → Option xr_S) : Option xr_S := if v1 ≤ t14.1 then (K17 t14.2) else ((xf_X0_bestFrom t14.2 t9.1 t14.1).bind (fun v18 => xr_st t14.2 34 512 ((t9.1 * 64) + t14.1) v18 (fun s19 => rec15 ((t14.1 + 1), s19))))
noncomputable def xf_X0_make_L46 (v1 : Int32) (K12 : xr_S → Option xr_S) (t9 : (Int32 × xr_S)) (rec10 : (Int32 × xr_S) → Option xr_S) : Option xr_S := if t9.1 < 0 then (K12 t9.2) else ((xf_X0_fillWorths t9.2 t9.1).bind (fun s13 => xr_lw (xf_X0_make_L62 v1 t9 (fun (e16 : xr_S) => rec10 ((t9.1 + (-1)), e16))) (0, s13)))
noncomputable def xf_X0_make (σ : xr_S) : Option xr_S := xr_v (((1 : Int32) <<< ((σ.1 9 2) &&& 31))) (fun v1 => xr_lw (xf_X0_make_L10 v1 (fun (e4 : xr_S) => xr_v (((e4.1 9 3) - 1)) (fun v8 => xr_lw (xf_X0_make_L46 v1 (fun (e11 : xr_S) => xr_ld e11 34 512 (e11.1 15 4) (fun v22 => xr_pf e11 31 0 v22 (fun s23 => (xf_X0_follow s23).bind (fun s24 => some s24))))) (v8, e4)))) (0, σ))
set_option maxRecDepth 100000 in
set_option maxHeartbeats 4000000 in
theorem xc_X0_make (l : Launch) (D : va_G) (ad : Nat → Nat) (ca : Nat → ClassId) (σ : xr_S) (q : xr_S) (hf : xf_X0_make σ = some q) : xr_M l D ad ca yX0_make cX0_make 6 none 4 96 [.ref (ad 31), .ref (ad 9), .ref (ad 15)] σ none q := by
  refine xr_openV [some (.ref (ad 31)), some (.ref (ad 9)), some (.ref (ad 15)), none, none, none] xm_X0_make (Nat.le_of_ble_eq_true rfl) rfl (fun J B RR => ?_)
  unfold xf_X0_make at hf
  refine xr_iconst B (v := 1) dX0_make_0 (by decide) ?_
  refine xr_aload_n B dX0_make_1 rfl rfl ?_
  refine xr_getI B xg_X0_21 xh_9 rfl dX0_make_2 ?_
  refine xr_ishl B dX0_make_5 ?_
  refine xr_top _ hf (fun v1 hf => ?_)
  refine xr_istore_n B (lv2 := [some (.ref (ad 31)), some (.ref (ad 9)), some (.ref (ad 15)), some (.int v1), none, none]) dX0_make_6 rfl (by decide) rfl ?_
  refine xr_iconst B (v := 0) dX0_make_7 (by decide) ?_
  refine xr_istore B (lv2 := [some (.ref (ad 31)), some (.ref (ad 9)), some (.ref (ad 15)), some (.int v1), some (.int 0), none]) dX0_make_8 (by decide) rfl ?_
  refine xq_loop (fun (t2 : (Int32 × xr_S)) => J 10 [some (.ref (ad 31)), some (.ref (ad 9)), some (.ref (ad 15)), some (.int v1), some (.int t2.1), none] [] t2.2) (fun (e4 : xr_S) => J 38 [some (.ref (ad 31)), some (.ref (ad 9)), some (.ref (ad 15)), some (.int v1), none, none] [] e4) hf (fun e4 hf => ?_) (fun K5 hK5 t2 rec3 hrec3 hf => ?_)
  · refine xr_aload_n B dX0_make_38 rfl rfl ?_
    refine xr_getI B xg_X0_27 xh_9 rfl dX0_make_39 ?_
    refine xr_iconst B (v := 1) dX0_make_42 (by decide) ?_
    refine xr_isub B dX0_make_43 ?_
    refine xr_top _ hf (fun v8 hf => ?_)
    refine xr_istore B (lv2 := [some (.ref (ad 31)), some (.ref (ad 9)), some (.ref (ad 15)), some (.int v1), some (.int v8), none]) dX0_make_44 (by decide) rfl ?_
    refine xq_loop (fun (t9 : (Int32 × xr_S)) => J 46 [some (.ref (ad 31)), some (.ref (ad 9)), some (.ref (ad 15)), some (.int v1), some (.int t9.1), none] [] t9.2) (fun (e11 : xr_S) => J 102 [some (.ref (ad 31)), some (.ref (ad 9)), some (.ref (ad 15)), none, none, none] [] e11) hf (fun e11 hf => ?_) (fun K12 hK12 t9 rec10 hrec10 hf => ?_)
    · refine xr_aload_n B dX0_make_102 rfl rfl ?_
      refine xr_aload_n B dX0_make_103 rfl rfl ?_
      refine xr_getR B xg_X0_18 xh_31 rfl dX0_make_104 ?_
      refine xr_aload_n B dX0_make_107 rfl rfl ?_
      refine xr_getI B xg_X0_38 xh_15 rfl dX0_make_108 ?_
      refine xq_iald B xh_34 dX0_make_111 hf (fun v22 hf => ?_)
      refine xq_put B xp_X0_43 rfl rfl xh_31 rfl dX0_make_112 hf (fun s23 hf => ?_)
      refine xr_aload_n B dX0_make_115 rfl rfl ?_
      refine xr_aload_n B dX0_make_116 rfl rfl ?_
      refine xr_aload_n B dX0_make_117 rfl rfl ?_
      refine xr_cVv B (rest := []) [.ref (ad 9), .ref (ad 15)] xm_X0_follow xv_X0_46 (fun q hq => xc_X0_follow l D ad ca s23 q hq) xh_31 rfl rfl (by decide) rfl (Nat.le_of_ble_eq_true rfl) dX0_make_118 hf (fun s24 hf => ?_)
      obtain rfl := Option.some.inj hf
      exact RR _ _ dX0_make_121 rfl
    · have hrec10 : ∀ (b1 : Int32) (b2 : xr_S), rec10 (b1, b2) = some q → J 46 [some (.ref (ad 31)), some (.ref (ad 9)), some (.ref (ad 15)), some (.int v1), some (.int b1), none] [] b2 := fun b1 b2 h => hrec10 (b1, b2) h
      unfold xf_X0_make_L46 at hf
      refine xr_iload B dX0_make_46 rfl ?_
      refine xr_if_lt B (tgt := 102) dX0_make_48 (by decide) hf (fun _ hf => ?_) (fun _ hf => ?_)
      · refine xr_forget B (lv2 := [some (.ref (ad 31)), some (.ref (ad 9)), some (.ref (ad 15)), none, none, none]) ⟨rfl, ⟨rfl, ⟨rfl, trivial⟩⟩⟩ ?_
        exact hK12 t9.2 hf
      · refine xr_aload_n B dX0_make_51 rfl rfl ?_
        refine xr_aload_n B dX0_make_52 rfl rfl ?_
        refine xr_aload_n B dX0_make_53 rfl rfl ?_
        refine xr_iload B dX0_make_54 rfl ?_
        refine xr_cVv B (rest := []) [.ref (ad 9), .ref (ad 15), .int t9.1] xm_X0_fillWorths xv_X0_30 (fun q hq => xc_X0_fillWorths l D ad ca t9.2 t9.1 q hq) xh_31 rfl rfl (by decide) rfl (Nat.le_of_ble_eq_true rfl) dX0_make_56 hf (fun s13 hf => ?_)
        refine xr_iconst B (v := 0) dX0_make_59 (by decide) ?_
        refine xr_istore B (lv2 := [some (.ref (ad 31)), some (.ref (ad 9)), some (.ref (ad 15)), some (.int v1), some (.int t9.1), some (.int 0)]) dX0_make_60 (by decide) rfl ?_
        refine xq_loop (fun (t14 : (Int32 × xr_S)) => J 62 [some (.ref (ad 31)), some (.ref (ad 9)), some (.ref (ad 15)), some (.int v1), some (.int t9.1), some (.int t14.1)] [] t14.2) (fun (e16 : xr_S) => J 96 [some (.ref (ad 31)), some (.ref (ad 9)), some (.ref (ad 15)), some (.int v1), some (.int t9.1), none] [] e16) hf (fun e16 hf => ?_) (fun K17 hK17 t14 rec15 hrec15 hf => ?_)
        · refine xr_iinc B (v := (t9.1 + (-1))) (lv2 := [some (.ref (ad 31)), some (.ref (ad 9)), some (.ref (ad 15)), some (.int v1), some (.int (t9.1 + (-1))), none]) dX0_make_96 rfl (congrArg (t9.1 + ·) (by decide : Int32.ofInt (-1) = -1)) (by decide) rfl ?_
          refine xr_goto B (tgt := 46) dX0_make_99 (by decide) ?_
          exact hrec10 (t9.1 + (-1)) e16 hf
        · have hrec15 : ∀ (b1 : Int32) (b2 : xr_S), rec15 (b1, b2) = some q → J 62 [some (.ref (ad 31)), some (.ref (ad 9)), some (.ref (ad 15)), some (.int v1), some (.int t9.1), some (.int b1)] [] b2 := fun b1 b2 h => hrec15 (b1, b2) h
          unfold xf_X0_make_L62 at hf
          refine xr_iload B dX0_make_62 rfl ?_
          refine xr_iload_n B dX0_make_64 rfl rfl ?_
          refine xr_ic_ge B (tgt := 96) dX0_make_65 (by decide) hf (fun _ hf => ?_) (fun _ hf => ?_)
          · refine xr_forget B (lv2 := [some (.ref (ad 31)), some (.ref (ad 9)), some (.ref (ad 15)), some (.int v1), some (.int t9.1), none]) ⟨rfl, ⟨rfl, ⟨rfl, ⟨rfl, ⟨rfl, trivial⟩⟩⟩⟩⟩ ?_
            exact hK17 t14.2 hf
          · refine xr_aload_n B dX0_make_68 rfl rfl ?_
            refine xr_getR B xg_X0_18 xh_31 rfl dX0_make_69 ?_
            refine xr_iload B dX0_make_72 rfl ?_
            refine xr_bipush B (v := 64) dX0_make_74 (by decide) ?_
            refine xr_imul B dX0_make_76 ?_
            refine xr_iload B dX0_make_77 rfl ?_
            refine xr_iadd B dX0_make_79 ?_
            refine xr_aload_n B dX0_make_80 rfl rfl ?_
            refine xr_aload_n B dX0_make_81 rfl rfl ?_
            refine xr_iload B dX0_make_82 rfl ?_
            refine xr_iload B dX0_make_84 rfl ?_
            refine xr_cVi B (rest := [.int ((t9.1 * 64) + t14.1), .ref (ad 34)]) [.ref (ad 9), .int t9.1, .int t14.1] xm_X0_bestFrom xv_X0_34 (fun q hq => xc_X0_bestFrom l D ad ca t14.2 t9.1 t14.1 q hq) xh_31 rfl rfl (by decide) rfl (Nat.le_of_ble_eq_true rfl) dX0_make_86 hf (fun v18 hf => ?_)
            refine xq_iast B xh_34 dX0_make_89 hf (fun s19 hf => ?_)
            refine xr_iinc B (v := (t14.1 + 1)) (lv2 := [some (.ref (ad 31)), some (.ref (ad 9)), some (.ref (ad 15)), some (.int v1), some (.int t9.1), some (.int (t14.1 + 1))]) dX0_make_90 rfl (congrArg (t14.1 + ·) (by decide : Int32.ofInt (1) = 1)) (by decide) rfl ?_
            refine xr_goto B (tgt := 62) dX0_make_93 (by decide) ?_
            exact hrec15 (t14.1 + 1) s19 hf
  · have hrec3 : ∀ (b1 : Int32) (b2 : xr_S), rec3 (b1, b2) = some q → J 10 [some (.ref (ad 31)), some (.ref (ad 9)), some (.ref (ad 15)), some (.int v1), some (.int b1), none] [] b2 := fun b1 b2 h => hrec3 (b1, b2) h
    unfold xf_X0_make_L10 at hf
    refine xr_iload B dX0_make_10 rfl ?_
    refine xr_iload_n B dX0_make_12 rfl rfl ?_
    refine xr_ic_ge B (tgt := 38) dX0_make_13 (by decide) hf (fun _ hf => ?_) (fun _ hf => ?_)
    · refine xr_forget B (lv2 := [some (.ref (ad 31)), some (.ref (ad 9)), some (.ref (ad 15)), some (.int v1), none, none]) ⟨rfl, ⟨rfl, ⟨rfl, ⟨rfl, trivial⟩⟩⟩⟩ ?_
      exact hK5 t2.2 hf
    · refine xr_aload_n B dX0_make_16 rfl rfl ?_
      refine xr_getR B xg_X0_18 xh_31 rfl dX0_make_17 ?_
      refine xr_aload_n B dX0_make_20 rfl rfl ?_
      refine xr_getI B xg_X0_27 xh_9 rfl dX0_make_21 ?_
      refine xr_bipush B (v := 64) dX0_make_24 (by decide) ?_
      refine xr_imul B dX0_make_26 ?_
      refine xr_iload B dX0_make_27 rfl ?_
      refine xr_iadd B dX0_make_29 ?_
      refine xr_iconst B (v := 0) dX0_make_30 (by decide) ?_
      refine xq_iast B xh_34 dX0_make_31 hf (fun s6 hf => ?_)
      refine xr_iinc B (v := (t2.1 + 1)) (lv2 := [some (.ref (ad 31)), some (.ref (ad 9)), some (.ref (ad 15)), some (.int v1), some (.int (t2.1 + 1)), none]) dX0_make_32 rfl (congrArg (t2.1 + ·) (by decide : Int32.ofInt (1) = 1)) (by decide) rfl ?_
      refine xr_goto B (tgt := 10) dX0_make_35 (by decide) ?_
      exact hrec3 (t2.1 + 1) s6 hf

noncomputable def xf_X4_passNight_L3 (a1 : Int32) (K4 : xr_S → Option (Int32 × xr_S)) (t1 : (Int32 × xr_S)) (rec2 : (Int32 × xr_S) → Option (Int32 × xr_S)) : Option (Int32 × xr_S) := if (t1.2.1 9 3) ≤ t1.1 then (K4 t1.2) else (xr_ld t1.2 32 7 t1.1 (fun v5 => xr_jn (fun (w6 : Int32) => xr_jn (fun (w8 : Int32) => xr_st t1.2 38 7 t1.1 w8 (fun s10 => rec2 ((t1.1 + 1), s10))) (fun j9 => if w6 = 0 then (j9 (-1)) else ((xf_X9_top t1.2 36 v5).bind (fun v12 => j9 v12)))) (fun j7 => if v5 = (-1) then (j7 0) else (if ((a1 >>> (v5 &&& 31)) &&& 1) = 0 then (j7 1) else (j7 0)))))
noncomputable def xf_X4_passNight_L80  (K16 : (Int32 × xr_S) → Option (Int32 × xr_S)) (t13 : (Int32 × Int32 × xr_S)) (rec14 : (Int32 × Int32 × xr_S) → Option (Int32 × xr_S)) : Option (Int32 × xr_S) := if (t13.2.2.1 9 3) ≤ t13.2.1 then (K16 (t13.1, t13.2.2)) else (xr_ld t13.2.2 38 7 t13.2.1 (fun v17 => xr_jn (fun (w18 : (Int32 × xr_S)) => rec14 (w18.1, (t13.2.1 + 1), w18.2)) (fun j19 => if v17 = (-1) then (j19 (t13.1, t13.2.2)) else (xr_ld t13.2.2 12 7 t13.2.1 (fun v21 => xr_ld t13.2.2 38 7 t13.2.1 (fun v22 => (xf_X9_grow t13.2.2 36 v21 v22 (t13.2.2.1 9 1)).bind (fun p23 => if p23.1 = 0 then (j19 (t13.1, p23.2)) else (j19 (1, p23.2)))))))))
noncomputable def xf_X4_passNight (σ : xr_S) (a1 : Int32) : Option (Int32 × xr_S) := xr_lw (xf_X4_passNight_L3 a1 (fun (e3 : xr_S) => xr_lw (xf_X4_passNight_L80 (fun (e15 : (Int32 × xr_S)) => xr_zb e15.1 (some (e15.1, e15.2)))) (0, 0, e3))) (0, σ)
set_option maxRecDepth 100000 in
set_option maxHeartbeats 4000000 in
theorem xc_X4_passNight (l : Launch) (D : va_G) (ad : Nat → Nat) (ca : Nat → ClassId) (σ : xr_S) (a1 : Int32) (q : (Int32 × xr_S)) (hf : xf_X4_passNight σ a1 = some q) : xr_M l D ad ca yX4_passNight cX4_passNight 7 (some .boolean) 2 48 [.ref (ad 35), .ref (ad 9), .ref (ad 31), .int a1] σ (some (.int q.1)) q.2 := by
  refine xr_openZ [some (.ref (ad 35)), some (.ref (ad 9)), some (.ref (ad 31)), some (.int a1), none, none, none] xm_X4_passNight (Nat.le_of_ble_eq_true rfl) rfl (fun J B RR => ?_)
  unfold xf_X4_passNight at hf
  refine xr_iconst B (v := 0) dX4_passNight_0 (by decide) ?_
  refine xr_istore B (lv2 := [some (.ref (ad 35)), some (.ref (ad 9)), some (.ref (ad 31)), some (.int a1), some (.int 0), none, none]) dX4_passNight_1 (by decide) rfl ?_
  refine xq_loop (fun (t1 : (Int32 × xr_S)) => J 3 [some (.ref (ad 35)), some (.ref (ad 9)), some (.ref (ad 31)), some (.int a1), some (.int t1.1), none, none] [] t1.2) (fun (e3 : xr_S) => J 74 [some (.ref (ad 35)), some (.ref (ad 9)), none, none, none, none, none] [] e3) hf (fun e3 hf => ?_) (fun K4 hK4 t1 rec2 hrec2 hf => ?_)
  · refine xr_iconst B (v := 0) dX4_passNight_74 (by decide) ?_
    refine xr_istore B (lv2 := [some (.ref (ad 35)), some (.ref (ad 9)), none, none, some (.int 0), none, none]) dX4_passNight_75 (by decide) rfl ?_
    refine xr_iconst B (v := 0) dX4_passNight_77 (by decide) ?_
    refine xr_istore B (lv2 := [some (.ref (ad 35)), some (.ref (ad 9)), none, none, some (.int 0), some (.int 0), none]) dX4_passNight_78 (by decide) rfl ?_
    refine xq_loop (fun (t13 : (Int32 × Int32 × xr_S)) => J 80 [some (.ref (ad 35)), some (.ref (ad 9)), none, none, some (.int t13.1), some (.int t13.2.1), none] [] t13.2.2) (fun (e15 : (Int32 × xr_S)) => J 137 [none, none, none, none, some (.int e15.1), none, none] [] e15.2) hf (fun e15 hf => ?_) (fun K16 hK16 t13 rec14 hrec14 hf => ?_)
    · refine xr_iload B dX4_passNight_137 rfl ?_
      obtain ⟨hz, hf⟩ := xq_zb hf
      obtain rfl := Option.some.inj hf
      exact RR _ _ _ hz dX4_passNight_139 rfl
    · have hrec14 : ∀ (b1 : Int32) (b2 : Int32) (b3 : xr_S), rec14 (b1, b2, b3) = some q → J 80 [some (.ref (ad 35)), some (.ref (ad 9)), none, none, some (.int b1), some (.int b2), none] [] b3 := fun b1 b2 b3 h => hrec14 (b1, b2, b3) h
      have hK16 : ∀ (b1 : Int32) (b2 : xr_S), K16 (b1, b2) = some q → J 137 [none, none, none, none, some (.int b1), none, none] [] b2 := fun b1 b2 h => hK16 (b1, b2) h
      unfold xf_X4_passNight_L80 at hf
      refine xr_iload B dX4_passNight_80 rfl ?_
      refine xr_aload_n B dX4_passNight_82 rfl rfl ?_
      refine xr_getI B xg_X4_47 xh_9 rfl dX4_passNight_83 ?_
      refine xr_ic_ge B (tgt := 137) dX4_passNight_86 (by decide) hf (fun _ hf => ?_) (fun _ hf => ?_)
      · refine xr_forget B (lv2 := [none, none, none, none, some (.int t13.1), none, none]) ⟨rfl, trivial⟩ ?_
        exact hK16 t13.1 t13.2.2 hf
      · refine xr_aload_n B dX4_passNight_89 rfl rfl ?_
        refine xr_getR B xg_X4_18 xh_35 rfl dX4_passNight_90 ?_
        refine xr_iload B dX4_passNight_93 rfl ?_
        refine xq_iald B xh_38 dX4_passNight_95 hf (fun v17 hf => ?_)
        refine xr_iconst B (v := (-1)) dX4_passNight_96 (by decide) ?_
        refine xr_meet (fun (w18 : (Int32 × xr_S)) => J 131 [some (.ref (ad 35)), some (.ref (ad 9)), none, none, some (.int w18.1), some (.int t13.2.1), none] [] w18.2) hf (fun w18 hf => ?_) (fun j19 hj19 hf => ?_)
        · refine xr_iinc B (v := (t13.2.1 + 1)) (lv2 := [some (.ref (ad 35)), some (.ref (ad 9)), none, none, some (.int w18.1), some (.int (t13.2.1 + 1)), none]) dX4_passNight_131 rfl (congrArg (t13.2.1 + ·) (by decide : Int32.ofInt (1) = 1)) (by decide) rfl ?_
          refine xr_goto B (tgt := 80) dX4_passNight_134 (by decide) ?_
          exact hrec14 w18.1 (t13.2.1 + 1) w18.2 hf
        · have hj19 : ∀ (b1 : Int32) (b2 : xr_S), j19 (b1, b2) = some q → J 131 [some (.ref (ad 35)), some (.ref (ad 9)), none, none, some (.int b1), some (.int t13.2.1), none] [] b2 := fun b1 b2 h => hj19 (b1, b2) h
          refine xr_ic_eq B (tgt := 131) dX4_passNight_97 (by decide) hf (fun _ hf => ?_) (fun _ hf => ?_)
          · exact hj19 t13.1 t13.2.2 hf
          · refine xr_aload_n B dX4_passNight_100 rfl rfl ?_
            refine xr_getR B xg_X4_12 xh_35 rfl dX4_passNight_101 ?_
            refine xr_aload_n B dX4_passNight_104 rfl rfl ?_
            refine xr_getR B xg_X4_55 xh_9 rfl dX4_passNight_105 ?_
            refine xr_iload B dX4_passNight_108 rfl ?_
            refine xq_iald B xh_12 dX4_passNight_110 hf (fun v21 hf => ?_)
            refine xr_aload_n B dX4_passNight_111 rfl rfl ?_
            refine xr_getR B xg_X4_18 xh_35 rfl dX4_passNight_112 ?_
            refine xr_iload B dX4_passNight_115 rfl ?_
            refine xq_iald B xh_38 dX4_passNight_117 hf (fun v22 hf => ?_)
            refine xr_aload_n B dX4_passNight_118 rfl rfl ?_
            refine xr_getI B xg_X4_37 xh_9 rfl dX4_passNight_119 ?_
            refine xr_cVI B (rest := []) [.int v21, .int v22, .int (t13.2.2.1 9 1)] xm_X9_grow xv_X4_43 (fun q hq => xc_X9_grow l D ad ca t13.2.2 36 v21 v22 (t13.2.2.1 9 1) ⟨xh_36, xh_37⟩ q hq) xh_36 rfl rfl (by decide) rfl (Nat.le_of_ble_eq_true rfl) dX4_passNight_122 hf (fun p23 hf => ?_)
            refine xr_if_eq B (tgt := 131) dX4_passNight_125 (by decide) hf (fun _ hf => ?_) (fun _ hf => ?_)
            · exact hj19 t13.1 p23.2 hf
            · refine xr_iconst B (v := 1) dX4_passNight_128 (by decide) ?_
              refine xr_istore B (lv2 := [some (.ref (ad 35)), some (.ref (ad 9)), none, none, some (.int 1), some (.int t13.2.1), none]) dX4_passNight_129 (by decide) rfl ?_
              exact hj19 1 p23.2 hf
  · have hrec2 : ∀ (b1 : Int32) (b2 : xr_S), rec2 (b1, b2) = some q → J 3 [some (.ref (ad 35)), some (.ref (ad 9)), some (.ref (ad 31)), some (.int a1), some (.int b1), none, none] [] b2 := fun b1 b2 h => hrec2 (b1, b2) h
    unfold xf_X4_passNight_L3 at hf
    refine xr_iload B dX4_passNight_3 rfl ?_
    refine xr_aload_n B dX4_passNight_5 rfl rfl ?_
    refine xr_getI B xg_X4_47 xh_9 rfl dX4_passNight_6 ?_
    refine xr_ic_ge B (tgt := 74) dX4_passNight_9 (by decide) hf (fun _ hf => ?_) (fun _ hf => ?_)
    · refine xr_forget B (lv2 := [some (.ref (ad 35)), some (.ref (ad 9)), none, none, none, none, none]) ⟨rfl, ⟨rfl, trivial⟩⟩ ?_
      exact hK4 t1.2 hf
    · refine xr_aload_n B dX4_passNight_12 rfl rfl ?_
      refine xr_getR B xg_X4_50 xh_31 rfl dX4_passNight_13 ?_
      refine xr_iload B dX4_passNight_16 rfl ?_
      refine xq_iald B xh_32 dX4_passNight_18 hf (fun v5 hf => ?_)
      refine xr_istore B (lv2 := [some (.ref (ad 35)), some (.ref (ad 9)), some (.ref (ad 31)), some (.int a1), some (.int t1.1), some (.int v5), none]) dX4_passNight_19 (by decide) rfl ?_
      refine xr_iload B dX4_passNight_21 rfl ?_
      refine xr_iconst B (v := (-1)) dX4_passNight_23 (by decide) ?_
      refine xr_meet (fun (w6 : Int32) => J 41 [some (.ref (ad 35)), some (.ref (ad 9)), some (.ref (ad 31)), some (.int a1), some (.int t1.1), some (.int v5), none] [.int w6] t1.2) hf (fun w6 hf => ?_) (fun j7 hj7 hf => ?_)
      · refine xr_istore B (lv2 := [some (.ref (ad 35)), some (.ref (ad 9)), some (.ref (ad 31)), some (.int a1), some (.int t1.1), some (.int v5), some (.int w6)]) dX4_passNight_41 (by decide) rfl ?_
        refine xr_aload_n B dX4_passNight_43 rfl rfl ?_
        refine xr_getR B xg_X4_18 xh_35 rfl dX4_passNight_44 ?_
        refine xr_iload B dX4_passNight_47 rfl ?_
        refine xr_iload B dX4_passNight_49 rfl ?_
        refine xr_meet (fun (w8 : Int32) => J 67 [some (.ref (ad 35)), some (.ref (ad 9)), some (.ref (ad 31)), some (.int a1), some (.int t1.1), none, none] [.int w8, .int t1.1, .ref (ad 38)] t1.2) hf (fun w8 hf => ?_) (fun j9 hj9 hf => ?_)
        · refine xq_iast B xh_38 dX4_passNight_67 hf (fun s10 hf => ?_)
          refine xr_iinc B (v := (t1.1 + 1)) (lv2 := [some (.ref (ad 35)), some (.ref (ad 9)), some (.ref (ad 31)), some (.int a1), some (.int (t1.1 + 1)), none, none]) dX4_passNight_68 rfl (congrArg (t1.1 + ·) (by decide : Int32.ofInt (1) = 1)) (by decide) rfl ?_
          refine xr_goto B (tgt := 3) dX4_passNight_71 (by decide) ?_
          exact hrec2 (t1.1 + 1) s10 hf
        · refine xr_if_eq B (tgt := 66) dX4_passNight_51 (by decide) hf (fun _ hf => ?_) (fun _ hf => ?_)
          · refine xr_iconst B (v := (-1)) dX4_passNight_66 (by decide) ?_
            refine xr_forget B (lv2 := [some (.ref (ad 35)), some (.ref (ad 9)), some (.ref (ad 31)), some (.int a1), some (.int t1.1), none, none]) ⟨rfl, ⟨rfl, ⟨rfl, ⟨rfl, ⟨rfl, trivial⟩⟩⟩⟩⟩ ?_
            exact hj9 (-1) hf
          · refine xr_aload_n B dX4_passNight_54 rfl rfl ?_
            refine xr_getR B xg_X4_12 xh_35 rfl dX4_passNight_55 ?_
            refine xr_iload B dX4_passNight_58 rfl ?_
            refine xr_cVi B (rest := [.int t1.1, .ref (ad 38)]) [.int v5] xm_X9_top xv_X4_33 (fun q hq => xc_X9_top l D ad ca t1.2 36 v5 ⟨xh_36, xh_37⟩ q hq) xh_36 rfl rfl (by decide) rfl (Nat.le_of_ble_eq_true rfl) dX4_passNight_60 hf (fun v12 hf => ?_)
            refine xr_goto B (tgt := 67) dX4_passNight_63 (by decide) ?_
            refine xr_forget B (lv2 := [some (.ref (ad 35)), some (.ref (ad 9)), some (.ref (ad 31)), some (.int a1), some (.int t1.1), none, none]) ⟨rfl, ⟨rfl, ⟨rfl, ⟨rfl, ⟨rfl, trivial⟩⟩⟩⟩⟩ ?_
            exact hj9 v12 hf
      · refine xr_ic_eq B (tgt := 40) dX4_passNight_24 (by decide) hf (fun _ hf => ?_) (fun _ hf => ?_)
        · refine xr_iconst B (v := 0) dX4_passNight_40 (by decide) ?_
          exact hj7 0 hf
        · refine xr_iload_n B dX4_passNight_27 rfl rfl ?_
          refine xr_iload B dX4_passNight_28 rfl ?_
          refine xr_ishr B dX4_passNight_30 ?_
          refine xr_iconst B (v := 1) dX4_passNight_31 (by decide) ?_
          refine xr_iand B dX4_passNight_32 ?_
          refine xr_if_ne B (tgt := 40) dX4_passNight_33 (by decide) hf (fun _ hf => ?_) (fun _ hf => ?_)
          · refine xr_iconst B (v := 1) dX4_passNight_36 (by decide) ?_
            refine xr_goto B (tgt := 41) dX4_passNight_37 (by decide) ?_
            exact hj7 1 hf
          · refine xr_iconst B (v := 0) dX4_passNight_40 (by decide) ?_
            exact hj7 0 hf

noncomputable def xf_X4_run_L14 (a2 : Int32) (a1 : Int32) (K5 : xr_S → Option (Int32 × xr_S)) (t2 : (Int32 × xr_S)) (rec3 : (Int32 × xr_S) → Option (Int32 × xr_S)) : Option (Int32 × xr_S) := if a2 ≤ t2.1 then (K5 t2.2) else ((xf_X4_passNight t2.2 a1).bind (fun p6 => if p6.1 = 0 then (some (t2.1, p6.2)) else (rec3 ((t2.1 + 1), p6.2))))
noncomputable def xf_X4_run (σ : xr_S) (a1 : Int32) (a2 : Int32) : Option (Int32 × xr_S) := (xf_X9_become σ 36 16).bind (fun s1 => xr_lw (xf_X4_run_L14 a2 a1 (fun (e4 : xr_S) => some (a2, e4))) (0, s1))
set_option maxRecDepth 100000 in
set_option maxHeartbeats 4000000 in
theorem xc_X4_run (l : Launch) (D : va_G) (ad : Nat → Nat) (ca : Nat → ClassId) (σ : xr_S) (a1 : Int32) (a2 : Int32) (q : (Int32 × xr_S)) (hf : xf_X4_run σ a1 a2 = some q) : xr_M l D ad ca yX4_run cX4_run 7 (some .int) 3 74 [.ref (ad 35), .ref (ad 9), .ref (ad 15), .ref (ad 31), .int a1, .int a2] σ (some (.int q.1)) q.2 := by
  refine xr_openI [some (.ref (ad 35)), some (.ref (ad 9)), some (.ref (ad 15)), some (.ref (ad 31)), some (.int a1), some (.int a2), none] xm_X4_run (Nat.le_of_ble_eq_true rfl) rfl (fun J B RR => ?_)
  unfold xf_X4_run at hf
  refine xr_aload_n B dX4_run_0 rfl rfl ?_
  refine xr_getR B xg_X4_12 xh_35 rfl dX4_run_1 ?_
  refine xr_aload_n B dX4_run_4 rfl rfl ?_
  refine xr_getR B xg_X4_22 xh_15 rfl dX4_run_5 ?_
  refine xr_cVv B (rest := []) [.ref (ad 16)] xm_X9_become xv_X4_25 (fun q hq => xc_X9_become l D ad ca σ 36 16 ⟨xh_36, xh_37⟩ ⟨xh_16, xh_17⟩ q hq) xh_36 rfl rfl (by decide) rfl (Nat.le_of_ble_eq_true rfl) dX4_run_8 hf (fun s1 hf => ?_)
  refine xr_iconst B (v := 0) dX4_run_11 (by decide) ?_
  refine xr_istore B (lv2 := [some (.ref (ad 35)), some (.ref (ad 9)), some (.ref (ad 15)), some (.ref (ad 31)), some (.int a1), some (.int a2), some (.int 0)]) dX4_run_12 (by decide) rfl ?_
  refine xr_forget B (lv2 := [some (.ref (ad 35)), some (.ref (ad 9)), none, some (.ref (ad 31)), some (.int a1), some (.int a2), some (.int 0)]) ⟨rfl, ⟨rfl, ⟨rfl, ⟨rfl, ⟨rfl, ⟨rfl, trivial⟩⟩⟩⟩⟩⟩ ?_
  refine xq_loop (fun (t2 : (Int32 × xr_S)) => J 14 [some (.ref (ad 35)), some (.ref (ad 9)), none, some (.ref (ad 31)), some (.int a1), some (.int a2), some (.int t2.1)] [] t2.2) (fun (e4 : xr_S) => J 41 [none, none, none, none, none, some (.int a2), none] [] e4) hf (fun e4 hf => ?_) (fun K5 hK5 t2 rec3 hrec3 hf => ?_)
  · refine xr_iload B dX4_run_41 rfl ?_
    obtain rfl := Option.some.inj hf
    exact RR _ _ _ dX4_run_43 rfl
  · have hrec3 : ∀ (b1 : Int32) (b2 : xr_S), rec3 (b1, b2) = some q → J 14 [some (.ref (ad 35)), some (.ref (ad 9)), none, some (.ref (ad 31)), some (.int a1), some (.int a2), some (.int b1)] [] b2 := fun b1 b2 h => hrec3 (b1, b2) h
    unfold xf_X4_run_L14 at hf
    refine xr_iload B dX4_run_14 rfl ?_
    refine xr_iload B dX4_run_16 rfl ?_
    refine xr_ic_ge B (tgt := 41) dX4_run_18 (by decide) hf (fun _ hf => ?_) (fun _ hf => ?_)
    · refine xr_forget B (lv2 := [none, none, none, none, none, some (.int a2), none]) ⟨rfl, trivial⟩ ?_
      exact hK5 t2.2 hf
    · refine xr_aload_n B dX4_run_21 rfl rfl ?_
      refine xr_aload_n B dX4_run_22 rfl rfl ?_
      refine xr_aload_n B dX4_run_23 rfl rfl ?_
      refine xr_iload B dX4_run_24 rfl ?_
      refine xr_cVI B (rest := []) [.ref (ad 9), .ref (ad 31), .int a1] xm_X4_passNight xv_X4_29 (fun q hq => xc_X4_passNight l D ad ca t2.2 a1 q hq) xh_35 rfl rfl (by decide) rfl (Nat.le_of_ble_eq_true rfl) dX4_run_26 hf (fun p6 hf => ?_)
      refine xr_if_ne B (tgt := 35) dX4_run_29 (by decide) hf (fun _ hf => ?_) (fun _ hf => ?_)
      · refine xr_iload B dX4_run_32 rfl ?_
        obtain rfl := Option.some.inj hf
        exact RR _ _ _ dX4_run_34 rfl
      · refine xr_iinc B (v := (t2.1 + 1)) (lv2 := [some (.ref (ad 35)), some (.ref (ad 9)), none, some (.ref (ad 31)), some (.int a1), some (.int a2), some (.int (t2.1 + 1))]) dX4_run_35 rfl (congrArg (t2.1 + ·) (by decide : Int32.ofInt (1) = 1)) (by decide) rfl ?_
        refine xr_goto B (tgt := 14) dX4_run_38 (by decide) ?_
        exact hrec3 (t2.1 + 1) p6.2 hf

noncomputable def xf_X4_fewestLoaves_L14 (a1 : Int32) (a2 : Int32) (K5 : xr_S → Option (Int32 × xr_S)) (t2 : (Int32 × xr_S)) (rec3 : (Int32 × xr_S) → Option (Int32 × xr_S)) : Option (Int32 × xr_S) := if 9 < t2.1 then (K5 t2.2) else ((xf_X9_top t2.2 36 a1).bind (fun v6 => if v6 = a2 then (some (t2.1, t2.2)) else ((xf_X9_grow t2.2 36 a1 a2 (t2.2.1 9 1)).bind (fun p7 => rec3 ((t2.1 + 1), p7.2)))))
noncomputable def xf_X4_fewestLoaves (σ : xr_S) (a1 : Int32) (a2 : Int32) : Option (Int32 × xr_S) := (xf_X9_become σ 36 16).bind (fun s1 => xr_lw (xf_X4_fewestLoaves_L14 a1 a2 (fun (e4 : xr_S) => some ((-1), e4))) (0, s1))
set_option maxRecDepth 100000 in
set_option maxHeartbeats 4000000 in
theorem xc_X4_fewestLoaves (l : Launch) (D : va_G) (ad : Nat → Nat) (ca : Nat → ClassId) (σ : xr_S) (a1 : Int32) (a2 : Int32) (q : (Int32 × xr_S)) (hf : xf_X4_fewestLoaves σ a1 a2 = some q) : xr_M l D ad ca yX4_fewestLoaves cX4_fewestLoaves 6 (some .int) 2 48 [.ref (ad 35), .ref (ad 9), .ref (ad 15), .int a1, .int a2] σ (some (.int q.1)) q.2 := by
  refine xr_openI [some (.ref (ad 35)), some (.ref (ad 9)), some (.ref (ad 15)), some (.int a1), some (.int a2), none] xm_X4_fewestLoaves (Nat.le_of_ble_eq_true rfl) rfl (fun J B RR => ?_)
  unfold xf_X4_fewestLoaves at hf
  refine xr_aload_n B dX4_fewestLoaves_0 rfl rfl ?_
  refine xr_getR B xg_X4_12 xh_35 rfl dX4_fewestLoaves_1 ?_
  refine xr_aload_n B dX4_fewestLoaves_4 rfl rfl ?_
  refine xr_getR B xg_X4_22 xh_15 rfl dX4_fewestLoaves_5 ?_
  refine xr_cVv B (rest := []) [.ref (ad 16)] xm_X9_become xv_X4_25 (fun q hq => xc_X9_become l D ad ca σ 36 16 ⟨xh_36, xh_37⟩ ⟨xh_16, xh_17⟩ q hq) xh_36 rfl rfl (by decide) rfl (Nat.le_of_ble_eq_true rfl) dX4_fewestLoaves_8 hf (fun s1 hf => ?_)
  refine xr_iconst B (v := 0) dX4_fewestLoaves_11 (by decide) ?_
  refine xr_istore B (lv2 := [some (.ref (ad 35)), some (.ref (ad 9)), some (.ref (ad 15)), some (.int a1), some (.int a2), some (.int 0)]) dX4_fewestLoaves_12 (by decide) rfl ?_
  refine xr_forget B (lv2 := [some (.ref (ad 35)), some (.ref (ad 9)), none, some (.int a1), some (.int a2), some (.int 0)]) ⟨rfl, ⟨rfl, ⟨rfl, ⟨rfl, ⟨rfl, trivial⟩⟩⟩⟩⟩ ?_
  refine xq_loop (fun (t2 : (Int32 × xr_S)) => J 14 [some (.ref (ad 35)), some (.ref (ad 9)), none, some (.int a1), some (.int a2), some (.int t2.1)] [] t2.2) (fun (e4 : xr_S) => J 58 [none, none, none, none, none, none] [] e4) hf (fun e4 hf => ?_) (fun K5 hK5 t2 rec3 hrec3 hf => ?_)
  · refine xr_iconst B (v := (-1)) dX4_fewestLoaves_58 (by decide) ?_
    obtain rfl := Option.some.inj hf
    exact RR _ _ _ dX4_fewestLoaves_59 rfl
  · have hrec3 : ∀ (b1 : Int32) (b2 : xr_S), rec3 (b1, b2) = some q → J 14 [some (.ref (ad 35)), some (.ref (ad 9)), none, some (.int a1), some (.int a2), some (.int b1)] [] b2 := fun b1 b2 h => hrec3 (b1, b2) h
    unfold xf_X4_fewestLoaves_L14 at hf
    refine xr_iload B dX4_fewestLoaves_14 rfl ?_
    refine xr_bipush B (v := 9) dX4_fewestLoaves_16 (by decide) ?_
    refine xr_ic_gt B (tgt := 58) dX4_fewestLoaves_18 (by decide) hf (fun _ hf => ?_) (fun _ hf => ?_)
    · refine xr_forget B (lv2 := [none, none, none, none, none, none]) trivial ?_
      exact hK5 t2.2 hf
    · refine xr_aload_n B dX4_fewestLoaves_21 rfl rfl ?_
      refine xr_getR B xg_X4_12 xh_35 rfl dX4_fewestLoaves_22 ?_
      refine xr_iload_n B dX4_fewestLoaves_25 rfl rfl ?_
      refine xr_cVi B (rest := []) [.int a1] xm_X9_top xv_X4_33 (fun q hq => xc_X9_top l D ad ca t2.2 36 a1 ⟨xh_36, xh_37⟩ q hq) xh_36 rfl rfl (by decide) rfl (Nat.le_of_ble_eq_true rfl) dX4_fewestLoaves_26 hf (fun v6 hf => ?_)
      refine xr_iload B dX4_fewestLoaves_29 rfl ?_
      refine xr_ic_ne B (tgt := 37) dX4_fewestLoaves_31 (by decide) hf (fun _ hf => ?_) (fun _ hf => ?_)
      · refine xr_iload B dX4_fewestLoaves_34 rfl ?_
        obtain rfl := Option.some.inj hf
        exact RR _ _ _ dX4_fewestLoaves_36 rfl
      · refine xr_aload_n B dX4_fewestLoaves_37 rfl rfl ?_
        refine xr_getR B xg_X4_12 xh_35 rfl dX4_fewestLoaves_38 ?_
        refine xr_iload_n B dX4_fewestLoaves_41 rfl rfl ?_
        refine xr_iload B dX4_fewestLoaves_42 rfl ?_
        refine xr_aload_n B dX4_fewestLoaves_44 rfl rfl ?_
        refine xr_getI B xg_X4_37 xh_9 rfl dX4_fewestLoaves_45 ?_
        refine xr_cVI B (rest := []) [.int a1, .int a2, .int (t2.2.1 9 1)] xm_X9_grow xv_X4_43 (fun q hq => xc_X9_grow l D ad ca t2.2 36 a1 a2 (t2.2.1 9 1) ⟨xh_36, xh_37⟩ q hq) xh_36 rfl rfl (by decide) rfl (Nat.le_of_ble_eq_true rfl) dX4_fewestLoaves_48 hf (fun p7 hf => ?_)
        refine xr_pop B dX4_fewestLoaves_51 rfl ?_
        refine xr_iinc B (v := (t2.1 + 1)) (lv2 := [some (.ref (ad 35)), some (.ref (ad 9)), none, some (.int a1), some (.int a2), some (.int (t2.1 + 1))]) dX4_fewestLoaves_52 rfl (congrArg (t2.1 + ·) (by decide : Int32.ofInt (1) = 1)) (by decide) rfl ?_
        refine xr_goto B (tgt := 14) dX4_fewestLoaves_55 (by decide) ?_
        exact hrec3 (t2.1 + 1) p7.2 hf
