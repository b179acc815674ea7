noncomputable def xf_X1_add (σ : xr_S) (a1 : Int32) : Option (Int32 × xr_S) := if (σ.1 39 0) < 8 then (xr_st σ 40 8 (σ.1 39 0) a1 (fun s1 => xr_pf s1 39 0 ((s1.1 39 0) + 1) (fun s2 => some (1, s2)))) else (some (0, σ))
set_option maxRecDepth 100000 in
set_option maxHeartbeats 4000000 in
theorem xc_X1_add (l : Launch) (D : va_G) (ad : Nat → Nat) (ca : Nat → ClassId) (σ : xr_S) (a1 : Int32) (q : (Int32 × xr_S)) (hf : xf_X1_add σ a1 = some q) : xr_M l D ad ca yX1_add cX1_add 2 (some .boolean) 0 0 [.ref (ad 39), .int a1] σ (some (.int q.1)) q.2 := by
  refine xr_openZ [some (.ref (ad 39)), some (.int a1)] xm_X1_add (Nat.le_of_ble_eq_true rfl) rfl (fun J B RR => ?_)
  unfold xf_X1_add at hf
  refine xr_aload_n B dX1_add_0 rfl rfl ?_
  refine xr_getI B xg_X1_15 xh_39 rfl dX1_add_1 ?_
  refine xr_bipush B (v := 8) dX1_add_4 (by decide) ?_
  refine xr_ic_lt B (tgt := 11) dX1_add_6 (by decide) hf (fun _ hf => ?_) (fun _ hf => ?_)
  · refine xr_aload_n B dX1_add_11 rfl rfl ?_
    refine xr_getR B xg_X1_9 xh_39 rfl dX1_add_12 ?_
    refine xr_aload_n B dX1_add_15 rfl rfl ?_
    refine xr_getI B xg_X1_15 xh_39 rfl dX1_add_16 ?_
    refine xr_iload_n B dX1_add_19 rfl rfl ?_
    refine xq_iast B xh_40 dX1_add_20 hf (fun s1 hf => ?_)
    refine xr_aload_n B dX1_add_21 rfl rfl ?_
    refine xr_dup B dX1_add_22 rfl ?_
    refine xr_getI B xg_X1_15 xh_39 rfl dX1_add_23 ?_
    refine xr_iconst B (v := 1) dX1_add_26 (by decide) ?_
    refine xr_iadd B dX1_add_27 ?_
    refine xq_put B xp_X1_15 rfl rfl xh_39 rfl dX1_add_28 hf (fun s2 hf => ?_)
    refine xr_iconst B (v := 1) dX1_add_31 (by decide) ?_
    obtain rfl := Option.some.inj hf
    exact RR _ _ _ (by decide) dX1_add_32 rfl
  · refine xr_iconst B (v := 0) dX1_add_9 (by decide) ?_
    obtain rfl := Option.some.inj hf
    exact RR _ _ _ (by decide) dX1_add_10 rfl

noncomputable def xf_X1_dreamsAll_L2 (σ : xr_S) (a1 : Int32) (K4 : Unit → Option Int32) (t1 : Int32) (rec2 : Int32 → Option Int32) : Option Int32 := if (σ.1 39 0) ≤ t1 then (K4 ()) else (xr_ld σ 40 8 t1 (fun v5 => (xf_X9_of σ 16 a1 v5).bind (fun v6 => if v6 = 0 then (some 0) else (rec2 (t1 + 1)))))
noncomputable def xf_X1_dreamsAll (σ : xr_S) (a1 : Int32) : Option Int32 := xr_lw (xf_X1_dreamsAll_L2 σ a1 (fun (e3 : Unit) => some 1)) 0
set_option maxRecDepth 100000 in
set_option maxHeartbeats 4000000 in
theorem xc_X1_dreamsAll (l : Launch) (D : va_G) (ad : Nat → Nat) (ca : Nat → ClassId) (σ : xr_S) (a1 : Int32) (q : Int32) (hf : xf_X1_dreamsAll σ a1 = some q) : xr_M l D ad ca yX1_dreamsAll cX1_dreamsAll 4 (some .boolean) 1 23 [.ref (ad 39), .ref (ad 16), .int a1] σ (some (.int q)) σ := by
  refine xr_openZ [some (.ref (ad 39)), some (.ref (ad 16)), some (.int a1), none] xm_X1_dreamsAll (Nat.le_of_ble_eq_true rfl) rfl (fun J B RR => ?_)
  unfold xf_X1_dreamsAll at hf
  refine xr_iconst B (v := 0) dX1_dreamsAll_0 (by decide) ?_
  refine xr_istore_n B (lv2 := [some (.ref (ad 39)), some (.ref (ad 16)), some (.int a1), some (.int 0)]) dX1_dreamsAll_1 rfl (by decide) rfl ?_
  refine xq_loop (fun (t1 : Int32) => J 2 [some (.ref (ad 39)), some (.ref (ad 16)), some (.int a1), some (.int t1)] [] σ) (fun (e3 : Unit) => J 32 [none, none, none, none] [] σ) hf (fun e3 hf => ?_) (fun K4 hK4 t1 rec2 hrec2 hf => ?_)
  · refine xr_iconst B (v := 1) dX1_dreamsAll_32 (by decide) ?_
    obtain rfl := Option.some.inj hf
    exact RR _ _ _ (by decide) dX1_dreamsAll_33 rfl
  · unfold xf_X1_dreamsAll_L2 at hf
    refine xr_iload_n B dX1_dreamsAll_2 rfl rfl ?_
    refine xr_aload_n B dX1_dreamsAll_3 rfl rfl ?_
    refine xr_getI B xg_X1_15 xh_39 rfl dX1_dreamsAll_4 ?_
    refine xr_ic_ge B (tgt := 32) dX1_dreamsAll_7 (by decide) hf (fun _ hf => ?_) (fun _ hf => ?_)
    · refine xr_forget B (lv2 := [none, none, none, none]) trivial ?_
      exact hK4 () hf
    · refine xr_aload_n B dX1_dreamsAll_10 rfl rfl ?_
      refine xr_iload_n B dX1_dreamsAll_11 rfl rfl ?_
      refine xr_aload_n B dX1_dreamsAll_12 rfl rfl ?_
      refine xr_getR B xg_X1_9 xh_39 rfl dX1_dreamsAll_13 ?_
      refine xr_iload_n B dX1_dreamsAll_16 rfl rfl ?_
      refine xq_iald B xh_40 dX1_dreamsAll_17 hf (fun v5 hf => ?_)
      refine xr_cVi B (rest := []) [.int a1, .int v5] xm_X9_of xv_X1_34 (fun q hq => xc_X9_of l D ad ca σ 16 a1 v5 ⟨xh_16, xh_17⟩ q hq) xh_16 rfl rfl (by decide) rfl (Nat.le_of_ble_eq_true rfl) dX1_dreamsAll_18 hf (fun v6 hf => ?_)
      refine xr_if_ne B (tgt := 26) dX1_dreamsAll_21 (by decide) hf (fun _ hf => ?_) (fun _ hf => ?_)
      · refine xr_iconst B (v := 0) dX1_dreamsAll_24 (by decide) ?_
        obtain rfl := Option.some.inj hf
        exact RR _ _ _ (by decide) dX1_dreamsAll_25 rfl
      · refine xr_iinc B (v := (t1 + 1)) (lv2 := [some (.ref (ad 39)), some (.ref (ad 16)), some (.int a1), some (.int (t1 + 1))]) dX1_dreamsAll_26 rfl (congrArg (t1 + ·) (by decide : Int32.ofInt (1) = 1)) (by decide) rfl ?_
        refine xr_goto B (tgt := 2) dX1_dreamsAll_29 (by decide) ?_
        exact hrec2 (t1 + 1) hf

noncomputable def xf_X1_possible_L5 (σ : xr_S) (K4 : Int32 → Option Int32) (t1 : (Int32 × Int32)) (rec2 : (Int32 × Int32) → Option Int32) : Option Int32 := if (σ.1 9 2) ≤ t1.2 then (K4 t1.1) else ((xf_X1_dreamsAll σ t1.2).bind (fun v5 => xr_jn (fun (w6 : Int32) => rec2 (w6, (t1.2 + 1))) (fun j7 => if v5 = 0 then (j7 t1.1) else (xr_v ((t1.1 ||| ((1 : Int32) <<< (t1.2 &&& 31)))) (fun v9 => j7 v9)))))
noncomputable def xf_X1_possible (σ : xr_S) : Option Int32 := xr_lw (xf_X1_possible_L5 σ (fun (e3 : Int32) => some e3)) (0, 0)
set_option maxRecDepth 100000 in
set_option maxHeartbeats 4000000 in
theorem xc_X1_possible (l : Launch) (D : va_G) (ad : Nat → Nat) (ca : Nat → ClassId) (σ : xr_S) (q : Int32) (hf : xf_X1_possible σ = some q) : xr_M l D ad ca yX1_possible cX1_possible 5 (some .int) 2 46 [.ref (ad 39), .ref (ad 9), .ref (ad 16)] σ (some (.int q)) σ := by
  refine xr_openI [some (.ref (ad 39)), some (.ref (ad 9)), some (.ref (ad 16)), none, none] xm_X1_possible (Nat.le_of_ble_eq_true rfl) rfl (fun J B RR => ?_)
  unfold xf_X1_possible at hf
  refine xr_iconst B (v := 0) dX1_possible_0 (by decide) ?_
  refine xr_istore_n B (lv2 := [some (.ref (ad 39)), some (.ref (ad 9)), some (.ref (ad 16)), some (.int 0), none]) dX1_possible_1 rfl (by decide) rfl ?_
  refine xr_iconst B (v := 0) dX1_possible_2 (by decide) ?_
  refine xr_istore B (lv2 := [some (.ref (ad 39)), some (.ref (ad 9)), some (.ref (ad 16)), some (.int 0), some (.int 0)]) dX1_possible_3 (by decide) rfl ?_
  refine xq_loop (fun (t1 : (Int32 × Int32)) => J 5 [some (.ref (ad 39)), some (.ref (ad 9)), some (.ref (ad 16)), some (.int t1.1), some (.int t1.2)] [] σ) (fun (e3 : Int32) => J 37 [none, none, none, some (.int e3), none] [] σ) hf (fun e3 hf => ?_) (fun K4 hK4 t1 rec2 hrec2 hf => ?_)
  · refine xr_iload_n B dX1_possible_37 rfl rfl ?_
    obtain rfl := Option.some.inj hf
    exact RR _ _ _ dX1_possible_38 rfl
  · have hrec2 : ∀ (b1 : Int32) (b2 : Int32), rec2 (b1, b2) = some q → J 5 [some (.ref (ad 39)), some (.ref (ad 9)), some (.ref (ad 16)), some (.int b1), some (.int b2)] [] σ := fun b1 b2 h => hrec2 (b1, b2) h
    unfold xf_X1_possible_L5 at hf
    refine xr_iload B dX1_possible_5 rfl ?_
    refine xr_aload_n B dX1_possible_7 rfl rfl ?_
    refine xr_getI B xg_X1_19 xh_9 rfl dX1_possible_8 ?_
    refine xr_ic_ge B (tgt := 37) dX1_possible_11 (by decide) hf (fun _ hf => ?_) (fun _ hf => ?_)
    · refine xr_forget B (lv2 := [none, none, none, some (.int t1.1), none]) ⟨rfl, trivial⟩ ?_
      exact hK4 t1.1 hf
    · refine xr_aload_n B dX1_possible_14 rfl rfl ?_
      refine xr_aload_n B dX1_possible_15 rfl rfl ?_
      refine xr_iload B dX1_possible_16 rfl ?_
      refine xr_cVi B (rest := []) [.ref (ad 16), .int t1.2] xm_X1_dreamsAll xv_X1_24 (fun q hq => xc_X1_dreamsAll l D ad ca σ t1.2 q hq) xh_39 rfl rfl (by decide) rfl (Nat.le_of_ble_eq_true rfl) dX1_possible_18 hf (fun v5 hf => ?_)
      refine xr_meet (fun (w6 : Int32) => J 31 [some (.ref (ad 39)), some (.ref (ad 9)), some (.ref (ad 16)), some (.int w6), some (.int t1.2)] [] σ) hf (fun w6 hf => ?_) (fun j7 hj7 hf => ?_)
      · refine xr_iinc B (v := (t1.2 + 1)) (lv2 := [some (.ref (ad 39)), some (.ref (ad 9)), some (.ref (ad 16)), some (.int w6), some (.int (t1.2 + 1))]) dX1_possible_31 rfl (congrArg (t1.2 + ·) (by decide : Int32.ofInt (1) = 1)) (by decide) rfl ?_
        refine xr_goto B (tgt := 5) dX1_possible_34 (by decide) ?_
        exact hrec2 w6 (t1.2 + 1) hf
      · refine xr_if_eq B (tgt := 31) dX1_possible_21 (by decide) hf (fun _ hf => ?_) (fun _ hf => ?_)
        · exact hj7 t1.1 hf
        · refine xr_iload_n B dX1_possible_24 rfl rfl ?_
          refine xr_iconst B (v := 1) dX1_possible_25 (by decide) ?_
          refine xr_iload B dX1_possible_26 rfl ?_
          refine xr_ishl B dX1_possible_28 ?_
          refine xr_ior B dX1_possible_29 ?_
          refine xr_top _ hf (fun v9 hf => ?_)
          refine xr_istore_n B (lv2 := [some (.ref (ad 39)), some (.ref (ad 9)), some (.ref (ad 16)), some (.int v9), some (.int t1.2)]) dX1_possible_30 rfl (by decide) rfl ?_
          exact hj7 v9 hf

noncomputable def xf_X1_partOf_L20 (σ : xr_S) (a1 : Int32) (v1 : Int32) (K5 : Int64 → Option Int64) (t2 : (Int64 × Int32)) (rec3 : (Int64 × Int32) → Option Int64) : Option Int64 := if (σ.1 39 0) ≤ t2.2 then (K5 t2.1) else (xr_ld σ 40 8 t2.2 (fun v6 => (xf_X9_of σ 16 a1 v6).bind (fun v7 => xr_nl (Int32.toInt64 v1) (xr_v (((t2.1 * (Int32.toInt64 v7)) / (Int32.toInt64 v1))) (fun v8 => rec3 (v8, (t2.2 + 1)))))))
noncomputable def xf_X1_partOf (σ : xr_S) (a1 : Int32) : Option Int64 := (xf_X9_all σ 16 a1).bind (fun v1 => if 0 < v1 then (xr_lw (xf_X1_partOf_L20 σ a1 v1 (fun (e4 : Int64) => some e4)) (1000000000, 0)) else (some 0))
set_option maxRecDepth 100000 in
set_option maxHeartbeats 4000000 in
theorem xc_X1_partOf (l : Launch) (D : va_G) (ad : Nat → Nat) (ca : Nat → ClassId) (σ : xr_S) (a1 : Int32) (q : Int64) (hf : xf_X1_partOf σ a1 = some q) : xr_M l D ad ca yX1_partOf cX1_partOf 7 (some .long) 1 23 [.ref (ad 39), .ref (ad 16), .int a1] σ (some (.long q)) σ := by
  refine xr_openL [some (.ref (ad 39)), some (.ref (ad 16)), some (.int a1), none, none, none, none] xm_X1_partOf (Nat.le_of_ble_eq_true rfl) rfl (fun J B RR => ?_)
  unfold xf_X1_partOf at hf
  refine xr_aload_n B dX1_partOf_0 rfl rfl ?_
  refine xr_iload_n B dX1_partOf_1 rfl rfl ?_
  refine xr_cVi B (rest := []) [.int a1] xm_X9_all xv_X1_40 (fun q hq => xc_X9_all l D ad ca σ 16 a1 ⟨xh_16, xh_17⟩ q hq) xh_16 rfl rfl (by decide) rfl (Nat.le_of_ble_eq_true rfl) dX1_partOf_2 hf (fun v1 hf => ?_)
  refine xr_istore_n B (lv2 := [some (.ref (ad 39)), some (.ref (ad 16)), some (.int a1), some (.int v1), none, none, none]) dX1_partOf_5 rfl (by decide) rfl ?_
  refine xr_iload_n B dX1_partOf_6 rfl rfl ?_
  refine xr_if_gt B (tgt := 12) dX1_partOf_7 (by decide) hf (fun _ hf => ?_) (fun _ hf => ?_)
  · refine xr_ldc2 B xl_X1_44 dX1_partOf_12 ?_
    refine xr_lstore B (lv2 := [some (.ref (ad 39)), some (.ref (ad 16)), some (.int a1), some (.int v1), some (.long 1000000000), none, none]) dX1_partOf_15 (by decide) rfl ?_
    refine xr_iconst B (v := 0) dX1_partOf_17 (by decide) ?_
    refine xr_istore B (lv2 := [some (.ref (ad 39)), some (.ref (ad 16)), some (.int a1), some (.int v1), some (.long 1000000000), none, some (.int 0)]) dX1_partOf_18 (by decide) rfl ?_
    refine xq_loop (fun (t2 : (Int64 × Int32)) => J 20 [some (.ref (ad 39)), some (.ref (ad 16)), some (.int a1), some (.int v1), some (.long t2.1), none, some (.int t2.2)] [] σ) (fun (e4 : Int64) => J 56 [none, none, none, none, some (.long e4), none, none] [] σ) hf (fun e4 hf => ?_) (fun K5 hK5 t2 rec3 hrec3 hf => ?_)
    · refine xr_lload B dX1_partOf_56 rfl ?_
      obtain rfl := Option.some.inj hf
      exact RR _ _ _ dX1_partOf_58 rfl
    · have hrec3 : ∀ (b1 : Int64) (b2 : Int32), rec3 (b1, b2) = some q → J 20 [some (.ref (ad 39)), some (.ref (ad 16)), some (.int a1), some (.int v1), some (.long b1), none, some (.int b2)] [] σ := fun b1 b2 h => hrec3 (b1, b2) h
      unfold xf_X1_partOf_L20 at hf
      refine xr_iload B dX1_partOf_20 rfl ?_
      refine xr_aload_n B dX1_partOf_22 rfl rfl ?_
      refine xr_getI B xg_X1_15 xh_39 rfl dX1_partOf_23 ?_
      refine xr_ic_ge B (tgt := 56) dX1_partOf_26 (by decide) hf (fun _ hf => ?_) (fun _ hf => ?_)
      · refine xr_forget B (lv2 := [none, none, none, none, some (.long t2.1), none, none]) ⟨rfl, trivial⟩ ?_
        exact hK5 t2.1 hf
      · refine xr_lload B dX1_partOf_29 rfl ?_
        refine xr_aload_n B dX1_partOf_31 rfl rfl ?_
        refine xr_iload_n B dX1_partOf_32 rfl rfl ?_
        refine xr_aload_n B dX1_partOf_33 rfl rfl ?_
        refine xr_getR B xg_X1_9 xh_39 rfl dX1_partOf_34 ?_
        refine xr_iload B dX1_partOf_37 rfl ?_
        refine xq_iald B xh_40 dX1_partOf_39 hf (fun v6 hf => ?_)
        refine xr_cVi B (rest := [.long t2.1]) [.int a1, .int v6] xm_X9_of xv_X1_34 (fun q hq => xc_X9_of l D ad ca σ 16 a1 v6 ⟨xh_16, xh_17⟩ q hq) xh_16 rfl rfl (by decide) rfl (Nat.le_of_ble_eq_true rfl) dX1_partOf_40 hf (fun v7 hf => ?_)
        refine xr_i2l B dX1_partOf_43 ?_
        refine xr_lmul B dX1_partOf_44 ?_
        refine xr_iload_n B dX1_partOf_45 rfl rfl ?_
        refine xr_i2l B dX1_partOf_46 ?_
        refine xr_ldiv B dX1_partOf_47 hf (fun hf => ?_)
        refine xr_topl _ hf (fun v8 hf => ?_)
        refine xr_lstore B (lv2 := [some (.ref (ad 39)), some (.ref (ad 16)), some (.int a1), some (.int v1), some (.long v8), none, some (.int t2.2)]) dX1_partOf_48 (by decide) rfl ?_
        refine xr_iinc B (v := (t2.2 + 1)) (lv2 := [some (.ref (ad 39)), some (.ref (ad 16)), some (.int a1), some (.int v1), some (.long v8), none, some (.int (t2.2 + 1))]) dX1_partOf_50 rfl (congrArg (t2.2 + ·) (by decide : Int32.ofInt (1) = 1)) (by decide) rfl ?_
        refine xr_goto B (tgt := 20) dX1_partOf_53 (by decide) ?_
        exact hrec3 v8 (t2.2 + 1) hf
  · refine xr_lconst B (v := 0) dX1_partOf_10 (by decide) ?_
    obtain rfl := Option.some.inj hf
    exact RR _ _ _ dX1_partOf_11 rfl

noncomputable def xf_X1_greatest_L8 (σ : xr_S) (K4 : Int32 → Option Int32) (t1 : (Int32 × Int64 × Int32)) (rec2 : (Int32 × Int64 × Int32) → Option Int32) : Option Int32 := if (σ.1 9 2) ≤ t1.2.2 then (K4 t1.1) else ((xf_X1_partOf σ t1.2.2).bind (fun v5 => xr_jn (fun (w6 : (Int32 × Int64)) => rec2 (w6.1, w6.2, (t1.2.2 + 1))) (fun j7 => if (lg_cmp v5 t1.2.1) ≤ 0 then (j7 (t1.1, t1.2.1)) else (j7 (t1.2.2, v5)))))
noncomputable def xf_X1_greatest (σ : xr_S) : Option Int32 := xr_lw (xf_X1_greatest_L8 σ (fun (e3 : Int32) => some e3)) ((-1), 0, 0)
set_option maxRecDepth 100000 in
set_option maxHeartbeats 4000000 in
theorem xc_X1_greatest (l : Launch) (D : va_G) (ad : Nat → Nat) (ca : Nat → ClassId) (σ : xr_S) (q : Int32) (hf : xf_X1_greatest σ = some q) : xr_M l D ad ca yX1_greatest cX1_greatest 9 (some .int) 2 49 [.ref (ad 39), .ref (ad 9), .ref (ad 16)] σ (some (.int q)) σ := by
  refine xr_openI [some (.ref (ad 39)), some (.ref (ad 9)), some (.ref (ad 16)), none, none, none, none, none, none] xm_X1_greatest (Nat.le_of_ble_eq_true rfl) rfl (fun J B RR => ?_)
  unfold xf_X1_greatest at hf
  refine xr_iconst B (v := (-1)) dX1_greatest_0 (by decide) ?_
  refine xr_istore_n B (lv2 := [some (.ref (ad 39)), some (.ref (ad 9)), some (.ref (ad 16)), some (.int (-1)), none, none, none, none, none]) dX1_greatest_1 rfl (by decide) rfl ?_
  refine xr_lconst B (v := 0) dX1_greatest_2 (by decide) ?_
  refine xr_lstore B (lv2 := [some (.ref (ad 39)), some (.ref (ad 9)), some (.ref (ad 16)), some (.int (-1)), some (.long 0), none, none, none, none]) dX1_greatest_3 (by decide) rfl ?_
  refine xr_iconst B (v := 0) dX1_greatest_5 (by decide) ?_
  refine xr_istore B (lv2 := [some (.ref (ad 39)), some (.ref (ad 9)), some (.ref (ad 16)), some (.int (-1)), some (.long 0), none, some (.int 0), none, none]) dX1_greatest_6 (by decide) rfl ?_
  refine xq_loop (fun (t1 : (Int32 × Int64 × Int32)) => J 8 [some (.ref (ad 39)), some (.ref (ad 9)), some (.ref (ad 16)), some (.int t1.1), some (.long t1.2.1), none, some (.int t1.2.2), none, none] [] σ) (fun (e3 : Int32) => J 47 [none, none, none, some (.int e3), none, none, none, none, none] [] σ) hf (fun e3 hf => ?_) (fun K4 hK4 t1 rec2 hrec2 hf => ?_)
  · refine xr_iload_n B dX1_greatest_47 rfl rfl ?_
    obtain rfl := Option.some.inj hf
    exact RR _ _ _ dX1_greatest_48 rfl
  · have hrec2 : ∀ (b1 : Int32) (b2 : Int64) (b3 : Int32), rec2 (b1, b2, b3) = some q → J 8 [some (.ref (ad 39)), some (.ref (ad 9)), some (.ref (ad 16)), some (.int b1), some (.long b2), none, some (.int b3), none, none] [] σ := fun b1 b2 b3 h => hrec2 (b1, b2, b3) h
    unfold xf_X1_greatest_L8 at hf
    refine xr_iload B dX1_greatest_8 rfl ?_
    refine xr_aload_n B dX1_greatest_10 rfl rfl ?_
    refine xr_getI B xg_X1_19 xh_9 rfl dX1_greatest_11 ?_
    refine xr_ic_ge B (tgt := 47) dX1_greatest_14 (by decide) hf (fun _ hf => ?_) (fun _ hf => ?_)
    · refine xr_forget B (lv2 := [none, none, none, some (.int t1.1), none, none, none, none, none]) ⟨rfl, trivial⟩ ?_
      exact hK4 t1.1 hf
    · refine xr_aload_n B dX1_greatest_17 rfl rfl ?_
      refine xr_aload_n B dX1_greatest_18 rfl rfl ?_
      refine xr_iload B dX1_greatest_19 rfl ?_
      refine xr_cVl B (rest := []) [.ref (ad 16), .int t1.2.2] xm_X1_partOf xv_X1_28 (fun q hq => xc_X1_partOf l D ad ca σ t1.2.2 q hq) xh_39 rfl rfl (by decide) rfl (Nat.le_of_ble_eq_true rfl) dX1_greatest_21 hf (fun v5 hf => ?_)
      refine xr_lstore B (lv2 := [some (.ref (ad 39)), some (.ref (ad 9)), some (.ref (ad 16)), some (.int t1.1), some (.long t1.2.1), none, some (.int t1.2.2), some (.long v5), none]) dX1_greatest_24 (by decide) rfl ?_
      refine xr_lload B dX1_greatest_26 rfl ?_
      refine xr_lload B dX1_greatest_28 rfl ?_
      refine xr_lcmp B dX1_greatest_30 ?_
      refine xr_meet (fun (w6 : (Int32 × Int64)) => J 41 [some (.ref (ad 39)), some (.ref (ad 9)), some (.ref (ad 16)), some (.int w6.1), some (.long w6.2), none, some (.int t1.2.2), none, none] [] σ) hf (fun w6 hf => ?_) (fun j7 hj7 hf => ?_)
      · refine xr_iinc B (v := (t1.2.2 + 1)) (lv2 := [some (.ref (ad 39)), some (.ref (ad 9)), some (.ref (ad 16)), some (.int w6.1), some (.long w6.2), none, some (.int (t1.2.2 + 1)), none, none]) dX1_greatest_41 rfl (congrArg (t1.2.2 + ·) (by decide : Int32.ofInt (1) = 1)) (by decide) rfl ?_
        refine xr_goto B (tgt := 8) dX1_greatest_44 (by decide) ?_
        exact hrec2 w6.1 w6.2 (t1.2.2 + 1) hf
      · have hj7 : ∀ (b1 : Int32) (b2 : Int64), j7 (b1, b2) = some q → J 41 [some (.ref (ad 39)), some (.ref (ad 9)), some (.ref (ad 16)), some (.int b1), some (.long b2), none, some (.int t1.2.2), none, none] [] σ := fun b1 b2 h => hj7 (b1, b2) h
        refine xr_if_le B (tgt := 41) dX1_greatest_31 (by decide) hf (fun _ hf => ?_) (fun _ hf => ?_)
        · refine xr_forget B (lv2 := [some (.ref (ad 39)), some (.ref (ad 9)), some (.ref (ad 16)), some (.int t1.1), some (.long t1.2.1), none, some (.int t1.2.2), none, none]) ⟨rfl, ⟨rfl, ⟨rfl, ⟨rfl, ⟨rfl, ⟨rfl, trivial⟩⟩⟩⟩⟩⟩ ?_
          exact hj7 t1.1 t1.2.1 hf
        · refine xr_lload B dX1_greatest_34 rfl ?_
          refine xr_lstore B (lv2 := [some (.ref (ad 39)), some (.ref (ad 9)), some (.ref (ad 16)), some (.int t1.1), some (.long v5), none, some (.int t1.2.2), some (.long v5), none]) dX1_greatest_36 (by decide) rfl ?_
          refine xr_iload B dX1_greatest_38 rfl ?_
          refine xr_istore_n B (lv2 := [some (.ref (ad 39)), some (.ref (ad 9)), some (.ref (ad 16)), some (.int t1.2.2), some (.long v5), none, some (.int t1.2.2), some (.long v5), none]) dX1_greatest_40 rfl (by decide) rfl ?_
          refine xr_forget B (lv2 := [some (.ref (ad 39)), some (.ref (ad 9)), some (.ref (ad 16)), some (.int t1.2.2), some (.long v5), none, some (.int t1.2.2), none, none]) ⟨rfl, ⟨rfl, ⟨rfl, ⟨rfl, ⟨rfl, ⟨rfl, trivial⟩⟩⟩⟩⟩⟩ ?_
          exact hj7 t1.2.2 v5 hf

noncomputable def xf_X1_share_L6 (σ : xr_S) (K4 : Int64 → Option Int32) (t1 : (Int64 × Int32)) (rec2 : (Int64 × Int32) → Option Int32) : Option Int32 := if (σ.1 9 2) ≤ t1.2 then (K4 t1.1) else ((xf_X1_partOf σ t1.2).bind (fun v5 => xr_v ((t1.1 + v5)) (fun v6 => rec2 (v6, (t1.2 + 1)))))
noncomputable def xf_X1_share (σ : xr_S) (a1 : Int32) : Option Int32 := xr_lw (xf_X1_share_L6 σ (fun (e3 : Int64) => if (lg_cmp e3 0) ≤ 0 then (some 0) else ((xf_X1_partOf σ a1).bind (fun v8 => xr_nl e3 (some (Int64.toInt32 ((v8 * 1000000) / e3))))))) (0, 0)
set_option maxRecDepth 100000 in
set_option maxHeartbeats 4000000 in
theorem xc_X1_share (l : Launch) (D : va_G) (ad : Nat → Nat) (ca : Nat → ClassId) (σ : xr_S) (a1 : Int32) (q : Int32) (hf : xf_X1_share σ a1 = some q) : xr_M l D ad ca yX1_share cX1_share 7 (some .int) 2 49 [.ref (ad 39), .ref (ad 9), .ref (ad 16), .int a1] σ (some (.int q)) σ := by
  refine xr_openI [some (.ref (ad 39)), some (.ref (ad 9)), some (.ref (ad 16)), some (.int a1), none, none, none] xm_X1_share (Nat.le_of_ble_eq_true rfl) rfl (fun J B RR => ?_)
  unfold xf_X1_share at hf
  refine xr_lconst B (v := 0) dX1_share_0 (by decide) ?_
  refine xr_lstore B (lv2 := [some (.ref (ad 39)), some (.ref (ad 9)), some (.ref (ad 16)), some (.int a1), some (.long 0), none, none]) dX1_share_1 (by decide) rfl ?_
  refine xr_iconst B (v := 0) dX1_share_3 (by decide) ?_
  refine xr_istore B (lv2 := [some (.ref (ad 39)), some (.ref (ad 9)), some (.ref (ad 16)), some (.int a1), some (.long 0), none, some (.int 0)]) dX1_share_4 (by decide) rfl ?_
  refine xq_loop (fun (t1 : (Int64 × Int32)) => J 6 [some (.ref (ad 39)), some (.ref (ad 9)), some (.ref (ad 16)), some (.int a1), some (.long t1.1), none, some (.int t1.2)] [] σ) (fun (e3 : Int64) => J 33 [some (.ref (ad 39)), none, some (.ref (ad 16)), some (.int a1), some (.long e3), none, none] [] σ) hf (fun e3 hf => ?_) (fun K4 hK4 t1 rec2 hrec2 hf => ?_)
  · refine xr_lload B dX1_share_33 rfl ?_
    refine xr_lconst B (v := 0) dX1_share_35 (by decide) ?_
    refine xr_lcmp B dX1_share_36 ?_
    refine xr_if_le B (tgt := 57) dX1_share_37 (by decide) hf (fun _ hf => ?_) (fun _ hf => ?_)
    · refine xr_iconst B (v := 0) dX1_share_57 (by decide) ?_
      obtain rfl := Option.some.inj hf
      exact RR _ _ _ dX1_share_58 rfl
    · refine xr_aload_n B dX1_share_40 rfl rfl ?_
      refine xr_aload_n B dX1_share_41 rfl rfl ?_
      refine xr_iload_n B dX1_share_42 rfl rfl ?_
      refine xr_cVl B (rest := []) [.ref (ad 16), .int a1] xm_X1_partOf xv_X1_28 (fun q hq => xc_X1_partOf l D ad ca σ a1 q hq) xh_39 rfl rfl (by decide) rfl (Nat.le_of_ble_eq_true rfl) dX1_share_43 hf (fun v8 hf => ?_)
      refine xr_ldc2 B xl_X1_32 dX1_share_46 ?_
      refine xr_lmul B dX1_share_49 ?_
      refine xr_lload B dX1_share_50 rfl ?_
      refine xr_ldiv B dX1_share_52 hf (fun hf => ?_)
      refine xr_l2i B dX1_share_53 ?_
      refine xr_goto B (tgt := 58) dX1_share_54 (by decide) ?_
      obtain rfl := Option.some.inj hf
      exact RR _ _ _ dX1_share_58 rfl
  · have hrec2 : ∀ (b1 : Int64) (b2 : Int32), rec2 (b1, b2) = some q → J 6 [some (.ref (ad 39)), some (.ref (ad 9)), some (.ref (ad 16)), some (.int a1), some (.long b1), none, some (.int b2)] [] σ := fun b1 b2 h => hrec2 (b1, b2) h
    unfold xf_X1_share_L6 at hf
    refine xr_iload B dX1_share_6 rfl ?_
    refine xr_aload_n B dX1_share_8 rfl rfl ?_
    refine xr_getI B xg_X1_19 xh_9 rfl dX1_share_9 ?_
    refine xr_ic_ge B (tgt := 33) dX1_share_12 (by decide) hf (fun _ hf => ?_) (fun _ hf => ?_)
    · refine xr_forget B (lv2 := [some (.ref (ad 39)), none, some (.ref (ad 16)), some (.int a1), some (.long t1.1), none, none]) ⟨rfl, ⟨rfl, ⟨rfl, ⟨rfl, trivial⟩⟩⟩⟩ ?_
      exact hK4 t1.1 hf
    · refine xr_lload B dX1_share_15 rfl ?_
      refine xr_aload_n B dX1_share_17 rfl rfl ?_
      refine xr_aload_n B dX1_share_18 rfl rfl ?_
      refine xr_iload B dX1_share_19 rfl ?_
      refine xr_cVl B (rest := [.long t1.1]) [.ref (ad 16), .int t1.2] xm_X1_partOf xv_X1_28 (fun q hq => xc_X1_partOf l D ad ca σ t1.2 q hq) xh_39 rfl rfl (by decide) rfl (Nat.le_of_ble_eq_true rfl) dX1_share_21 hf (fun v5 hf => ?_)
      refine xr_ladd B dX1_share_24 ?_
      refine xr_topl _ hf (fun v6 hf => ?_)
      refine xr_lstore B (lv2 := [some (.ref (ad 39)), some (.ref (ad 9)), some (.ref (ad 16)), some (.int a1), some (.long v6), none, some (.int t1.2)]) dX1_share_25 (by decide) rfl ?_
      refine xr_iinc B (v := (t1.2 + 1)) (lv2 := [some (.ref (ad 39)), some (.ref (ad 9)), some (.ref (ad 16)), some (.int a1), some (.long v6), none, some (.int (t1.2 + 1))]) dX1_share_27 rfl (congrArg (t1.2 + ·) (by decide : Int32.ofInt (1) = 1)) (by decide) rfl ?_
      refine xr_goto B (tgt := 6) dX1_share_30 (by decide) ?_
      exact hrec2 v6 (t1.2 + 1) hf

noncomputable def xf_X2_add (σ : xr_S) (a1 : Int32) (a2 : Int32) (a3 : Int32) : Option (Int32 × xr_S) := if (σ.1 45 0) < 15 then (xr_st σ 46 15 (σ.1 45 0) a1 (fun s1 => xr_st s1 47 15 (s1.1 45 0) a2 (fun s2 => xr_st s2 48 15 (s2.1 45 0) a3 (fun s3 => xr_pf s3 45 0 ((s3.1 45 0) + 1) (fun s4 => some (1, s4)))))) else (some (0, σ))
set_option maxRecDepth 100000 in
set_option maxHeartbeats 4000000 in
theorem xc_X2_add (l : Launch) (D : va_G) (ad : Nat → Nat) (ca : Nat → ClassId) (σ : xr_S) (a1 : Int32) (a2 : Int32) (a3 : Int32) (q : (Int32 × xr_S)) (hf : xf_X2_add σ a1 a2 a3 = some q) : xr_M l D ad ca yX2_add cX2_add 4 (some .boolean) 0 0 [.ref (ad 45), .int a1, .int a2, .int a3] σ (some (.int q.1)) q.2 := by
  refine xr_openZ [some (.ref (ad 45)), some (.int a1), some (.int a2), some (.int a3)] xm_X2_add (Nat.le_of_ble_eq_true rfl) rfl (fun J B RR => ?_)
  unfold xf_X2_add at hf
  refine xr_aload_n B dX2_add_0 rfl rfl ?_
  refine xr_getI B xg_X2_21 xh_45 rfl dX2_add_1 ?_
  refine xr_bipush B (v := 15) dX2_add_4 (by decide) ?_
  refine xr_ic_lt B (tgt := 11) dX2_add_6 (by decide) hf (fun _ hf => ?_) (fun _ hf => ?_)
  · refine xr_aload_n B dX2_add_11 rfl rfl ?_
    refine xr_getR B xg_X2_9 xh_45 rfl dX2_add_12 ?_
    refine xr_aload_n B dX2_add_15 rfl rfl ?_
    refine xr_getI B xg_X2_21 xh_45 rfl dX2_add_16 ?_
    refine xr_iload_n B dX2_add_19 rfl rfl ?_
    refine xq_iast B xh_46 dX2_add_20 hf (fun s1 hf => ?_)
    refine xr_aload_n B dX2_add_21 rfl rfl ?_
    refine xr_getR B xg_X2_15 xh_45 rfl dX2_add_22 ?_
    refine xr_aload_n B dX2_add_25 rfl rfl ?_
    refine xr_getI B xg_X2_21 xh_45 rfl dX2_add_26 ?_
    refine xr_iload_n B dX2_add_29 rfl rfl ?_
    refine xq_iast B xh_47 dX2_add_30 hf (fun s2 hf => ?_)
    refine xr_aload_n B dX2_add_31 rfl rfl ?_
    refine xr_getR B xg_X2_18 xh_45 rfl dX2_add_32 ?_
    refine xr_aload_n B dX2_add_35 rfl rfl ?_
    refine xr_getI B xg_X2_21 xh_45 rfl dX2_add_36 ?_
    refine xr_iload_n B dX2_add_39 rfl rfl ?_
    refine xq_iast B xh_48 dX2_add_40 hf (fun s3 hf => ?_)
    refine xr_aload_n B dX2_add_41 rfl rfl ?_
    refine xr_dup B dX2_add_42 rfl ?_
    refine xr_getI B xg_X2_21 xh_45 rfl dX2_add_43 ?_
    refine xr_iconst B (v := 1) dX2_add_46 (by decide) ?_
    refine xr_iadd B dX2_add_47 ?_
    refine xq_put B xp_X2_21 rfl rfl xh_45 rfl dX2_add_48 hf (fun s4 hf => ?_)
    refine xr_iconst B (v := 1) dX2_add_51 (by decide) ?_
    obtain rfl := Option.some.inj hf
    exact RR _ _ _ (by decide) dX2_add_52 rfl
  · refine xr_iconst B (v := 0) dX2_add_9 (by decide) ?_
    obtain rfl := Option.some.inj hf
    exact RR _ _ _ (by decide) dX2_add_10 rfl

noncomputable def xf_X2_firstWrong_L2 (σ : xr_S) (K4 : Unit → Option Int32) (t1 : Int32) (rec2 : Int32 → Option Int32) : Option Int32 := if (σ.1 45 0) ≤ t1 then (K4 ()) else (xr_ld σ 46 15 t1 (fun v5 => xr_ld σ 47 15 t1 (fun v6 => (xf_X9_of σ 16 v5 v6).bind (fun v7 => xr_ld σ 48 15 t1 (fun v8 => if v7 = v8 then (rec2 (t1 + 1)) else (some t1))))))
noncomputable def xf_X2_firstWrong (σ : xr_S) : Option Int32 := xr_lw (xf_X2_firstWrong_L2 σ (fun (e3 : Unit) => some (-1))) 0
set_option maxRecDepth 100000 in
set_option maxHeartbeats 4000000 in
theorem xc_X2_firstWrong (l : Launch) (D : va_G) (ad : Nat → Nat) (ca : Nat → ClassId) (σ : xr_S) (q : Int32) (hf : xf_X2_firstWrong σ = some q) : xr_M l D ad ca yX2_firstWrong cX2_firstWrong 3 (some .int) 1 23 [.ref (ad 45), .ref (ad 16)] σ (some (.int q)) σ := by
  refine xr_openI [some (.ref (ad 45)), some (.ref (ad 16)), none] xm_X2_firstWrong (Nat.le_of_ble_eq_true rfl) rfl (fun J B RR => ?_)
  unfold xf_X2_firstWrong at hf
  refine xr_iconst B (v := 0) dX2_firstWrong_0 (by decide) ?_
  refine xr_istore_n B (lv2 := [some (.ref (ad 45)), some (.ref (ad 16)), some (.int 0)]) dX2_firstWrong_1 rfl (by decide) rfl ?_
  refine xq_loop (fun (t1 : Int32) => J 2 [some (.ref (ad 45)), some (.ref (ad 16)), some (.int t1)] [] σ) (fun (e3 : Unit) => J 43 [none, none, none] [] σ) hf (fun e3 hf => ?_) (fun K4 hK4 t1 rec2 hrec2 hf => ?_)
  · refine xr_iconst B (v := (-1)) dX2_firstWrong_43 (by decide) ?_
    obtain rfl := Option.some.inj hf
    exact RR _ _ _ dX2_firstWrong_44 rfl
  · unfold xf_X2_firstWrong_L2 at hf
    refine xr_iload_n B dX2_firstWrong_2 rfl rfl ?_
    refine xr_aload_n B dX2_firstWrong_3 rfl rfl ?_
    refine xr_getI B xg_X2_21 xh_45 rfl dX2_firstWrong_4 ?_
    refine xr_ic_ge B (tgt := 43) dX2_firstWrong_7 (by decide) hf (fun _ hf => ?_) (fun _ hf => ?_)
    · refine xr_forget B (lv2 := [none, none, none]) trivial ?_
      exact hK4 () hf
    · refine xr_aload_n B dX2_firstWrong_10 rfl rfl ?_
      refine xr_aload_n B dX2_firstWrong_11 rfl rfl ?_
      refine xr_getR B xg_X2_9 xh_45 rfl dX2_firstWrong_12 ?_
      refine xr_iload_n B dX2_firstWrong_15 rfl rfl ?_
      refine xq_iald B xh_46 dX2_firstWrong_16 hf (fun v5 hf => ?_)
      refine xr_aload_n B dX2_firstWrong_17 rfl rfl ?_
      refine xr_getR B xg_X2_15 xh_45 rfl dX2_firstWrong_18 ?_
      refine xr_iload_n B dX2_firstWrong_21 rfl rfl ?_
      refine xq_iald B xh_47 dX2_firstWrong_22 hf (fun v6 hf => ?_)
      refine xr_cVi B (rest := []) [.int v5, .int v6] xm_X9_of xv_X2_25 (fun q hq => xc_X9_of l D ad ca σ 16 v5 v6 ⟨xh_16, xh_17⟩ q hq) xh_16 rfl rfl (by decide) rfl (Nat.le_of_ble_eq_true rfl) dX2_firstWrong_23 hf (fun v7 hf => ?_)
      refine xr_aload_n B dX2_firstWrong_26 rfl rfl ?_
      refine xr_getR B xg_X2_18 xh_45 rfl dX2_firstWrong_27 ?_
      refine xr_iload_n B dX2_firstWrong_30 rfl rfl ?_
      refine xq_iald B xh_48 dX2_firstWrong_31 hf (fun v8 hf => ?_)
      refine xr_ic_eq B (tgt := 37) dX2_firstWrong_32 (by decide) hf (fun _ hf => ?_) (fun _ hf => ?_)
      · refine xr_iinc B (v := (t1 + 1)) (lv2 := [some (.ref (ad 45)), some (.ref (ad 16)), some (.int (t1 + 1))]) dX2_firstWrong_37 rfl (congrArg (t1 + ·) (by decide : Int32.ofInt (1) = 1)) (by decide) rfl ?_
        refine xr_goto B (tgt := 2) dX2_firstWrong_40 (by decide) ?_
        exact hrec2 (t1 + 1) hf
      · refine xr_iload_n B dX2_firstWrong_35 rfl rfl ?_
        obtain rfl := Option.some.inj hf
        exact RR _ _ _ dX2_firstWrong_36 rfl

noncomputable def xf_X3_bedsOf_L6 (σ : xr_S) (a1 : Int32) (a2 : Int32) (K4 : Int32 → Option Int32) (t1 : (Int32 × Int32)) (rec2 : (Int32 × Int32) → Option Int32) : Option Int32 := if (σ.1 9 2) ≤ t1.2 then (K4 t1.1) else (xr_ld σ 12 7 a1 (fun v5 => xr_jn (fun (w6 : Int32) => xr_jn (fun (w8 : Int32) => rec2 (w8, (t1.2 + 1))) (fun j9 => if w6 = 0 then (j9 t1.1) else (xr_jn (fun (w11 : Unit) => xr_v ((t1.1 ||| ((1 : Int32) <<< (t1.2 &&& 31)))) (fun v13 => j9 v13)) (fun j12 => if a2 = (-1) then (j12 ()) else (if a2 = t1.2 then (j12 ()) else (j9 t1.1)))))) (fun j7 => if t1.2 = v5 then (j7 0) else (xr_ld σ 19 7 a1 (fun v14 => (xf_X9_of σ 16 t1.2 v14).bind (fun v15 => if v15 ≤ 0 then (j7 0) else (j7 1)))))))
noncomputable def xf_X3_bedsOf (σ : xr_S) (a1 : Int32) (a2 : Int32) : Option Int32 := xr_lw (xf_X3_bedsOf_L6 σ a1 a2 (fun (e3 : Int32) => some e3)) (0, 0)
set_option maxRecDepth 100000 in
set_option maxHeartbeats 4000000 in
theorem xc_X3_bedsOf (l : Launch) (D : va_G) (ad : Nat → Nat) (ca : Nat → ClassId) (σ : xr_S) (a1 : Int32) (a2 : Int32) (q : Int32) (hf : xf_X3_bedsOf σ a1 a2 = some q) : xr_M l D ad ca yX3_bedsOf cX3_bedsOf 8 (some .int) 1 23 [.ref (ad 41), .ref (ad 9), .ref (ad 15), .int a1, .int a2] σ (some (.int q)) σ := by
  refine xr_openI [some (.ref (ad 41)), some (.ref (ad 9)), some (.ref (ad 15)), some (.int a1), some (.int a2), none, none, none] xm_X3_bedsOf (Nat.le_of_ble_eq_true rfl) rfl (fun J B RR => ?_)
  unfold xf_X3_bedsOf at hf
  refine xr_iconst B (v := 0) dX3_bedsOf_0 (by decide) ?_
  refine xr_istore B (lv2 := [some (.ref (ad 41)), some (.ref (ad 9)), some (.ref (ad 15)), some (.int a1), some (.int a2), some (.int 0), none, none]) dX3_bedsOf_1 (by decide) rfl ?_
  refine xr_iconst B (v := 0) dX3_bedsOf_3 (by decide) ?_
  refine xr_istore B (lv2 := [some (.ref (ad 41)), some (.ref (ad 9)), some (.ref (ad 15)), some (.int a1), some (.int a2), some (.int 0), some (.int 0), none]) dX3_bedsOf_4 (by decide) rfl ?_
  refine xr_forget B (lv2 := [none, some (.ref (ad 9)), some (.ref (ad 15)), some (.int a1), some (.int a2), some (.int 0), some (.int 0), none]) ⟨rfl, ⟨rfl, ⟨rfl, ⟨rfl, ⟨rfl, ⟨rfl, trivial⟩⟩⟩⟩⟩⟩ ?_
  refine xq_loop (fun (t1 : (Int32 × Int32)) => J 6 [none, some (.ref (ad 9)), some (.ref (ad 15)), some (.int a1), some (.int a2), some (.int t1.1), some (.int t1.2), none] [] σ) (fun (e3 : Int32) => J 84 [none, none, none, none, none, some (.int e3), none, none] [] σ) hf (fun e3 hf => ?_) (fun K4 hK4 t1 rec2 hrec2 hf => ?_)
  · refine xr_iload B dX3_bedsOf_84 rfl ?_
    obtain rfl := Option.some.inj hf
    exact RR _ _ _ dX3_bedsOf_86 rfl
  · have hrec2 : ∀ (b1 : Int32) (b2 : Int32), rec2 (b1, b2) = some q → J 6 [none, some (.ref (ad 9)), some (.ref (ad 15)), some (.int a1), some (.int a2), some (.int b1), some (.int b2), none] [] σ := fun b1 b2 h => hrec2 (b1, b2) h
    unfold xf_X3_bedsOf_L6 at hf
    refine xr_iload B dX3_bedsOf_6 rfl ?_
    refine xr_aload_n B dX3_bedsOf_8 rfl rfl ?_
    refine xr_getI B xg_X3_45 xh_9 rfl dX3_bedsOf_9 ?_
    refine xr_ic_ge B (tgt := 84) dX3_bedsOf_12 (by decide) hf (fun _ hf => ?_) (fun _ hf => ?_)
    · refine xr_forget B (lv2 := [none, none, none, none, none, some (.int t1.1), none, none]) ⟨rfl, trivial⟩ ?_
      exact hK4 t1.1 hf
    · refine xr_iload B dX3_bedsOf_15 rfl ?_
      refine xr_aload_n B dX3_bedsOf_17 rfl rfl ?_
      refine xr_getR B xg_X3_51 xh_9 rfl dX3_bedsOf_18 ?_
      refine xr_iload_n B dX3_bedsOf_21 rfl rfl ?_
      refine xq_iald B xh_12 dX3_bedsOf_22 hf (fun v5 hf => ?_)
      refine xr_meet (fun (w6 : Int32) => J 49 [none, some (.ref (ad 9)), some (.ref (ad 15)), some (.int a1), some (.int a2), some (.int t1.1), some (.int t1.2), none] [.int w6] σ) hf (fun w6 hf => ?_) (fun j7 hj7 hf => ?_)
      · refine xr_istore B (lv2 := [none, some (.ref (ad 9)), some (.ref (ad 15)), some (.int a1), some (.int a2), some (.int t1.1), some (.int t1.2), some (.int w6)]) dX3_bedsOf_49 (by decide) rfl ?_
        refine xr_iload B dX3_bedsOf_51 rfl ?_
        refine xr_meet (fun (w8 : Int32) => J 78 [none, some (.ref (ad 9)), some (.ref (ad 15)), some (.int a1), some (.int a2), some (.int w8), some (.int t1.2), none] [] σ) hf (fun w8 hf => ?_) (fun j9 hj9 hf => ?_)
        · refine xr_iinc B (v := (t1.2 + 1)) (lv2 := [none, some (.ref (ad 9)), some (.ref (ad 15)), some (.int a1), some (.int a2), some (.int w8), some (.int (t1.2 + 1)), none]) dX3_bedsOf_78 rfl (congrArg (t1.2 + ·) (by decide : Int32.ofInt (1) = 1)) (by decide) rfl ?_
          refine xr_goto B (tgt := 6) dX3_bedsOf_81 (by decide) ?_
          exact hrec2 w8 (t1.2 + 1) hf
        · refine xr_if_eq B (tgt := 78) dX3_bedsOf_53 (by decide) hf (fun _ hf => ?_) (fun _ hf => ?_)
          · refine xr_forget B (lv2 := [none, some (.ref (ad 9)), some (.ref (ad 15)), some (.int a1), some (.int a2), some (.int t1.1), some (.int t1.2), none]) ⟨rfl, ⟨rfl, ⟨rfl, ⟨rfl, ⟨rfl, ⟨rfl, trivial⟩⟩⟩⟩⟩⟩ ?_
            exact hj9 t1.1 hf
          · refine xr_iload B dX3_bedsOf_56 rfl ?_
            refine xr_iconst B (v := (-1)) dX3_bedsOf_58 (by decide) ?_
            refine xr_meet (fun (w11 : Unit) => J 69 [none, some (.ref (ad 9)), some (.ref (ad 15)), some (.int a1), some (.int a2), some (.int t1.1), some (.int t1.2), none] [] σ) hf (fun w11 hf => ?_) (fun j12 hj12 hf => ?_)
            · refine xr_iload B dX3_bedsOf_69 rfl ?_
              refine xr_iconst B (v := 1) dX3_bedsOf_71 (by decide) ?_
              refine xr_iload B dX3_bedsOf_72 rfl ?_
              refine xr_ishl B dX3_bedsOf_74 ?_
              refine xr_ior B dX3_bedsOf_75 ?_
              refine xr_top _ hf (fun v13 hf => ?_)
              refine xr_istore B (lv2 := [none, some (.ref (ad 9)), some (.ref (ad 15)), some (.int a1), some (.int a2), some (.int v13), some (.int t1.2), none]) dX3_bedsOf_76 (by decide) rfl ?_
              exact hj9 v13 hf
            · refine xr_ic_eq B (tgt := 69) dX3_bedsOf_59 (by decide) hf (fun _ hf => ?_) (fun _ hf => ?_)
              · refine xr_forget B (lv2 := [none, some (.ref (ad 9)), some (.ref (ad 15)), some (.int a1), some (.int a2), some (.int t1.1), some (.int t1.2), none]) ⟨rfl, ⟨rfl, ⟨rfl, ⟨rfl, ⟨rfl, ⟨rfl, trivial⟩⟩⟩⟩⟩⟩ ?_
                exact hj12 () hf
              · refine xr_iload B dX3_bedsOf_62 rfl ?_
                refine xr_iload B dX3_bedsOf_64 rfl ?_
                refine xr_ic_ne B (tgt := 78) dX3_bedsOf_66 (by decide) hf (fun _ hf => ?_) (fun _ hf => ?_)
                · refine xr_forget B (lv2 := [none, some (.ref (ad 9)), some (.ref (ad 15)), some (.int a1), some (.int a2), some (.int t1.1), some (.int t1.2), none]) ⟨rfl, ⟨rfl, ⟨rfl, ⟨rfl, ⟨rfl, ⟨rfl, trivial⟩⟩⟩⟩⟩⟩ ?_
                  exact hj12 () hf
                · refine xr_forget B (lv2 := [none, some (.ref (ad 9)), some (.ref (ad 15)), some (.int a1), some (.int a2), some (.int t1.1), some (.int t1.2), none]) ⟨rfl, ⟨rfl, ⟨rfl, ⟨rfl, ⟨rfl, ⟨rfl, trivial⟩⟩⟩⟩⟩⟩ ?_
                  exact hj9 t1.1 hf
      · refine xr_ic_eq B (tgt := 48) dX3_bedsOf_23 (by decide) hf (fun _ hf => ?_) (fun _ hf => ?_)
        · refine xr_iconst B (v := 0) dX3_bedsOf_48 (by decide) ?_
          exact hj7 0 hf
        · refine xr_aload_n B dX3_bedsOf_26 rfl rfl ?_
          refine xr_getR B xg_X3_54 xh_15 rfl dX3_bedsOf_27 ?_
          refine xr_iload B dX3_bedsOf_30 rfl ?_
          refine xr_aload_n B dX3_bedsOf_32 rfl rfl ?_
          refine xr_getR B xg_X3_58 xh_15 rfl dX3_bedsOf_33 ?_
          refine xr_iload_n B dX3_bedsOf_36 rfl rfl ?_
          refine xq_iald B xh_19 dX3_bedsOf_37 hf (fun v14 hf => ?_)
          refine xr_cVi B (rest := []) [.int t1.2, .int v14] xm_X9_of xv_X3_61 (fun q hq => xc_X9_of l D ad ca σ 16 t1.2 v14 ⟨xh_16, xh_17⟩ q hq) xh_16 rfl rfl (by decide) rfl (Nat.le_of_ble_eq_true rfl) dX3_bedsOf_38 hf (fun v15 hf => ?_)
          refine xr_if_le B (tgt := 48) dX3_bedsOf_41 (by decide) hf (fun _ hf => ?_) (fun _ hf => ?_)
          · refine xr_iconst B (v := 0) dX3_bedsOf_48 (by decide) ?_
            exact hj7 0 hf
          · refine xr_iconst B (v := 1) dX3_bedsOf_44 (by decide) ?_
            refine xr_goto B (tgt := 49) dX3_bedsOf_45 (by decide) ?_
            exact hj7 1 hf

noncomputable def xf_X3_place_L34 (w6 : Int32) (t1 : (Int32 × xr_S)) (K11 : xr_S → Option xr_S) (t8 : (Int32 × xr_S)) (rec9 : (Int32 × xr_S) → Option xr_S) : Option xr_S := if (t8.2.1 9 2) ≤ t8.1 then (K11 t8.2) else (if (w6 >>> (t8.1 &&& 31)) = 0 then (K11 t8.2) else (xr_jn (fun (w12 : xr_S) => rec9 ((t8.1 + 1), w12)) (fun j13 => if ((w6 >>> (t8.1 &&& 31)) &&& 1) = 1 then (xr_ld t8.2 42 64 (t1.1 ||| ((1 : Int32) <<< (t8.1 &&& 31))) (fun v15 => xr_ld t8.2 42 64 t1.1 (fun v16 => xr_st t8.2 42 64 (t1.1 ||| ((1 : Int32) <<< (t8.1 &&& 31))) (v15 + v16) (fun s17 => j13 s17)))) else (j13 t8.2))))
noncomputable def xf_X3_place_L3 (a2 : Int32) (a1 : Int32) (K4 : xr_S → Option xr_S) (t1 : (Int32 × xr_S)) (rec2 : (Int32 × xr_S) → Option xr_S) : Option xr_S := if 64 ≤ t1.1 then (K4 t1.2) else ((xf_J6_bitCount_0f7a4 t1.2 t1.1).bind (fun v5 => xr_jn (fun (w6 : Int32) => xr_lw (xf_X3_place_L34 w6 t1 (fun (e10 : xr_S) => rec2 ((t1.1 + 1), e10))) (0, t1.2)) (fun j7 => if v5 = a2 then (j7 (a1 &&& (t1.1 ^^^ (-1)))) else (j7 0))))
noncomputable def xf_X3_place (σ : xr_S) (a1 : Int32) (a2 : Int32) : Option xr_S := xr_lw (xf_X3_place_L3 a2 a1 (fun (e3 : xr_S) => some e3)) (0, σ)
set_option maxRecDepth 100000 in
set_option maxHeartbeats 4000000 in
theorem xc_X3_place (l : Launch) (D : va_G) (ad : Nat → Nat) (ca : Nat → ClassId) (σ : xr_S) (a1 : Int32) (a2 : Int32) (q : xr_S) (hf : xf_X3_place σ a1 a2 = some q) : xr_M l D ad ca yX3_place cX3_place 7 none 1 20 [.ref (ad 41), .ref (ad 9), .int a1, .int a2] σ none q := by
  refine xr_openV [some (.ref (ad 41)), some (.ref (ad 9)), some (.int a1), some (.int a2), none, none, none] xm_X3_place (Nat.le_of_ble_eq_true rfl) rfl (fun J B RR => ?_)
  unfold xf_X3_place at hf
  refine xr_iconst B (v := 0) dX3_place_0 (by decide) ?_
  refine xr_istore B (lv2 := [some (.ref (ad 41)), some (.ref (ad 9)), some (.int a1), some (.int a2), some (.int 0), none, none]) dX3_place_1 (by decide) rfl ?_
  refine xq_loop (fun (t1 : (Int32 × xr_S)) => J 3 [some (.ref (ad 41)), some (.ref (ad 9)), some (.int a1), some (.int a2), some (.int t1.1), none, none] [] t1.2) (fun (e3 : xr_S) => J 96 [none, none, none, none, none, none, none] [] e3) hf (fun e3 hf => ?_) (fun K4 hK4 t1 rec2 hrec2 hf => ?_)
  · obtain rfl := Option.some.inj hf
    exact RR _ _ dX3_place_96 rfl
  · have hrec2 : ∀ (b1 : Int32) (b2 : xr_S), rec2 (b1, b2) = some q → J 3 [some (.ref (ad 41)), some (.ref (ad 9)), some (.int a1), some (.int a2), some (.int b1), none, none] [] b2 := fun b1 b2 h => hrec2 (b1, b2) h
    unfold xf_X3_place_L3 at hf
    refine xr_iload B dX3_place_3 rfl ?_
    refine xr_bipush B (v := 64) dX3_place_5 (by decide) ?_
    refine xr_ic_ge B (tgt := 96) dX3_place_7 (by decide) hf (fun _ hf => ?_) (fun _ hf => ?_)
    · refine xr_forget B (lv2 := [none, none, none, none, none, none, none]) trivial ?_
      exact hK4 t1.2 hf
    · refine xr_iload B dX3_place_10 rfl ?_
      refine xr_cSi B (rest := []) [.int t1.1] xm_J6_bitCount_0f7a4 xs_X3_67 (fun q hq => xc_J6_bitCount_0f7a4 l D ad ca t1.2 t1.1 q hq) rfl (by decide) rfl (Nat.le_of_ble_eq_true rfl) dX3_place_12 hf (fun v5 hf => ?_)
      refine xr_iload_n B dX3_place_15 rfl rfl ?_
      refine xr_meet (fun (w6 : Int32) => J 29 [some (.ref (ad 41)), some (.ref (ad 9)), some (.int a1), some (.int a2), some (.int t1.1), none, none] [.int w6] t1.2) hf (fun w6 hf => ?_) (fun j7 hj7 hf => ?_)
      · refine xr_istore B (lv2 := [some (.ref (ad 41)), some (.ref (ad 9)), some (.int a1), some (.int a2), some (.int t1.1), some (.int w6), none]) dX3_place_29 (by decide) rfl ?_
        refine xr_iconst B (v := 0) dX3_place_31 (by decide) ?_
        refine xr_istore B (lv2 := [some (.ref (ad 41)), some (.ref (ad 9)), some (.int a1), some (.int a2), some (.int t1.1), some (.int w6), some (.int 0)]) dX3_place_32 (by decide) rfl ?_
        refine xq_loop (fun (t8 : (Int32 × xr_S)) => J 34 [some (.ref (ad 41)), some (.ref (ad 9)), some (.int a1), some (.int a2), some (.int t1.1), some (.int w6), some (.int t8.1)] [] t8.2) (fun (e10 : xr_S) => J 90 [some (.ref (ad 41)), some (.ref (ad 9)), some (.int a1), some (.int a2), some (.int t1.1), none, none] [] e10) hf (fun e10 hf => ?_) (fun K11 hK11 t8 rec9 hrec9 hf => ?_)
        · refine xr_iinc B (v := (t1.1 + 1)) (lv2 := [some (.ref (ad 41)), some (.ref (ad 9)), some (.int a1), some (.int a2), some (.int (t1.1 + 1)), none, none]) dX3_place_90 rfl (congrArg (t1.1 + ·) (by decide : Int32.ofInt (1) = 1)) (by decide) rfl ?_
          refine xr_goto B (tgt := 3) dX3_place_93 (by decide) ?_
          exact hrec2 (t1.1 + 1) e10 hf
        · have hrec9 : ∀ (b1 : Int32) (b2 : xr_S), rec9 (b1, b2) = some q → J 34 [some (.ref (ad 41)), some (.ref (ad 9)), some (.int a1), some (.int a2), some (.int t1.1), some (.int w6), some (.int b1)] [] b2 := fun b1 b2 h => hrec9 (b1, b2) h
          unfold xf_X3_place_L34 at hf
          refine xr_iload B dX3_place_34 rfl ?_
          refine xr_aload_n B dX3_place_36 rfl rfl ?_
          refine xr_getI B xg_X3_45 xh_9 rfl dX3_place_37 ?_
          refine xr_ic_ge B (tgt := 90) dX3_place_40 (by decide) hf (fun _ hf => ?_) (fun _ hf => ?_)
          · refine xr_forget B (lv2 := [some (.ref (ad 41)), some (.ref (ad 9)), some (.int a1), some (.int a2), some (.int t1.1), none, none]) ⟨rfl, ⟨rfl, ⟨rfl, ⟨rfl, ⟨rfl, trivial⟩⟩⟩⟩⟩ ?_
            exact hK11 t8.2 hf
          · refine xr_iload B dX3_place_43 rfl ?_
            refine xr_iload B dX3_place_45 rfl ?_
            refine xr_ishr B dX3_place_47 ?_
            refine xr_if_eq B (tgt := 90) dX3_place_48 (by decide) hf (fun _ hf => ?_) (fun _ hf => ?_)
            · refine xr_forget B (lv2 := [some (.ref (ad 41)), some (.ref (ad 9)), some (.int a1), some (.int a2), some (.int t1.1), none, none]) ⟨rfl, ⟨rfl, ⟨rfl, ⟨rfl, ⟨rfl, trivial⟩⟩⟩⟩⟩ ?_
              exact hK11 t8.2 hf
            · refine xr_iload B dX3_place_51 rfl ?_
              refine xr_iload B dX3_place_53 rfl ?_
              refine xr_ishr B dX3_place_55 ?_
              refine xr_iconst B (v := 1) dX3_place_56 (by decide) ?_
              refine xr_iand B dX3_place_57 ?_
              refine xr_iconst B (v := 1) dX3_place_58 (by decide) ?_
              refine xr_meet (fun (w12 : xr_S) => J 84 [some (.ref (ad 41)), some (.ref (ad 9)), some (.int a1), some (.int a2), some (.int t1.1), some (.int w6), some (.int t8.1)] [] w12) hf (fun w12 hf => ?_) (fun j13 hj13 hf => ?_)
              · refine xr_iinc B (v := (t8.1 + 1)) (lv2 := [some (.ref (ad 41)), some (.ref (ad 9)), some (.int a1), some (.int a2), some (.int t1.1), some (.int w6), some (.int (t8.1 + 1))]) dX3_place_84 rfl (congrArg (t8.1 + ·) (by decide : Int32.ofInt (1) = 1)) (by decide) rfl ?_
                refine xr_goto B (tgt := 34) dX3_place_87 (by decide) ?_
                exact hrec9 (t8.1 + 1) w12 hf
              · refine xr_ic_ne B (tgt := 84) dX3_place_59 (by decide) hf (fun _ hf => ?_) (fun _ hf => ?_)
                · refine xr_aload_n B dX3_place_62 rfl rfl ?_
                  refine xr_getR B xg_X3_9 xh_41 rfl dX3_place_63 ?_
                  refine xr_iload B dX3_place_66 rfl ?_
                  refine xr_iconst B (v := 1) dX3_place_68 (by decide) ?_
                  refine xr_iload B dX3_place_69 rfl ?_
                  refine xr_ishl B dX3_place_71 ?_
                  refine xr_ior B dX3_place_72 ?_
                  refine xr_dup2 B dX3_place_73 rfl rfl ?_
                  refine xq_iald B xh_42 dX3_place_74 hf (fun v15 hf => ?_)
                  refine xr_aload_n B dX3_place_75 rfl rfl ?_
                  refine xr_getR B xg_X3_9 xh_41 rfl dX3_place_76 ?_
                  refine xr_iload B dX3_place_79 rfl ?_
                  refine xq_iald B xh_42 dX3_place_81 hf (fun v16 hf => ?_)
                  refine xr_iadd B dX3_place_82 ?_
                  refine xq_iast B xh_42 dX3_place_83 hf (fun s17 hf => ?_)
                  exact hj13 s17 hf
                · exact hj13 t8.2 hf
      · refine xr_ic_ne B (tgt := 28) dX3_place_16 (by decide) hf (fun _ hf => ?_) (fun _ hf => ?_)
        · refine xr_iload_n B dX3_place_19 rfl rfl ?_
          refine xr_iload B dX3_place_20 rfl ?_
          refine xr_iconst B (v := (-1)) dX3_place_22 (by decide) ?_
          refine xr_ixor B dX3_place_23 ?_
          refine xr_iand B dX3_place_24 ?_
          refine xr_goto B (tgt := 29) dX3_place_25 (by decide) ?_
          exact hj7 (a1 &&& (t1.1 ^^^ (-1))) hf
        · refine xr_iconst B (v := 0) dX3_place_28 (by decide) ?_
          exact hj7 0 hf

noncomputable def xf_X3_countOf_L4 (σ : xr_S) (a1 : Int32) (K4 : Int32 → Option Int32) (t1 : (Int32 × Int32)) (rec2 : (Int32 × Int32) → Option Int32) : Option Int32 := if 64 ≤ t1.2 then (K4 t1.1) else ((xf_J6_bitCount_0f7a4 σ t1.2).bind (fun v5 => xr_jn (fun (w6 : Int32) => rec2 (w6, (t1.2 + 1))) (fun j7 => if v5 = a1 then (xr_ld σ 42 64 t1.2 (fun v9 => xr_v ((t1.1 + v9)) (fun v10 => j7 v10))) else (j7 t1.1))))
noncomputable def xf_X3_countOf (σ : xr_S) (a1 : Int32) : Option Int32 := xr_lw (xf_X3_countOf_L4 σ a1 (fun (e3 : Int32) => some e3)) (0, 0)
set_option maxRecDepth 100000 in
set_option maxHeartbeats 4000000 in
theorem xc_X3_countOf (l : Launch) (D : va_G) (ad : Nat → Nat) (ca : Nat → ClassId) (σ : xr_S) (a1 : Int32) (q : Int32) (hf : xf_X3_countOf σ a1 = some q) : xr_M l D ad ca yX3_countOf cX3_countOf 4 (some .int) 1 20 [.ref (ad 41), .int a1] σ (some (.int q)) σ := by
  refine xr_openI [some (.ref (ad 41)), some (.int a1), none, none] xm_X3_countOf (Nat.le_of_ble_eq_true rfl) rfl (fun J B RR => ?_)
  unfold xf_X3_countOf at hf
  refine xr_iconst B (v := 0) dX3_countOf_0 (by decide) ?_
  refine xr_istore_n B (lv2 := [some (.ref (ad 41)), some (.int a1), some (.int 0), none]) dX3_countOf_1 rfl (by decide) rfl ?_
  refine xr_iconst B (v := 0) dX3_countOf_2 (by decide) ?_
  refine xr_istore_n B (lv2 := [some (.ref (ad 41)), some (.int a1), some (.int 0), some (.int 0)]) dX3_countOf_3 rfl (by decide) rfl ?_
  refine xq_loop (fun (t1 : (Int32 × Int32)) => J 4 [some (.ref (ad 41)), some (.int a1), some (.int t1.1), some (.int t1.2)] [] σ) (fun (e3 : Int32) => J 33 [none, none, some (.int e3), none] [] σ) hf (fun e3 hf => ?_) (fun K4 hK4 t1 rec2 hrec2 hf => ?_)
  · refine xr_iload_n B dX3_countOf_33 rfl rfl ?_
    obtain rfl := Option.some.inj hf
    exact RR _ _ _ dX3_countOf_34 rfl
  · have hrec2 : ∀ (b1 : Int32) (b2 : Int32), rec2 (b1, b2) = some q → J 4 [some (.ref (ad 41)), some (.int a1), some (.int b1), some (.int b2)] [] σ := fun b1 b2 h => hrec2 (b1, b2) h
    unfold xf_X3_countOf_L4 at hf
    refine xr_iload_n B dX3_countOf_4 rfl rfl ?_
    refine xr_bipush B (v := 64) dX3_countOf_5 (by decide) ?_
    refine xr_ic_ge B (tgt := 33) dX3_countOf_7 (by decide) hf (fun _ hf => ?_) (fun _ hf => ?_)
    · refine xr_forget B (lv2 := [none, none, some (.int t1.1), none]) ⟨rfl, trivial⟩ ?_
      exact hK4 t1.1 hf
    · refine xr_iload_n B dX3_countOf_10 rfl rfl ?_
      refine xr_cSi B (rest := []) [.int t1.2] xm_J6_bitCount_0f7a4 xs_X3_67 (fun q hq => xc_J6_bitCount_0f7a4 l D ad ca σ t1.2 q hq) rfl (by decide) rfl (Nat.le_of_ble_eq_true rfl) dX3_countOf_11 hf (fun v5 hf => ?_)
      refine xr_iload_n B dX3_countOf_14 rfl rfl ?_
      refine xr_meet (fun (w6 : Int32) => J 27 [some (.ref (ad 41)), some (.int a1), some (.int w6), some (.int t1.2)] [] σ) hf (fun w6 hf => ?_) (fun j7 hj7 hf => ?_)
      · refine xr_iinc B (v := (t1.2 + 1)) (lv2 := [some (.ref (ad 41)), some (.int a1), some (.int w6), some (.int (t1.2 + 1))]) dX3_countOf_27 rfl (congrArg (t1.2 + ·) (by decide : Int32.ofInt (1) = 1)) (by decide) rfl ?_
        refine xr_goto B (tgt := 4) dX3_countOf_30 (by decide) ?_
        exact hrec2 w6 (t1.2 + 1) hf
      · refine xr_ic_ne B (tgt := 27) dX3_countOf_15 (by decide) hf (fun _ hf => ?_) (fun _ hf => ?_)
        · refine xr_iload_n B dX3_countOf_18 rfl rfl ?_
          refine xr_aload_n B dX3_countOf_19 rfl rfl ?_
          refine xr_getR B xg_X3_9 xh_41 rfl dX3_countOf_20 ?_
          refine xr_iload_n B dX3_countOf_23 rfl rfl ?_
          refine xq_iald B xh_42 dX3_countOf_24 hf (fun v9 hf => ?_)
          refine xr_iadd B dX3_countOf_25 ?_
          refine xr_top _ hf (fun v10 hf => ?_)
          refine xr_istore_n B (lv2 := [some (.ref (ad 41)), some (.int a1), some (.int v10), some (.int t1.2)]) dX3_countOf_26 rfl (by decide) rfl ?_
          exact hj7 v10 hf
        · exact hj7 t1.1 hf

noncomputable def xf_X3_ways_L21 (a1 : Int32) (a2 : Int32) (K6 : (Int32 × xr_S) → Option (Int32 × xr_S)) (t3 : (Int32 × Int32 × xr_S)) (rec4 : (Int32 × Int32 × xr_S) → Option (Int32 × xr_S)) : Option (Int32 × xr_S) := if (t3.2.2.1 9 3) ≤ t3.2.1 then (K6 (t3.1, t3.2.2)) else ((xf_X5_isFresh t3.2.2 t3.2.1).bind (fun v7 => xr_jn (fun (w8 : (Int32 × xr_S)) => rec4 (w8.1, (t3.2.1 + 1), w8.2)) (fun j9 => if v7 = 0 then (xr_jn (fun (w11 : Int32) => (xf_X3_bedsOf t3.2.2 t3.2.1 w11).bind (fun v13 => (xf_X3_place t3.2.2 v13 t3.1).bind (fun s14 => j9 ((t3.1 + 1), s14)))) (fun j12 => if t3.2.1 = a1 then (j12 a2) else (j12 (-1)))) else (j9 (t3.1, t3.2.2)))))
noncomputable def xf_X3_ways (σ : xr_S) (a1 : Int32) (a2 : Int32) : Option (Int32 × xr_S) := (xf_J7_fill_53178 σ 42 64 0).bind (fun s1 => xr_st s1 42 64 0 1 (fun s2 => xr_lw (xf_X3_ways_L21 a1 a2 (fun (e5 : (Int32 × xr_S)) => (xf_X3_countOf e5.2 e5.1).bind (fun v16 => some (v16, e5.2)))) (0, 0, s2)))
set_option maxRecDepth 100000 in
set_option maxHeartbeats 4000000 in
theorem xc_X3_ways (l : Launch) (D : va_G) (ad : Nat → Nat) (ca : Nat → ClassId) (σ : xr_S) (a1 : Int32) (a2 : Int32) (q : (Int32 × xr_S)) (hf : xf_X3_ways σ a1 a2 = some q) : xr_M l D ad ca yX3_ways cX3_ways 8 (some .int) 2 50 [.ref (ad 41), .ref (ad 9), .ref (ad 15), .int a1, .int a2] σ (some (.int q.1)) q.2 := by
  refine xr_openI [some (.ref (ad 41)), some (.ref (ad 9)), some (.ref (ad 15)), some (.int a1), some (.int a2), none, none, none] xm_X3_ways (Nat.le_of_ble_eq_true rfl) rfl (fun J B RR => ?_)
  unfold xf_X3_ways at hf
  refine xr_aload_n B dX3_ways_0 rfl rfl ?_
  refine xr_getR B xg_X3_9 xh_41 rfl dX3_ways_1 ?_
  refine xr_iconst B (v := 0) dX3_ways_4 (by decide) ?_
  refine xr_cSv B (rest := []) [.ref (ad 42), .int 0] xm_J7_fill_53178 xs_X3_15 (fun q hq => xc_J7_fill_53178 l D ad ca σ 42 64 0 xh_42 q hq) rfl (by decide) rfl (Nat.le_of_ble_eq_true rfl) dX3_ways_5 hf (fun s1 hf => ?_)
  refine xr_aload_n B dX3_ways_8 rfl rfl ?_
  refine xr_getR B xg_X3_9 xh_41 rfl dX3_ways_9 ?_
  refine xr_iconst B (v := 0) dX3_ways_12 (by decide) ?_
  refine xr_iconst B (v := 1) dX3_ways_13 (by decide) ?_
  refine xq_iast B xh_42 dX3_ways_14 hf (fun s2 hf => ?_)
  refine xr_iconst B (v := 0) dX3_ways_15 (by decide) ?_
  refine xr_istore B (lv2 := [some (.ref (ad 41)), some (.ref (ad 9)), some (.ref (ad 15)), some (.int a1), some (.int a2), some (.int 0), none, none]) dX3_ways_16 (by decide) rfl ?_
  refine xr_iconst B (v := 0) dX3_ways_18 (by decide) ?_
  refine xr_istore B (lv2 := [some (.ref (ad 41)), some (.ref (ad 9)), some (.ref (ad 15)), some (.int a1), some (.int a2), some (.int 0), some (.int 0), none]) dX3_ways_19 (by decide) rfl ?_
  refine xq_loop (fun (t3 : (Int32 × Int32 × xr_S)) => J 21 [some (.ref (ad 41)), some (.ref (ad 9)), some (.ref (ad 15)), some (.int a1), some (.int a2), some (.int t3.1), some (.int t3.2.1), none] [] t3.2.2) (fun (e5 : (Int32 × xr_S)) => J 79 [some (.ref (ad 41)), none, none, none, none, some (.int e5.1), none, none] [] e5.2) hf (fun e5 hf => ?_) (fun K6 hK6 t3 rec4 hrec4 hf => ?_)
  · refine xr_aload_n B dX3_ways_79 rfl rfl ?_
    refine xr_iload B dX3_ways_80 rfl ?_
    refine xr_cVi B (rest := []) [.int e5.1] xm_X3_countOf xv_X3_41 (fun q hq => xc_X3_countOf l D ad ca e5.2 e5.1 q hq) xh_41 rfl rfl (by decide) rfl (Nat.le_of_ble_eq_true rfl) dX3_ways_82 hf (fun v16 hf => ?_)
    obtain rfl := Option.some.inj hf
    exact RR _ _ _ dX3_ways_85 rfl
  · have hrec4 : ∀ (b1 : Int32) (b2 : Int32) (b3 : xr_S), rec4 (b1, b2, b3) = some q → J 21 [some (.ref (ad 41)), some (.ref (ad 9)), some (.ref (ad 15)), some (.int a1), some (.int a2), some (.int b1), some (.int b2), none] [] b3 := fun b1 b2 b3 h => hrec4 (b1, b2, b3) h
    have hK6 : ∀ (b1 : Int32) (b2 : xr_S), K6 (b1, b2) = some q → J 79 [some (.ref (ad 41)), none, none, none, none, some (.int b1), none, none] [] b2 := fun b1 b2 h => hK6 (b1, b2) h
    unfold xf_X3_ways_L21 at hf
    refine xr_iload B dX3_ways_21 rfl ?_
    refine xr_aload_n B dX3_ways_23 rfl rfl ?_
    refine xr_getI B xg_X3_21 xh_9 rfl dX3_ways_24 ?_
    refine xr_ic_ge B (tgt := 79) dX3_ways_27 (by decide) hf (fun _ hf => ?_) (fun _ hf => ?_)
    · refine xr_forget B (lv2 := [some (.ref (ad 41)), none, none, none, none, some (.int t3.1), none, none]) ⟨rfl, ⟨rfl, trivial⟩⟩ ?_
      exact hK6 t3.1 t3.2.2 hf
    · refine xr_aload_n B dX3_ways_30 rfl rfl ?_
      refine xr_iload B dX3_ways_31 rfl ?_
      refine xr_cVi B (rest := []) [.int t3.2.1] xm_X5_isFresh xv_X3_27 (fun q hq => xc_X5_isFresh l D ad ca t3.2.2 t3.2.1 q hq) xh_15 rfl rfl (by decide) rfl (Nat.le_of_ble_eq_true rfl) dX3_ways_33 hf (fun v7 hf => ?_)
      refine xr_meet (fun (w8 : (Int32 × xr_S)) => J 73 [some (.ref (ad 41)), some (.ref (ad 9)), some (.ref (ad 15)), some (.int a1), some (.int a2), some (.int w8.1), some (.int t3.2.1), none] [] w8.2) hf (fun w8 hf => ?_) (fun j9 hj9 hf => ?_)
      · refine xr_iinc B (v := (t3.2.1 + 1)) (lv2 := [some (.ref (ad 41)), some (.ref (ad 9)), some (.ref (ad 15)), some (.int a1), some (.int a2), some (.int w8.1), some (.int (t3.2.1 + 1)), none]) dX3_ways_73 rfl (congrArg (t3.2.1 + ·) (by decide : Int32.ofInt (1) = 1)) (by decide) rfl ?_
        refine xr_goto B (tgt := 21) dX3_ways_76 (by decide) ?_
        exact hrec4 w8.1 (t3.2.1 + 1) w8.2 hf
      · have hj9 : ∀ (b1 : Int32) (b2 : xr_S), j9 (b1, b2) = some q → J 73 [some (.ref (ad 41)), some (.ref (ad 9)), some (.ref (ad 15)), some (.int a1), some (.int a2), some (.int b1), some (.int t3.2.1), none] [] b2 := fun b1 b2 h => hj9 (b1, b2) h
        refine xr_if_ne B (tgt := 73) dX3_ways_36 (by decide) hf (fun _ hf => ?_) (fun _ hf => ?_)
        · refine xr_iload B dX3_ways_39 rfl ?_
          refine xr_iload_n B dX3_ways_41 rfl rfl ?_
          refine xr_meet (fun (w11 : Int32) => J 51 [some (.ref (ad 41)), some (.ref (ad 9)), some (.ref (ad 15)), some (.int a1), some (.int a2), some (.int t3.1), some (.int t3.2.1), none] [.int w11] t3.2.2) hf (fun w11 hf => ?_) (fun j12 hj12 hf => ?_)
          · refine xr_istore B (lv2 := [some (.ref (ad 41)), some (.ref (ad 9)), some (.ref (ad 15)), some (.int a1), some (.int a2), some (.int t3.1), some (.int t3.2.1), some (.int w11)]) dX3_ways_51 (by decide) rfl ?_
            refine xr_aload_n B dX3_ways_53 rfl rfl ?_
            refine xr_aload_n B dX3_ways_54 rfl rfl ?_
            refine xr_aload_n B dX3_ways_55 rfl rfl ?_
            refine xr_aload_n B dX3_ways_56 rfl rfl ?_
            refine xr_aload_n B dX3_ways_57 rfl rfl ?_
            refine xr_iload B dX3_ways_58 rfl ?_
            refine xr_iload B dX3_ways_60 rfl ?_
            refine xr_cVi B (rest := [.ref (ad 9), .ref (ad 41)]) [.ref (ad 9), .ref (ad 15), .int t3.2.1, .int w11] xm_X3_bedsOf xv_X3_33 (fun q hq => xc_X3_bedsOf l D ad ca t3.2.2 t3.2.1 w11 q hq) xh_41 rfl rfl (by decide) rfl (Nat.le_of_ble_eq_true rfl) dX3_ways_62 hf (fun v13 hf => ?_)
            refine xr_iload B dX3_ways_65 rfl ?_
            refine xr_cVv B (rest := []) [.ref (ad 9), .int v13, .int t3.1] xm_X3_place xv_X3_37 (fun q hq => xc_X3_place l D ad ca t3.2.2 v13 t3.1 q hq) xh_41 rfl rfl (by decide) rfl (Nat.le_of_ble_eq_true rfl) dX3_ways_67 hf (fun s14 hf => ?_)
            refine xr_iinc B (v := (t3.1 + 1)) (lv2 := [some (.ref (ad 41)), some (.ref (ad 9)), some (.ref (ad 15)), some (.int a1), some (.int a2), some (.int (t3.1 + 1)), some (.int t3.2.1), some (.int w11)]) dX3_ways_70 rfl (congrArg (t3.1 + ·) (by decide : Int32.ofInt (1) = 1)) (by decide) rfl ?_
            refine xr_forget B (lv2 := [some (.ref (ad 41)), some (.ref (ad 9)), some (.ref (ad 15)), some (.int a1), some (.int a2), some (.int (t3.1 + 1)), some (.int t3.2.1), none]) ⟨rfl, ⟨rfl, ⟨rfl, ⟨rfl, ⟨rfl, ⟨rfl, ⟨rfl, trivial⟩⟩⟩⟩⟩⟩⟩ ?_
            exact hj9 (t3.1 + 1) s14 hf
          · refine xr_ic_ne B (tgt := 50) dX3_ways_42 (by decide) hf (fun _ hf => ?_) (fun _ hf => ?_)
            · refine xr_iload B dX3_ways_45 rfl ?_
              refine xr_goto B (tgt := 51) dX3_ways_47 (by decide) ?_
              exact hj12 a2 hf
            · refine xr_iconst B (v := (-1)) dX3_ways_50 (by decide) ?_
              exact hj12 (-1) hf
        · exact hj9 t3.1 t3.2.2 hf

noncomputable def xf_X3_sureBed_L16 (a1 : Int32) (K5 : (Int32 × xr_S) → Option (Int32 × xr_S)) (t2 : (Int32 × Int32 × xr_S)) (rec3 : (Int32 × Int32 × xr_S) → Option (Int32 × xr_S)) : Option (Int32 × xr_S) := if (t2.2.2.1 9 2) ≤ t2.2.1 then (K5 (t2.1, t2.2.2)) else ((xf_X3_ways t2.2.2 a1 t2.2.1).bind (fun p6 => xr_jn (fun (w7 : Int32) => rec3 (w7, (t2.2.1 + 1), p6.2)) (fun j8 => if p6.1 ≤ 0 then (j8 t2.1) else (if t2.1 = (-1) then (j8 t2.2.1) else (some ((-1), p6.2))))))
noncomputable def xf_X3_sureBed (σ : xr_S) (a1 : Int32) : Option (Int32 × xr_S) := (xf_X5_isFresh σ a1).bind (fun v1 => if v1 = 0 then (xr_lw (xf_X3_sureBed_L16 a1 (fun (e4 : (Int32 × xr_S)) => some (e4.1, e4.2))) ((-1), 0, σ)) else (some ((-1), σ)))
set_option maxRecDepth 100000 in
set_option maxHeartbeats 4000000 in
theorem xc_X3_sureBed (l : Launch) (D : va_G) (ad : Nat → Nat) (ca : Nat → ClassId) (σ : xr_S) (a1 : Int32) (q : (Int32 × xr_S)) (hf : xf_X3_sureBed σ a1 = some q) : xr_M l D ad ca yX3_sureBed cX3_sureBed 6 (some .int) 3 77 [.ref (ad 41), .ref (ad 9), .ref (ad 15), .int a1] σ (some (.int q.1)) q.2 := by
  refine xr_openI [some (.ref (ad 41)), some (.ref (ad 9)), some (.ref (ad 15)), some (.int a1), none, none] xm_X3_sureBed (Nat.le_of_ble_eq_true rfl) rfl (fun J B RR => ?_)
  unfold xf_X3_sureBed at hf
  refine xr_aload_n B dX3_sureBed_0 rfl rfl ?_
  refine xr_iload_n B dX3_sureBed_1 rfl rfl ?_
  refine xr_cVi B (rest := []) [.int a1] xm_X5_isFresh xv_X3_27 (fun q hq => xc_X5_isFresh l D ad ca σ a1 q hq) xh_15 rfl rfl (by decide) rfl (Nat.le_of_ble_eq_true rfl) dX3_sureBed_2 hf (fun v1 hf => ?_)
  refine xr_if_eq B (tgt := 10) dX3_sureBed_5 (by decide) hf (fun _ hf => ?_) (fun _ hf => ?_)
  · refine xr_iconst B (v := (-1)) dX3_sureBed_10 (by decide) ?_
    refine xr_istore B (lv2 := [some (.ref (ad 41)), some (.ref (ad 9)), some (.ref (ad 15)), some (.int a1), some (.int (-1)), none]) dX3_sureBed_11 (by decide) rfl ?_
    refine xr_iconst B (v := 0) dX3_sureBed_13 (by decide) ?_
    refine xr_istore B (lv2 := [some (.ref (ad 41)), some (.ref (ad 9)), some (.ref (ad 15)), some (.int a1), some (.int (-1)), some (.int 0)]) dX3_sureBed_14 (by decide) rfl ?_
    refine xq_loop (fun (t2 : (Int32 × Int32 × xr_S)) => J 16 [some (.ref (ad 41)), some (.ref (ad 9)), some (.ref (ad 15)), some (.int a1), some (.int t2.1), some (.int t2.2.1)] [] t2.2.2) (fun (e4 : (Int32 × xr_S)) => J 55 [none, none, none, none, some (.int e4.1), none] [] e4.2) hf (fun e4 hf => ?_) (fun K5 hK5 t2 rec3 hrec3 hf => ?_)
    · refine xr_iload B dX3_sureBed_55 rfl ?_
      obtain rfl := Option.some.inj hf
      exact RR _ _ _ dX3_sureBed_57 rfl
    · have hrec3 : ∀ (b1 : Int32) (b2 : Int32) (b3 : xr_S), rec3 (b1, b2, b3) = some q → J 16 [some (.ref (ad 41)), some (.ref (ad 9)), some (.ref (ad 15)), some (.int a1), some (.int b1), some (.int b2)] [] b3 := fun b1 b2 b3 h => hrec3 (b1, b2, b3) h
      have hK5 : ∀ (b1 : Int32) (b2 : xr_S), K5 (b1, b2) = some q → J 55 [none, none, none, none, some (.int b1), none] [] b2 := fun b1 b2 h => hK5 (b1, b2) h
      unfold xf_X3_sureBed_L16 at hf
      refine xr_iload B dX3_sureBed_16 rfl ?_
      refine xr_aload_n B dX3_sureBed_18 rfl rfl ?_
      refine xr_getI B xg_X3_45 xh_9 rfl dX3_sureBed_19 ?_
      refine xr_ic_ge B (tgt := 55) dX3_sureBed_22 (by decide) hf (fun _ hf => ?_) (fun _ hf => ?_)
      · refine xr_forget B (lv2 := [none, none, none, none, some (.int t2.1), none]) ⟨rfl, trivial⟩ ?_
        exact hK5 t2.1 t2.2.2 hf
      · refine xr_aload_n B dX3_sureBed_25 rfl rfl ?_
        refine xr_aload_n B dX3_sureBed_26 rfl rfl ?_
        refine xr_aload_n B dX3_sureBed_27 rfl rfl ?_
        refine xr_iload_n B dX3_sureBed_28 rfl rfl ?_
        refine xr_iload B dX3_sureBed_29 rfl ?_
        refine xr_cVI B (rest := []) [.ref (ad 9), .ref (ad 15), .int a1, .int t2.2.1] xm_X3_ways xv_X3_48 (fun q hq => xc_X3_ways l D ad ca t2.2.2 a1 t2.2.1 q hq) xh_41 rfl rfl (by decide) rfl (Nat.le_of_ble_eq_true rfl) dX3_sureBed_31 hf (fun p6 hf => ?_)
        refine xr_meet (fun (w7 : Int32) => J 49 [some (.ref (ad 41)), some (.ref (ad 9)), some (.ref (ad 15)), some (.int a1), some (.int w7), some (.int t2.2.1)] [] p6.2) hf (fun w7 hf => ?_) (fun j8 hj8 hf => ?_)
        · refine xr_iinc B (v := (t2.2.1 + 1)) (lv2 := [some (.ref (ad 41)), some (.ref (ad 9)), some (.ref (ad 15)), some (.int a1), some (.int w7), some (.int (t2.2.1 + 1))]) dX3_sureBed_49 rfl (congrArg (t2.2.1 + ·) (by decide : Int32.ofInt (1) = 1)) (by decide) rfl ?_
          refine xr_goto B (tgt := 16) dX3_sureBed_52 (by decide) ?_
          exact hrec3 w7 (t2.2.1 + 1) p6.2 hf
        · refine xr_if_le B (tgt := 49) dX3_sureBed_34 (by decide) hf (fun _ hf => ?_) (fun _ hf => ?_)
          · exact hj8 t2.1 hf
          · refine xr_iload B dX3_sureBed_37 rfl ?_
            refine xr_iconst B (v := (-1)) dX3_sureBed_39 (by decide) ?_
            refine xr_ic_eq B (tgt := 45) dX3_sureBed_40 (by decide) hf (fun _ hf => ?_) (fun _ hf => ?_)
            · refine xr_iload B dX3_sureBed_45 rfl ?_
              refine xr_istore B (lv2 := [some (.ref (ad 41)), some (.ref (ad 9)), some (.ref (ad 15)), some (.int a1), some (.int t2.2.1), some (.int t2.2.1)]) dX3_sureBed_47 (by decide) rfl ?_
              exact hj8 t2.2.1 hf
            · refine xr_iconst B (v := (-1)) dX3_sureBed_43 (by decide) ?_
              obtain rfl := Option.some.inj hf
              exact RR _ _ _ dX3_sureBed_44 rfl
  · refine xr_iconst B (v := (-1)) dX3_sureBed_8 (by decide) ?_
    obtain rfl := Option.some.inj hf
    exact RR _ _ _ dX3_sureBed_9 rfl

noncomputable def xf_X8_spread_L8 (a2 : Int32) (a1 : Int32) (K4 : xr_S → Option xr_S) (t1 : (Int32 × xr_S)) (rec2 : (Int32 × xr_S) → Option xr_S) : Option xr_S := if t1.1 < 0 then (K4 t1.2) else (xr_ld t1.2 44 8 t1.1 (fun v5 => xr_nz a2 (xr_v (((v5 * a1) / a2)) (fun v6 => xr_ld t1.2 44 8 t1.1 (fun v7 => xr_st t1.2 44 8 t1.1 (v7 - v6) (fun s8 => xr_ld s8 44 8 (t1.1 + 1) (fun v9 => xr_st s8 44 8 (t1.1 + 1) (v9 + v6) (fun s10 => rec2 ((t1.1 + (-1)), s10)))))))))
noncomputable def xf_X8_spread (σ : xr_S) (a1 : Int32) (a2 : Int32) : Option xr_S := if 0 < a2 then (xr_lw (xf_X8_spread_L8 a2 a1 (fun (e3 : xr_S) => some e3)) (6, σ)) else (some σ)
set_option maxRecDepth 100000 in
set_option maxHeartbeats 4000000 in
theorem xc_X8_spread (l : Launch) (D : va_G) (ad : Nat → Nat) (ca : Nat → ClassId) (σ : xr_S) (a1 : Int32) (a2 : Int32) (q : xr_S) (hf : xf_X8_spread σ a1 a2 = some q) : xr_M l D ad ca yX8_spread cX8_spread 5 none 0 0 [.ref (ad 43), .int a1, .int a2] σ none q := by
  refine xr_openV [some (.ref (ad 43)), some (.int a1), some (.int a2), none, none] xm_X8_spread (Nat.le_of_ble_eq_true rfl) rfl (fun J B RR => ?_)
  unfold xf_X8_spread at hf
  refine xr_iload_n B dX8_spread_0 rfl rfl ?_
  refine xr_if_gt B (tgt := 5) dX8_spread_1 (by decide) hf (fun _ hf => ?_) (fun _ hf => ?_)
  · refine xr_bipush B (v := 6) dX8_spread_5 (by decide) ?_
    refine xr_istore_n B (lv2 := [some (.ref (ad 43)), some (.int a1), some (.int a2), some (.int 6), none]) dX8_spread_7 rfl (by decide) rfl ?_
    refine xq_loop (fun (t1 : (Int32 × xr_S)) => J 8 [some (.ref (ad 43)), some (.int a1), some (.int a2), some (.int t1.1), none] [] t1.2) (fun (e3 : xr_S) => J 54 [none, none, none, none, none] [] e3) hf (fun e3 hf => ?_) (fun K4 hK4 t1 rec2 hrec2 hf => ?_)
    · obtain rfl := Option.some.inj hf
      exact RR _ _ dX8_spread_54 rfl
    · have hrec2 : ∀ (b1 : Int32) (b2 : xr_S), rec2 (b1, b2) = some q → J 8 [some (.ref (ad 43)), some (.int a1), some (.int a2), some (.int b1), none] [] b2 := fun b1 b2 h => hrec2 (b1, b2) h
      unfold xf_X8_spread_L8 at hf
      refine xr_iload_n B dX8_spread_8 rfl rfl ?_
      refine xr_if_lt B (tgt := 54) dX8_spread_9 (by decide) hf (fun _ hf => ?_) (fun _ hf => ?_)
      · refine xr_forget B (lv2 := [none, none, none, none, none]) trivial ?_
        exact hK4 t1.2 hf
      · refine xr_aload_n B dX8_spread_12 rfl rfl ?_
        refine xr_getR B xg_X8_9 xh_43 rfl dX8_spread_13 ?_
        refine xr_iload_n B dX8_spread_16 rfl rfl ?_
        refine xq_iald B xh_44 dX8_spread_17 hf (fun v5 hf => ?_)
        refine xr_iload_n B dX8_spread_18 rfl rfl ?_
        refine xr_imul B dX8_spread_19 ?_
        refine xr_iload_n B dX8_spread_20 rfl rfl ?_
        refine xr_idiv B dX8_spread_21 hf (fun hf => ?_)
        refine xr_top _ hf (fun v6 hf => ?_)
        refine xr_istore B (lv2 := [some (.ref (ad 43)), some (.int a1), some (.int a2), some (.int t1.1), some (.int v6)]) dX8_spread_22 (by decide) rfl ?_
        refine xr_aload_n B dX8_spread_24 rfl rfl ?_
        refine xr_getR B xg_X8_9 xh_43 rfl dX8_spread_25 ?_
        refine xr_iload_n B dX8_spread_28 rfl rfl ?_
        refine xr_dup2 B dX8_spread_29 rfl rfl ?_
        refine xq_iald B xh_44 dX8_spread_30 hf (fun v7 hf => ?_)
        refine xr_iload B dX8_spread_31 rfl ?_
        refine xr_isub B dX8_spread_33 ?_
        refine xq_iast B xh_44 dX8_spread_34 hf (fun s8 hf => ?_)
        refine xr_aload_n B dX8_spread_35 rfl rfl ?_
        refine xr_getR B xg_X8_9 xh_43 rfl dX8_spread_36 ?_
        refine xr_iload_n B dX8_spread_39 rfl rfl ?_
        refine xr_iconst B (v := 1) dX8_spread_40 (by decide) ?_
        refine xr_iadd B dX8_spread_41 ?_
        refine xr_dup2 B dX8_spread_42 rfl rfl ?_
        refine xq_iald B xh_44 dX8_spread_43 hf (fun v9 hf => ?_)
        refine xr_iload B dX8_spread_44 rfl ?_
        refine xr_iadd B dX8_spread_46 ?_
        refine xq_iast B xh_44 dX8_spread_47 hf (fun s10 hf => ?_)
        refine xr_iinc B (v := (t1.1 + (-1))) (lv2 := [some (.ref (ad 43)), some (.int a1), some (.int a2), some (.int (t1.1 + (-1))), some (.int v6)]) dX8_spread_48 rfl (congrArg (t1.1 + ·) (by decide : Int32.ofInt (-1) = -1)) (by decide) rfl ?_
        refine xr_goto B (tgt := 8) dX8_spread_51 (by decide) ?_
        refine xr_forget B (lv2 := [some (.ref (ad 43)), some (.int a1), some (.int a2), some (.int (t1.1 + (-1))), none]) ⟨rfl, ⟨rfl, ⟨rfl, ⟨rfl, trivial⟩⟩⟩⟩ ?_
        exact hrec2 (t1.1 + (-1)) s10 hf
  · obtain rfl := Option.some.inj hf
    exact RR _ _ dX8_spread_4 rfl

noncomputable def xf_X8_atLeast_L19  (K6 : xr_S → Option (Int32 × xr_S)) (t3 : (Int32 × xr_S)) (rec4 : (Int32 × xr_S) → Option (Int32 × xr_S)) : Option (Int32 × xr_S) := if (t3.2.1 9 3) ≤ t3.1 then (K6 t3.2) else (xr_ld t3.2 18 7 t3.1 (fun v7 => xr_jn (fun (w8 : xr_S) => rec4 ((t3.1 + 1), w8)) (fun j9 => if v7 = (-1) then (j9 t3.2) else ((xf_X5_isAwake t3.2 v7).bind (fun v11 => if v11 = 0 then (xr_ld t3.2 13 7 t3.1 (fun v12 => (xf_X9_of t3.2 16 v7 v12).bind (fun v13 => (xf_X9_all t3.2 16 v7).bind (fun v14 => (xf_X8_spread t3.2 v13 v14).bind (fun s15 => j9 s15))))) else (j9 t3.2))))))
noncomputable def xf_X8_atLeast_L93 (e5 : xr_S) (K19 : Int32 → Option (Int32 × xr_S)) (t16 : (Int32 × Int32)) (rec17 : (Int32 × Int32) → Option (Int32 × xr_S)) : Option (Int32 × xr_S) := if 7 < t16.2 then (K19 t16.1) else (xr_ld e5 44 8 t16.2 (fun v20 => xr_v ((t16.1 + v20)) (fun v21 => rec17 (v21, (t16.2 + 1)))))
noncomputable def xf_X8_atLeast (σ : xr_S) (a1 : Int32) : Option (Int32 × xr_S) := (xf_J7_fill_53178 σ 44 8 0).bind (fun s1 => xr_st s1 44 8 0 1000000 (fun s2 => xr_lw (xf_X8_atLeast_L19 (fun (e5 : xr_S) => xr_lw (xf_X8_atLeast_L93 e5 (fun (e18 : Int32) => some (e18, e5))) (0, a1))) (0, s2)))
set_option maxRecDepth 100000 in
set_option maxHeartbeats 4000000 in
theorem xc_X8_atLeast (l : Launch) (D : va_G) (ad : Nat → Nat) (ca : Nat → ClassId) (σ : xr_S) (a1 : Int32) (q : (Int32 × xr_S)) (hf : xf_X8_atLeast σ a1 = some q) : xr_M l D ad ca yX8_atLeast cX8_atLeast 6 (some .int) 1 24 [.ref (ad 43), .ref (ad 9), .ref (ad 15), .int a1] σ (some (.int q.1)) q.2 := by
  refine xr_openI [some (.ref (ad 43)), some (.ref (ad 9)), some (.ref (ad 15)), some (.int a1), none, none] xm_X8_atLeast (Nat.le_of_ble_eq_true rfl) rfl (fun J B RR => ?_)
  unfold xf_X8_atLeast at hf
  refine xr_aload_n B dX8_atLeast_0 rfl rfl ?_
  refine xr_getR B xg_X8_9 xh_43 rfl dX8_atLeast_1 ?_
  refine xr_iconst B (v := 0) dX8_atLeast_4 (by decide) ?_
  refine xr_cSv B (rest := []) [.ref (ad 44), .int 0] xm_J7_fill_53178 xs_X8_15 (fun q hq => xc_J7_fill_53178 l D ad ca σ 44 8 0 xh_44 q hq) rfl (by decide) rfl (Nat.le_of_ble_eq_true rfl) dX8_atLeast_5 hf (fun s1 hf => ?_)
  refine xr_aload_n B dX8_atLeast_8 rfl rfl ?_
  refine xr_getR B xg_X8_9 xh_43 rfl dX8_atLeast_9 ?_
  refine xr_iconst B (v := 0) dX8_atLeast_12 (by decide) ?_
  refine xr_ldc B xk_X8_21 dX8_atLeast_13 ?_
  refine xq_iast B xh_44 dX8_atLeast_15 hf (fun s2 hf => ?_)
  refine xr_iconst B (v := 0) dX8_atLeast_16 (by decide) ?_
  refine xr_istore B (lv2 := [some (.ref (ad 43)), some (.ref (ad 9)), some (.ref (ad 15)), some (.int a1), some (.int 0), none]) dX8_atLeast_17 (by decide) rfl ?_
  refine xq_loop (fun (t3 : (Int32 × xr_S)) => J 19 [some (.ref (ad 43)), some (.ref (ad 9)), some (.ref (ad 15)), some (.int a1), some (.int t3.1), none] [] t3.2) (fun (e5 : xr_S) => J 87 [some (.ref (ad 43)), none, none, some (.int a1), none, none] [] e5) hf (fun e5 hf => ?_) (fun K6 hK6 t3 rec4 hrec4 hf => ?_)
  · refine xr_iconst B (v := 0) dX8_atLeast_87 (by decide) ?_
    refine xr_istore B (lv2 := [some (.ref (ad 43)), none, none, some (.int a1), some (.int 0), none]) dX8_atLeast_88 (by decide) rfl ?_
    refine xr_iload_n B dX8_atLeast_90 rfl rfl ?_
    refine xr_istore B (lv2 := [some (.ref (ad 43)), none, none, some (.int a1), some (.int 0), some (.int a1)]) dX8_atLeast_91 (by decide) rfl ?_
    refine xr_forget B (lv2 := [some (.ref (ad 43)), none, none, none, some (.int 0), some (.int a1)]) ⟨rfl, ⟨rfl, ⟨rfl, trivial⟩⟩⟩ ?_
    refine xq_loop (fun (t16 : (Int32 × Int32)) => J 93 [some (.ref (ad 43)), none, none, none, some (.int t16.1), some (.int t16.2)] [] e5) (fun (e18 : Int32) => J 118 [none, none, none, none, some (.int e18), none] [] e5) hf (fun e18 hf => ?_) (fun K19 hK19 t16 rec17 hrec17 hf => ?_)
    · refine xr_iload B dX8_atLeast_118 rfl ?_
      obtain rfl := Option.some.inj hf
      exact RR _ _ _ dX8_atLeast_120 rfl
    · have hrec17 : ∀ (b1 : Int32) (b2 : Int32), rec17 (b1, b2) = some q → J 93 [some (.ref (ad 43)), none, none, none, some (.int b1), some (.int b2)] [] e5 := fun b1 b2 h => hrec17 (b1, b2) h
      unfold xf_X8_atLeast_L93 at hf
      refine xr_iload B dX8_atLeast_93 rfl ?_
      refine xr_bipush B (v := 7) dX8_atLeast_95 (by decide) ?_
      refine xr_ic_gt B (tgt := 118) dX8_atLeast_97 (by decide) hf (fun _ hf => ?_) (fun _ hf => ?_)
      · refine xr_forget B (lv2 := [none, none, none, none, some (.int t16.1), none]) ⟨rfl, trivial⟩ ?_
        exact hK19 t16.1 hf
      · refine xr_iload B dX8_atLeast_100 rfl ?_
        refine xr_aload_n B dX8_atLeast_102 rfl rfl ?_
        refine xr_getR B xg_X8_9 xh_43 rfl dX8_atLeast_103 ?_
        refine xr_iload B dX8_atLeast_106 rfl ?_
        refine xq_iald B xh_44 dX8_atLeast_108 hf (fun v20 hf => ?_)
        refine xr_iadd B dX8_atLeast_109 ?_
        refine xr_top _ hf (fun v21 hf => ?_)
        refine xr_istore B (lv2 := [some (.ref (ad 43)), none, none, none, some (.int v21), some (.int t16.2)]) dX8_atLeast_110 (by decide) rfl ?_
        refine xr_iinc B (v := (t16.2 + 1)) (lv2 := [some (.ref (ad 43)), none, none, none, some (.int v21), some (.int (t16.2 + 1))]) dX8_atLeast_112 rfl (congrArg (t16.2 + ·) (by decide : Int32.ofInt (1) = 1)) (by decide) rfl ?_
        refine xr_goto B (tgt := 93) dX8_atLeast_115 (by decide) ?_
        exact hrec17 v21 (t16.2 + 1) hf
  · have hrec4 : ∀ (b1 : Int32) (b2 : xr_S), rec4 (b1, b2) = some q → J 19 [some (.ref (ad 43)), some (.ref (ad 9)), some (.ref (ad 15)), some (.int a1), some (.int b1), none] [] b2 := fun b1 b2 h => hrec4 (b1, b2) h
    unfold xf_X8_atLeast_L19 at hf
    refine xr_iload B dX8_atLeast_19 rfl ?_
    refine xr_aload_n B dX8_atLeast_21 rfl rfl ?_
    refine xr_getI B xg_X8_22 xh_9 rfl dX8_atLeast_22 ?_
    refine xr_ic_ge B (tgt := 87) dX8_atLeast_25 (by decide) hf (fun _ hf => ?_) (fun _ hf => ?_)
    · refine xr_forget B (lv2 := [some (.ref (ad 43)), none, none, some (.int a1), none, none]) ⟨rfl, ⟨rfl, trivial⟩⟩ ?_
      exact hK6 t3.2 hf
    · refine xr_aload_n B dX8_atLeast_28 rfl rfl ?_
      refine xr_getR B xg_X8_28 xh_15 rfl dX8_atLeast_29 ?_
      refine xr_iload B dX8_atLeast_32 rfl ?_
      refine xq_iald B xh_18 dX8_atLeast_34 hf (fun v7 hf => ?_)
      refine xr_istore B (lv2 := [some (.ref (ad 43)), some (.ref (ad 9)), some (.ref (ad 15)), some (.int a1), some (.int t3.1), some (.int v7)]) dX8_atLeast_35 (by decide) rfl ?_
      refine xr_iload B dX8_atLeast_37 rfl ?_
      refine xr_iconst B (v := (-1)) dX8_atLeast_39 (by decide) ?_
      refine xr_meet (fun (w8 : xr_S) => J 81 [some (.ref (ad 43)), some (.ref (ad 9)), some (.ref (ad 15)), some (.int a1), some (.int t3.1), none] [] w8) hf (fun w8 hf => ?_) (fun j9 hj9 hf => ?_)
      · refine xr_iinc B (v := (t3.1 + 1)) (lv2 := [some (.ref (ad 43)), some (.ref (ad 9)), some (.ref (ad 15)), some (.int a1), some (.int (t3.1 + 1)), none]) dX8_atLeast_81 rfl (congrArg (t3.1 + ·) (by decide : Int32.ofInt (1) = 1)) (by decide) rfl ?_
        refine xr_goto B (tgt := 19) dX8_atLeast_84 (by decide) ?_
        exact hrec4 (t3.1 + 1) w8 hf
      · refine xr_ic_eq B (tgt := 81) dX8_atLeast_40 (by decide) hf (fun _ hf => ?_) (fun _ hf => ?_)
        · refine xr_forget B (lv2 := [some (.ref (ad 43)), some (.ref (ad 9)), some (.ref (ad 15)), some (.int a1), some (.int t3.1), none]) ⟨rfl, ⟨rfl, ⟨rfl, ⟨rfl, ⟨rfl, trivial⟩⟩⟩⟩⟩ ?_
          exact hj9 t3.2 hf
        · refine xr_aload_n B dX8_atLeast_43 rfl rfl ?_
          refine xr_iload B dX8_atLeast_44 rfl ?_
          refine xr_cVi B (rest := []) [.int v7] xm_X5_isAwake xv_X8_33 (fun q hq => xc_X5_isAwake l D ad ca t3.2 v7 q hq) xh_15 rfl rfl (by decide) rfl (Nat.le_of_ble_eq_true rfl) dX8_atLeast_46 hf (fun v11 hf => ?_)
          refine xr_if_ne B (tgt := 81) dX8_atLeast_49 (by decide) hf (fun _ hf => ?_) (fun _ hf => ?_)
          · refine xr_aload_n B dX8_atLeast_52 rfl rfl ?_
            refine xr_aload_n B dX8_atLeast_53 rfl rfl ?_
            refine xr_getR B xg_X8_37 xh_15 rfl dX8_atLeast_54 ?_
            refine xr_iload B dX8_atLeast_57 rfl ?_
            refine xr_aload_n B dX8_atLeast_59 rfl rfl ?_
            refine xr_getR B xg_X8_41 xh_9 rfl dX8_atLeast_60 ?_
            refine xr_iload B dX8_atLeast_63 rfl ?_
            refine xq_iald B xh_13 dX8_atLeast_65 hf (fun v12 hf => ?_)
            refine xr_cVi B (rest := [.ref (ad 43)]) [.int v7, .int v12] xm_X9_of xv_X8_44 (fun q hq => xc_X9_of l D ad ca t3.2 16 v7 v12 ⟨xh_16, xh_17⟩ q hq) xh_16 rfl rfl (by decide) rfl (Nat.le_of_ble_eq_true rfl) dX8_atLeast_66 hf (fun v13 hf => ?_)
            refine xr_aload_n B dX8_atLeast_69 rfl rfl ?_
            refine xr_getR B xg_X8_37 xh_15 rfl dX8_atLeast_70 ?_
            refine xr_iload B dX8_atLeast_73 rfl ?_
            refine xr_cVi B (rest := [.int v13, .ref (ad 43)]) [.int v7] xm_X9_all xv_X8_50 (fun q hq => xc_X9_all l D ad ca t3.2 16 v7 ⟨xh_16, xh_17⟩ q hq) xh_16 rfl rfl (by decide) rfl (Nat.le_of_ble_eq_true rfl) dX8_atLeast_75 hf (fun v14 hf => ?_)
            refine xr_cVv B (rest := []) [.int v13, .int v14] xm_X8_spread xv_X8_54 (fun q hq => xc_X8_spread l D ad ca t3.2 v13 v14 q hq) xh_43 rfl rfl (by decide) rfl (Nat.le_of_ble_eq_true rfl) dX8_atLeast_78 hf (fun s15 hf => ?_)
            refine xr_forget B (lv2 := [some (.ref (ad 43)), some (.ref (ad 9)), some (.ref (ad 15)), some (.int a1), some (.int t3.1), none]) ⟨rfl, ⟨rfl, ⟨rfl, ⟨rfl, ⟨rfl, trivial⟩⟩⟩⟩⟩ ?_
            exact hj9 s15 hf
          · refine xr_forget B (lv2 := [some (.ref (ad 43)), some (.ref (ad 9)), some (.ref (ad 15)), some (.int a1), some (.int t3.1), none]) ⟨rfl, ⟨rfl, ⟨rfl, ⟨rfl, ⟨rfl, trivial⟩⟩⟩⟩⟩ ?_
            exact hj9 t3.2 hf
